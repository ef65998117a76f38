section
/-- a private method of a class that the tables say can be made, by its rows of tables_1 -/
def lw_okq (q : MethodName × Nat) : Prop := (q.1.cls ≠ "java/lang/invoke/MethodHandle" ∧ q.1.cls ≠ "java/lang/invoke/VarHandle") ∧ Cond.instantiable q.1.cls q.2 ∈ tables_1 ∧ Cond.privateMethod q.1 ∈ tables_1 ∧ Cond.instanceMethod q.1 ∈ tables_1
theorem lw_p0 : lw_okq (⟨"CutFromOthers$Form", "addPlaces", "(I)V"⟩, 6) := ⟨⟨by decide +kernel, by decide +kernel⟩, List.mem_of_getElem? (i := 37) (by decide +kernel), List.mem_of_getElem? (i := 321) (by decide +kernel), List.mem_of_getElem? (i := 322) (by decide +kernel)⟩
theorem lw_p1 : lw_okq (⟨"CutFromOthers$Stock", "relate", "(I)V"⟩, 5) := ⟨⟨by decide +kernel, by decide +kernel⟩, List.mem_of_getElem? (i := 30) (by decide +kernel), List.mem_of_getElem? (i := 338) (by decide +kernel), List.mem_of_getElem? (i := 339) (by decide +kernel)⟩
theorem lw_p2 : lw_okq (⟨"CutFromOthers$Stock", "sortIn", "(I)V"⟩, 5) := ⟨⟨by decide +kernel, by decide +kernel⟩, List.mem_of_getElem? (i := 30) (by decide +kernel), List.mem_of_getElem? (i := 354) (by decide +kernel), List.mem_of_getElem? (i := 355) (by decide +kernel)⟩
theorem lw_p3 : lw_okq (⟨"CutFromOthers", "figuresCome", "(III)I"⟩, 10) := ⟨⟨by decide +kernel, by decide +kernel⟩, List.mem_of_getElem? (i := 22) (by decide +kernel), List.mem_of_getElem? (i := 370) (by decide +kernel), List.mem_of_getElem? (i := 371) (by decide +kernel)⟩
theorem lw_p4 : lw_okq (⟨"CutFromOthers$Tape", "readLine", "()Z"⟩, 5) := ⟨⟨by decide +kernel, by decide +kernel⟩, List.mem_of_getElem? (i := 85) (by decide +kernel), List.mem_of_getElem? (i := 452) (by decide +kernel), List.mem_of_getElem? (i := 453) (by decide +kernel)⟩
theorem lw_p5 : lw_okq (⟨"CutFromOthers$Tape", "readJoined", "(II)Z"⟩, 5) := ⟨⟨by decide +kernel, by decide +kernel⟩, List.mem_of_getElem? (i := 85) (by decide +kernel), List.mem_of_getElem? (i := 456) (by decide +kernel), List.mem_of_getElem? (i := 457) (by decide +kernel)⟩
theorem lw_p6 : lw_okq (⟨"CutFromOthers$Tape", "readOperand", "(I)Z"⟩, 5) := ⟨⟨by decide +kernel, by decide +kernel⟩, List.mem_of_getElem? (i := 85) (by decide +kernel), List.mem_of_getElem? (i := 460) (by decide +kernel), List.mem_of_getElem? (i := 461) (by decide +kernel)⟩
theorem lw_p7 : lw_okq (⟨"CutFromOthers$Tape", "isDigit", "()Z"⟩, 5) := ⟨⟨by decide +kernel, by decide +kernel⟩, List.mem_of_getElem? (i := 85) (by decide +kernel), List.mem_of_getElem? (i := 464) (by decide +kernel), List.mem_of_getElem? (i := 465) (by decide +kernel)⟩
theorem lw_p8 : lw_okq (⟨"CutFromOthers$Tape", "readNumber", "()V"⟩, 5) := ⟨⟨by decide +kernel, by decide +kernel⟩, List.mem_of_getElem? (i := 85) (by decide +kernel), List.mem_of_getElem? (i := 468) (by decide +kernel), List.mem_of_getElem? (i := 469) (by decide +kernel)⟩
theorem lw_p9 : lw_okq (⟨"CutFromOthers$Tape", "write", "(I)V"⟩, 5) := ⟨⟨by decide +kernel, by decide +kernel⟩, List.mem_of_getElem? (i := 85) (by decide +kernel), List.mem_of_getElem? (i := 472) (by decide +kernel), List.mem_of_getElem? (i := 473) (by decide +kernel)⟩
theorem lw_p10 : lw_okq (⟨"CutFromOthers$Tape", "isAhead", "(Ljava/lang/String;)Z"⟩, 5) := ⟨⟨by decide +kernel, by decide +kernel⟩, List.mem_of_getElem? (i := 85) (by decide +kernel), List.mem_of_getElem? (i := 477) (by decide +kernel), List.mem_of_getElem? (i := 478) (by decide +kernel)⟩
theorem lw_p11 : lw_okq (⟨"CutFromOthers$Tape", "accepts", "(C)Z"⟩, 5) := ⟨⟨by decide +kernel, by decide +kernel⟩, List.mem_of_getElem? (i := 85) (by decide +kernel), List.mem_of_getElem? (i := 567) (by decide +kernel), List.mem_of_getElem? (i := 568) (by decide +kernel)⟩
theorem lw_p12 : lw_okq (⟨"CutFromOthers$Rule", "workOut", "()I"⟩, 5) := ⟨⟨by decide +kernel, by decide +kernel⟩, List.mem_of_getElem? (i := 107) (by decide +kernel), List.mem_of_getElem? (i := 610) (by decide +kernel), List.mem_of_getElem? (i := 611) (by decide +kernel)⟩
theorem lw_p13 : lw_okq (⟨"CutFromOthers$Rule", "pop", "()I"⟩, 5) := ⟨⟨by decide +kernel, by decide +kernel⟩, List.mem_of_getElem? (i := 107) (by decide +kernel), List.mem_of_getElem? (i := 614) (by decide +kernel), List.mem_of_getElem? (i := 615) (by decide +kernel)⟩
theorem lw_p14 : lw_okq (⟨"CutFromOthers$Rule", "step", "(I)V"⟩, 5) := ⟨⟨by decide +kernel, by decide +kernel⟩, List.mem_of_getElem? (i := 107) (by decide +kernel), List.mem_of_getElem? (i := 618) (by decide +kernel), List.mem_of_getElem? (i := 619) (by decide +kernel)⟩
theorem lw_p15 : lw_okq (⟨"CutFromOthers$Rule", "push", "(I)V"⟩, 5) := ⟨⟨by decide +kernel, by decide +kernel⟩, List.mem_of_getElem? (i := 107) (by decide +kernel), List.mem_of_getElem? (i := 622) (by decide +kernel), List.mem_of_getElem? (i := 623) (by decide +kernel)⟩
def lw_privs_1 : List (MethodName × Nat) := [(⟨"CutFromOthers$Form", "addPlaces", "(I)V"⟩, 6), (⟨"CutFromOthers$Stock", "relate", "(I)V"⟩, 5), (⟨"CutFromOthers$Stock", "sortIn", "(I)V"⟩, 5), (⟨"CutFromOthers", "figuresCome", "(III)I"⟩, 10), (⟨"CutFromOthers$Tape", "readLine", "()Z"⟩, 5), (⟨"CutFromOthers$Tape", "readJoined", "(II)Z"⟩, 5), (⟨"CutFromOthers$Tape", "readOperand", "(I)Z"⟩, 5), (⟨"CutFromOthers$Tape", "isDigit", "()Z"⟩, 5), (⟨"CutFromOthers$Tape", "readNumber", "()V"⟩, 5), (⟨"CutFromOthers$Tape", "write", "(I)V"⟩, 5), (⟨"CutFromOthers$Tape", "isAhead", "(Ljava/lang/String;)Z"⟩, 5), (⟨"CutFromOthers$Tape", "accepts", "(C)Z"⟩, 5), (⟨"CutFromOthers$Rule", "workOut", "()I"⟩, 5), (⟨"CutFromOthers$Rule", "pop", "()I"⟩, 5), (⟨"CutFromOthers$Rule", "step", "(I)V"⟩, 5), (⟨"CutFromOthers$Rule", "push", "(I)V"⟩, 5)]
theorem lw_r1 : ∀ q ∈ lw_privs_1, lw_okq q := List.forall_mem_cons.mpr ⟨lw_p0, List.forall_mem_cons.mpr ⟨lw_p1, List.forall_mem_cons.mpr ⟨lw_p2, List.forall_mem_cons.mpr ⟨lw_p3, List.forall_mem_cons.mpr ⟨lw_p4, List.forall_mem_cons.mpr ⟨lw_p5, List.forall_mem_cons.mpr ⟨lw_p6, List.forall_mem_cons.mpr ⟨lw_p7, List.forall_mem_cons.mpr ⟨lw_p8, List.forall_mem_cons.mpr ⟨lw_p9, List.forall_mem_cons.mpr ⟨lw_p10, List.forall_mem_cons.mpr ⟨lw_p11, List.forall_mem_cons.mpr ⟨lw_p12, List.forall_mem_cons.mpr ⟨lw_p13, List.forall_mem_cons.mpr ⟨lw_p14, List.forall_mem_cons.mpr ⟨lw_p15, fun _ h => absurd h List.not_mem_nil⟩⟩⟩⟩⟩⟩⟩⟩⟩⟩⟩⟩⟩⟩⟩⟩
theorem lw_p16 : lw_okq (⟨"CutFromOthers", "isBlockAndFigure", "(I)Z"⟩, 10) := ⟨⟨by decide +kernel, by decide +kernel⟩, List.mem_of_getElem? (i := 22) (by decide +kernel), List.mem_of_getElem? (i := 647) (by decide +kernel), List.mem_of_getElem? (i := 648) (by decide +kernel)⟩
theorem lw_p17 : lw_okq (⟨"CutFromOthers", "isTwoFigures", "(I)Z"⟩, 10) := ⟨⟨by decide +kernel, by decide +kernel⟩, List.mem_of_getElem? (i := 22) (by decide +kernel), List.mem_of_getElem? (i := 666) (by decide +kernel), List.mem_of_getElem? (i := 667) (by decide +kernel)⟩
theorem lw_p18 : lw_okq (⟨"CutFromOthers", "firstOutOf", "(I)I"⟩, 10) := ⟨⟨by decide +kernel, by decide +kernel⟩, List.mem_of_getElem? (i := 22) (by decide +kernel), List.mem_of_getElem? (i := 698) (by decide +kernel), List.mem_of_getElem? (i := 699) (by decide +kernel)⟩
theorem lw_p19 : lw_okq (⟨"CutFromOthers$Rows", "firstOfLength", "(II)I"⟩, 7) := ⟨⟨by decide +kernel, by decide +kernel⟩, List.mem_of_getElem? (i := 129) (by decide +kernel), List.mem_of_getElem? (i := 727) (by decide +kernel), List.mem_of_getElem? (i := 728) (by decide +kernel)⟩
theorem lw_p20 : lw_okq (⟨"CutFromOthers$Rows", "richestNext", "(II)I"⟩, 7) := ⟨⟨by decide +kernel, by decide +kernel⟩, List.mem_of_getElem? (i := 129) (by decide +kernel), List.mem_of_getElem? (i := 739) (by decide +kernel), List.mem_of_getElem? (i := 740) (by decide +kernel)⟩
theorem lw_p21 : lw_okq (⟨"CutFromOthers$Form", "unlikePlaces", "()I"⟩, 6) := ⟨⟨by decide +kernel, by decide +kernel⟩, List.mem_of_getElem? (i := 37) (by decide +kernel), List.mem_of_getElem? (i := 785) (by decide +kernel), List.mem_of_getElem? (i := 786) (by decide +kernel)⟩
theorem lw_p22 : lw_okq (⟨"CutFromOthers", "partOf", "(I)I"⟩, 10) := ⟨⟨by decide +kernel, by decide +kernel⟩, List.mem_of_getElem? (i := 22) (by decide +kernel), List.mem_of_getElem? (i := 816) (by decide +kernel), List.mem_of_getElem? (i := 817) (by decide +kernel)⟩
theorem lw_p23 : lw_okq (⟨"CutFromOthers", "refusalOfTold", "(II)I"⟩, 10) := ⟨⟨by decide +kernel, by decide +kernel⟩, List.mem_of_getElem? (i := 22) (by decide +kernel), List.mem_of_getElem? (i := 825) (by decide +kernel), List.mem_of_getElem? (i := 826) (by decide +kernel)⟩
theorem lw_p24 : lw_okq (⟨"CutFromOthers$Told", "meant", "(J)I"⟩, 4) := ⟨⟨by decide +kernel, by decide +kernel⟩, List.mem_of_getElem? (i := 157) (by decide +kernel), List.mem_of_getElem? (i := 838) (by decide +kernel), List.mem_of_getElem? (i := 839) (by decide +kernel)⟩
theorem lw_p25 : lw_okq (⟨"CutFromOthers$Told", "goOn", "(I)V"⟩, 4) := ⟨⟨by decide +kernel, by decide +kernel⟩, List.mem_of_getElem? (i := 157) (by decide +kernel), List.mem_of_getElem? (i := 858) (by decide +kernel), List.mem_of_getElem? (i := 859) (by decide +kernel)⟩
theorem lw_p26 : lw_okq (⟨"CutFromOthers$Rows", "nth", "(II)I"⟩, 7) := ⟨⟨by decide +kernel, by decide +kernel⟩, List.mem_of_getElem? (i := 129) (by decide +kernel), List.mem_of_getElem? (i := 890) (by decide +kernel), List.mem_of_getElem? (i := 891) (by decide +kernel)⟩
theorem lw_p27 : lw_okq (⟨"CutFromOthers$Stones", "own", "(IIII)I"⟩, 4) := ⟨⟨by decide +kernel, by decide +kernel⟩, List.mem_of_getElem? (i := 226) (by decide +kernel), List.mem_of_getElem? (i := 973) (by decide +kernel), List.mem_of_getElem? (i := 974) (by decide +kernel)⟩
theorem lw_p28 : lw_okq (⟨"CutFromOthers$Stones", "answer", "(IIIII)I"⟩, 4) := ⟨⟨by decide +kernel, by decide +kernel⟩, List.mem_of_getElem? (i := 226) (by decide +kernel), List.mem_of_getElem? (i := 977) (by decide +kernel), List.mem_of_getElem? (i := 978) (by decide +kernel)⟩
theorem lw_p29 : lw_okq (⟨"CutFromOthers$Stones", "note", "(I)V"⟩, 4) := ⟨⟨by decide +kernel, by decide +kernel⟩, List.mem_of_getElem? (i := 226) (by decide +kernel), List.mem_of_getElem? (i := 985) (by decide +kernel), List.mem_of_getElem? (i := 986) (by decide +kernel)⟩
theorem lw_p30 : lw_okq (⟨"CutFromOthers", "refusalOfElement", "(II)I"⟩, 10) := ⟨⟨by decide +kernel, by decide +kernel⟩, List.mem_of_getElem? (i := 22) (by decide +kernel), List.mem_of_getElem? (i := 1019) (by decide +kernel), List.mem_of_getElem? (i := 1020) (by decide +kernel)⟩
theorem lw_p31 : lw_okq (⟨"CutFromOthersModel", "newFigure", "(II)I"⟩, 50) := ⟨⟨by decide +kernel, by decide +kernel⟩, List.mem_of_getElem? (i := 1084) (by decide +kernel), List.mem_of_getElem? (i := 1252) (by decide +kernel), List.mem_of_getElem? (i := 1253) (by decide +kernel)⟩
def lw_privs_2 : List (MethodName × Nat) := [(⟨"CutFromOthers", "isBlockAndFigure", "(I)Z"⟩, 10), (⟨"CutFromOthers", "isTwoFigures", "(I)Z"⟩, 10), (⟨"CutFromOthers", "firstOutOf", "(I)I"⟩, 10), (⟨"CutFromOthers$Rows", "firstOfLength", "(II)I"⟩, 7), (⟨"CutFromOthers$Rows", "richestNext", "(II)I"⟩, 7), (⟨"CutFromOthers$Form", "unlikePlaces", "()I"⟩, 6), (⟨"CutFromOthers", "partOf", "(I)I"⟩, 10), (⟨"CutFromOthers", "refusalOfTold", "(II)I"⟩, 10), (⟨"CutFromOthers$Told", "meant", "(J)I"⟩, 4), (⟨"CutFromOthers$Told", "goOn", "(I)V"⟩, 4), (⟨"CutFromOthers$Rows", "nth", "(II)I"⟩, 7), (⟨"CutFromOthers$Stones", "own", "(IIII)I"⟩, 4), (⟨"CutFromOthers$Stones", "answer", "(IIIII)I"⟩, 4), (⟨"CutFromOthers$Stones", "note", "(I)V"⟩, 4), (⟨"CutFromOthers", "refusalOfElement", "(II)I"⟩, 10), (⟨"CutFromOthersModel", "newFigure", "(II)I"⟩, 50)]
theorem lw_r2 : ∀ q ∈ lw_privs_2, lw_okq q := List.forall_mem_cons.mpr ⟨lw_p16, List.forall_mem_cons.mpr ⟨lw_p17, List.forall_mem_cons.mpr ⟨lw_p18, List.forall_mem_cons.mpr ⟨lw_p19, List.forall_mem_cons.mpr ⟨lw_p20, List.forall_mem_cons.mpr ⟨lw_p21, List.forall_mem_cons.mpr ⟨lw_p22, List.forall_mem_cons.mpr ⟨lw_p23, List.forall_mem_cons.mpr ⟨lw_p24, List.forall_mem_cons.mpr ⟨lw_p25, List.forall_mem_cons.mpr ⟨lw_p26, List.forall_mem_cons.mpr ⟨lw_p27, List.forall_mem_cons.mpr ⟨lw_p28, List.forall_mem_cons.mpr ⟨lw_p29, List.forall_mem_cons.mpr ⟨lw_p30, List.forall_mem_cons.mpr ⟨lw_p31, fun _ h => absurd h List.not_mem_nil⟩⟩⟩⟩⟩⟩⟩⟩⟩⟩⟩⟩⟩⟩⟩⟩
theorem lw_p32 : lw_okq (⟨"CutFromOthersModel", "isFigure", "(I)Z"⟩, 50) := ⟨⟨by decide +kernel, by decide +kernel⟩, List.mem_of_getElem? (i := 1084) (by decide +kernel), List.mem_of_getElem? (i := 1272) (by decide +kernel), List.mem_of_getElem? (i := 1273) (by decide +kernel)⟩
theorem lw_p33 : lw_okq (⟨"CutFromOthersModel", "get", "(II)I"⟩, 50) := ⟨⟨by decide +kernel, by decide +kernel⟩, List.mem_of_getElem? (i := 1084) (by decide +kernel), List.mem_of_getElem? (i := 1276) (by decide +kernel), List.mem_of_getElem? (i := 1277) (by decide +kernel)⟩
theorem lw_p34 : lw_okq (⟨"CutFromOthersModel", "becomes", "(III)V"⟩, 50) := ⟨⟨by decide +kernel, by decide +kernel⟩, List.mem_of_getElem? (i := 1084) (by decide +kernel), List.mem_of_getElem? (i := 1280) (by decide +kernel), List.mem_of_getElem? (i := 1281) (by decide +kernel)⟩
theorem lw_p35 : lw_okq (⟨"CutFromOthersModel", "isBlock", "(I)Z"⟩, 50) := ⟨⟨by decide +kernel, by decide +kernel⟩, List.mem_of_getElem? (i := 1084) (by decide +kernel), List.mem_of_getElem? (i := 1288) (by decide +kernel), List.mem_of_getElem? (i := 1289) (by decide +kernel)⟩
theorem lw_p36 : lw_okq (⟨"CutFromOthersModel", "isLine", "()Z"⟩, 50) := ⟨⟨by decide +kernel, by decide +kernel⟩, List.mem_of_getElem? (i := 1084) (by decide +kernel), List.mem_of_getElem? (i := 1308) (by decide +kernel), List.mem_of_getElem? (i := 1309) (by decide +kernel)⟩
theorem lw_p37 : lw_okq (⟨"CutFromOthersModel", "isE", "()Z"⟩, 50) := ⟨⟨by decide +kernel, by decide +kernel⟩, List.mem_of_getElem? (i := 1084) (by decide +kernel), List.mem_of_getElem? (i := 1312) (by decide +kernel), List.mem_of_getElem? (i := 1313) (by decide +kernel)⟩
theorem lw_p38 : lw_okq (⟨"CutFromOthersModel", "isA", "()Z"⟩, 50) := ⟨⟨by decide +kernel, by decide +kernel⟩, List.mem_of_getElem? (i := 1084) (by decide +kernel), List.mem_of_getElem? (i := 1316) (by decide +kernel), List.mem_of_getElem? (i := 1317) (by decide +kernel)⟩
theorem lw_p39 : lw_okq (⟨"CutFromOthersModel", "isB", "()Z"⟩, 50) := ⟨⟨by decide +kernel, by decide +kernel⟩, List.mem_of_getElem? (i := 1084) (by decide +kernel), List.mem_of_getElem? (i := 1320) (by decide +kernel), List.mem_of_getElem? (i := 1321) (by decide +kernel)⟩
theorem lw_p40 : lw_okq (⟨"CutFromOthersModel", "isS", "()Z"⟩, 50) := ⟨⟨by decide +kernel, by decide +kernel⟩, List.mem_of_getElem? (i := 1084) (by decide +kernel), List.mem_of_getElem? (i := 1324) (by decide +kernel), List.mem_of_getElem? (i := 1325) (by decide +kernel)⟩
theorem lw_p41 : lw_okq (⟨"CutFromOthersModel", "isP", "()Z"⟩, 50) := ⟨⟨by decide +kernel, by decide +kernel⟩, List.mem_of_getElem? (i := 1084) (by decide +kernel), List.mem_of_getElem? (i := 1328) (by decide +kernel), List.mem_of_getElem? (i := 1329) (by decide +kernel)⟩
theorem lw_p42 : lw_okq (⟨"CutFromOthersModel", "isO", "()Z"⟩, 50) := ⟨⟨by decide +kernel, by decide +kernel⟩, List.mem_of_getElem? (i := 1084) (by decide +kernel), List.mem_of_getElem? (i := 1332) (by decide +kernel), List.mem_of_getElem? (i := 1333) (by decide +kernel)⟩
theorem lw_p43 : lw_okq (⟨"CutFromOthersModel", "isDigit", "()Z"⟩, 50) := ⟨⟨by decide +kernel, by decide +kernel⟩, List.mem_of_getElem? (i := 1084) (by decide +kernel), List.mem_of_getElem? (i := 1336) (by decide +kernel), List.mem_of_getElem? (i := 1337) (by decide +kernel)⟩
theorem lw_p44 : lw_okq (⟨"CutFromOthersModel", "sign", "()I"⟩, 50) := ⟨⟨by decide +kernel, by decide +kernel⟩, List.mem_of_getElem? (i := 1084) (by decide +kernel), List.mem_of_getElem? (i := 1340) (by decide +kernel), List.mem_of_getElem? (i := 1341) (by decide +kernel)⟩
theorem lw_p45 : lw_okq (⟨"CutFromOthersModel", "codes", "(I)Z"⟩, 50) := ⟨⟨by decide +kernel, by decide +kernel⟩, List.mem_of_getElem? (i := 1084) (by decide +kernel), List.mem_of_getElem? (i := 1344) (by decide +kernel), List.mem_of_getElem? (i := 1345) (by decide +kernel)⟩
theorem lw_p46 : lw_okq (⟨"CutFromOthersModel", "is", "(I)Z"⟩, 50) := ⟨⟨by decide +kernel, by decide +kernel⟩, List.mem_of_getElem? (i := 1084) (by decide +kernel), List.mem_of_getElem? (i := 1351) (by decide +kernel), List.mem_of_getElem? (i := 1352) (by decide +kernel)⟩
theorem lw_p47 : lw_okq (⟨"CutFromOthersModel", "bringsIn", "(III)I"⟩, 50) := ⟨⟨by decide +kernel, by decide +kernel⟩, List.mem_of_getElem? (i := 1084) (by decide +kernel), List.mem_of_getElem? (i := 1362) (by decide +kernel), List.mem_of_getElem? (i := 1363) (by decide +kernel)⟩
def lw_privs_3 : List (MethodName × Nat) := [(⟨"CutFromOthersModel", "isFigure", "(I)Z"⟩, 50), (⟨"CutFromOthersModel", "get", "(II)I"⟩, 50), (⟨"CutFromOthersModel", "becomes", "(III)V"⟩, 50), (⟨"CutFromOthersModel", "isBlock", "(I)Z"⟩, 50), (⟨"CutFromOthersModel", "isLine", "()Z"⟩, 50), (⟨"CutFromOthersModel", "isE", "()Z"⟩, 50), (⟨"CutFromOthersModel", "isA", "()Z"⟩, 50), (⟨"CutFromOthersModel", "isB", "()Z"⟩, 50), (⟨"CutFromOthersModel", "isS", "()Z"⟩, 50), (⟨"CutFromOthersModel", "isP", "()Z"⟩, 50), (⟨"CutFromOthersModel", "isO", "()Z"⟩, 50), (⟨"CutFromOthersModel", "isDigit", "()Z"⟩, 50), (⟨"CutFromOthersModel", "sign", "()I"⟩, 50), (⟨"CutFromOthersModel", "codes", "(I)Z"⟩, 50), (⟨"CutFromOthersModel", "is", "(I)Z"⟩, 50), (⟨"CutFromOthersModel", "bringsIn", "(III)I"⟩, 50)]
theorem lw_r3 : ∀ q ∈ lw_privs_3, lw_okq q := List.forall_mem_cons.mpr ⟨lw_p32, List.forall_mem_cons.mpr ⟨lw_p33, List.forall_mem_cons.mpr ⟨lw_p34, List.forall_mem_cons.mpr ⟨lw_p35, List.forall_mem_cons.mpr ⟨lw_p36, List.forall_mem_cons.mpr ⟨lw_p37, List.forall_mem_cons.mpr ⟨lw_p38, List.forall_mem_cons.mpr ⟨lw_p39, List.forall_mem_cons.mpr ⟨lw_p40, List.forall_mem_cons.mpr ⟨lw_p41, List.forall_mem_cons.mpr ⟨lw_p42, List.forall_mem_cons.mpr ⟨lw_p43, List.forall_mem_cons.mpr ⟨lw_p44, List.forall_mem_cons.mpr ⟨lw_p45, List.forall_mem_cons.mpr ⟨lw_p46, List.forall_mem_cons.mpr ⟨lw_p47, fun _ h => absurd h List.not_mem_nil⟩⟩⟩⟩⟩⟩⟩⟩⟩⟩⟩⟩⟩⟩⟩⟩
theorem lw_p48 : lw_okq (⟨"CutFromOthersModel", "worked", "(II)I"⟩, 50) := ⟨⟨by decide +kernel, by decide +kernel⟩, List.mem_of_getElem? (i := 1084) (by decide +kernel), List.mem_of_getElem? (i := 1372) (by decide +kernel), List.mem_of_getElem? (i := 1373) (by decide +kernel)⟩
theorem lw_p49 : lw_okq (⟨"CutFromOthersModel", "isIn", "(I)Z"⟩, 50) := ⟨⟨by decide +kernel, by decide +kernel⟩, List.mem_of_getElem? (i := 1084) (by decide +kernel), List.mem_of_getElem? (i := 1405) (by decide +kernel), List.mem_of_getElem? (i := 1406) (by decide +kernel)⟩
theorem lw_p50 : lw_okq (⟨"CutFromOthersModel", "areTwo", "(I)Z"⟩, 50) := ⟨⟨by decide +kernel, by decide +kernel⟩, List.mem_of_getElem? (i := 1084) (by decide +kernel), List.mem_of_getElem? (i := 1422) (by decide +kernel), List.mem_of_getElem? (i := 1423) (by decide +kernel)⟩
theorem lw_p51 : lw_okq (⟨"CutFromOthersModel", "cutOf", "(I)I"⟩, 50) := ⟨⟨by decide +kernel, by decide +kernel⟩, List.mem_of_getElem? (i := 1084) (by decide +kernel), List.mem_of_getElem? (i := 1430) (by decide +kernel), List.mem_of_getElem? (i := 1431) (by decide +kernel)⟩
theorem lw_p52 : lw_okq (⟨"CutFromOthersModel", "looks", "(I)V"⟩, 50) := ⟨⟨by decide +kernel, by decide +kernel⟩, List.mem_of_getElem? (i := 1084) (by decide +kernel), List.mem_of_getElem? (i := 1442) (by decide +kernel), List.mem_of_getElem? (i := 1443) (by decide +kernel)⟩
theorem lw_p53 : lw_okq (⟨"CutFromOthersModel", "longestOf", "(I)I"⟩, 50) := ⟨⟨by decide +kernel, by decide +kernel⟩, List.mem_of_getElem? (i := 1084) (by decide +kernel), List.mem_of_getElem? (i := 1446) (by decide +kernel), List.mem_of_getElem? (i := 1447) (by decide +kernel)⟩
theorem lw_p54 : lw_okq (⟨"CutFromOthersModel", "mostOf", "(II)I"⟩, 50) := ⟨⟨by decide +kernel, by decide +kernel⟩, List.mem_of_getElem? (i := 1084) (by decide +kernel), List.mem_of_getElem? (i := 1450) (by decide +kernel), List.mem_of_getElem? (i := 1451) (by decide +kernel)⟩
theorem lw_p55 : lw_okq (⟨"CutFromOthersModel", "firstOf", "(II)I"⟩, 50) := ⟨⟨by decide +kernel, by decide +kernel⟩, List.mem_of_getElem? (i := 1084) (by decide +kernel), List.mem_of_getElem? (i := 1454) (by decide +kernel), List.mem_of_getElem? (i := 1455) (by decide +kernel)⟩
theorem lw_p56 : lw_okq (⟨"CutFromOthersModel", "rich", "(III)V"⟩, 50) := ⟨⟨by decide +kernel, by decide +kernel⟩, List.mem_of_getElem? (i := 1084) (by decide +kernel), List.mem_of_getElem? (i := 1462) (by decide +kernel), List.mem_of_getElem? (i := 1463) (by decide +kernel)⟩
theorem lw_p57 : lw_okq (⟨"CutFromOthersModel", "nextRich", "(III)I"⟩, 50) := ⟨⟨by decide +kernel, by decide +kernel⟩, List.mem_of_getElem? (i := 1084) (by decide +kernel), List.mem_of_getElem? (i := 1466) (by decide +kernel), List.mem_of_getElem? (i := 1467) (by decide +kernel)⟩
theorem lw_p58 : lw_okq (⟨"CutFromOthersModel", "through", "(II)I"⟩, 50) := ⟨⟨by decide +kernel, by decide +kernel⟩, List.mem_of_getElem? (i := 1084) (by decide +kernel), List.mem_of_getElem? (i := 1474) (by decide +kernel), List.mem_of_getElem? (i := 1475) (by decide +kernel)⟩
theorem lw_p59 : lw_okq (⟨"CutFromOthersModel", "between", "(II)I"⟩, 50) := ⟨⟨by decide +kernel, by decide +kernel⟩, List.mem_of_getElem? (i := 1084) (by decide +kernel), List.mem_of_getElem? (i := 1478) (by decide +kernel), List.mem_of_getElem? (i := 1479) (by decide +kernel)⟩
theorem lw_p60 : lw_okq (⟨"CutFromOthersModel", "plays", "(I)V"⟩, 50) := ⟨⟨by decide +kernel, by decide +kernel⟩, List.mem_of_getElem? (i := 1084) (by decide +kernel), List.mem_of_getElem? (i := 1508) (by decide +kernel), List.mem_of_getElem? (i := 1509) (by decide +kernel)⟩
theorem lw_p61 : lw_okq (⟨"CutFromOthersModel", "noRow", "(I)I"⟩, 50) := ⟨⟨by decide +kernel, by decide +kernel⟩, List.mem_of_getElem? (i := 1084) (by decide +kernel), List.mem_of_getElem? (i := 1520) (by decide +kernel), List.mem_of_getElem? (i := 1521) (by decide +kernel)⟩
theorem lw_p62 : lw_okq (⟨"CutFromOthersModel", "canBe", "(II)I"⟩, 50) := ⟨⟨by decide +kernel, by decide +kernel⟩, List.mem_of_getElem? (i := 1084) (by decide +kernel), List.mem_of_getElem? (i := 1524) (by decide +kernel), List.mem_of_getElem? (i := 1525) (by decide +kernel)⟩
theorem lw_p63 : lw_okq (⟨"CutFromOthersModel", "asTold", "(III)I"⟩, 50) := ⟨⟨by decide +kernel, by decide +kernel⟩, List.mem_of_getElem? (i := 1084) (by decide +kernel), List.mem_of_getElem? (i := 1528) (by decide +kernel), List.mem_of_getElem? (i := 1529) (by decide +kernel)⟩
def lw_privs_4 : List (MethodName × Nat) := [(⟨"CutFromOthersModel", "worked", "(II)I"⟩, 50), (⟨"CutFromOthersModel", "isIn", "(I)Z"⟩, 50), (⟨"CutFromOthersModel", "areTwo", "(I)Z"⟩, 50), (⟨"CutFromOthersModel", "cutOf", "(I)I"⟩, 50), (⟨"CutFromOthersModel", "looks", "(I)V"⟩, 50), (⟨"CutFromOthersModel", "longestOf", "(I)I"⟩, 50), (⟨"CutFromOthersModel", "mostOf", "(II)I"⟩, 50), (⟨"CutFromOthersModel", "firstOf", "(II)I"⟩, 50), (⟨"CutFromOthersModel", "rich", "(III)V"⟩, 50), (⟨"CutFromOthersModel", "nextRich", "(III)I"⟩, 50), (⟨"CutFromOthersModel", "through", "(II)I"⟩, 50), (⟨"CutFromOthersModel", "between", "(II)I"⟩, 50), (⟨"CutFromOthersModel", "plays", "(I)V"⟩, 50), (⟨"CutFromOthersModel", "noRow", "(I)I"⟩, 50), (⟨"CutFromOthersModel", "canBe", "(II)I"⟩, 50), (⟨"CutFromOthersModel", "asTold", "(III)I"⟩, 50)]
theorem lw_r4 : ∀ q ∈ lw_privs_4, lw_okq q := List.forall_mem_cons.mpr ⟨lw_p48, List.forall_mem_cons.mpr ⟨lw_p49, List.forall_mem_cons.mpr ⟨lw_p50, List.forall_mem_cons.mpr ⟨lw_p51, List.forall_mem_cons.mpr ⟨lw_p52, List.forall_mem_cons.mpr ⟨lw_p53, List.forall_mem_cons.mpr ⟨lw_p54, List.forall_mem_cons.mpr ⟨lw_p55, List.forall_mem_cons.mpr ⟨lw_p56, List.forall_mem_cons.mpr ⟨lw_p57, List.forall_mem_cons.mpr ⟨lw_p58, List.forall_mem_cons.mpr ⟨lw_p59, List.forall_mem_cons.mpr ⟨lw_p60, List.forall_mem_cons.mpr ⟨lw_p61, List.forall_mem_cons.mpr ⟨lw_p62, List.forall_mem_cons.mpr ⟨lw_p63, fun _ h => absurd h List.not_mem_nil⟩⟩⟩⟩⟩⟩⟩⟩⟩⟩⟩⟩⟩⟩⟩⟩
theorem lw_p64 : lw_okq (⟨"CutFromOthersModel", "toldAt", "(II)I"⟩, 50) := ⟨⟨by decide +kernel, by decide +kernel⟩, List.mem_of_getElem? (i := 1084) (by decide +kernel), List.mem_of_getElem? (i := 1532) (by decide +kernel), List.mem_of_getElem? (i := 1533) (by decide +kernel)⟩
theorem lw_p65 : lw_okq (⟨"CutFromOthersModel", "nextOf", "(I)I"⟩, 50) := ⟨⟨by decide +kernel, by decide +kernel⟩, List.mem_of_getElem? (i := 1084) (by decide +kernel), List.mem_of_getElem? (i := 1536) (by decide +kernel), List.mem_of_getElem? (i := 1537) (by decide +kernel)⟩
theorem lw_p66 : lw_okq (⟨"CutFromOthersModel", "waysOn", "(III)I"⟩, 50) := ⟨⟨by decide +kernel, by decide +kernel⟩, List.mem_of_getElem? (i := 1084) (by decide +kernel), List.mem_of_getElem? (i := 1544) (by decide +kernel), List.mem_of_getElem? (i := 1545) (by decide +kernel)⟩
theorem lw_p67 : lw_okq (⟨"CutFromOthersModel", "firstUnknown", "(I)I"⟩, 50) := ⟨⟨by decide +kernel, by decide +kernel⟩, List.mem_of_getElem? (i := 1084) (by decide +kernel), List.mem_of_getElem? (i := 1548) (by decide +kernel), List.mem_of_getElem? (i := 1549) (by decide +kernel)⟩
theorem lw_p68 : lw_okq (⟨"CutFromOthersModel", "cutsBy", "(III)I"⟩, 50) := ⟨⟨by decide +kernel, by decide +kernel⟩, List.mem_of_getElem? (i := 1084) (by decide +kernel), List.mem_of_getElem? (i := 1592) (by decide +kernel), List.mem_of_getElem? (i := 1593) (by decide +kernel)⟩
theorem lw_p69 : lw_okq (⟨"CutFromOthersModel", "ran", "(I)V"⟩, 50) := ⟨⟨by decide +kernel, by decide +kernel⟩, List.mem_of_getElem? (i := 1084) (by decide +kernel), List.mem_of_getElem? (i := 1596) (by decide +kernel), List.mem_of_getElem? (i := 1597) (by decide +kernel)⟩
theorem lw_p70 : lw_okq (⟨"CutFromOthersModel", "holdsBy", "(III)I"⟩, 50) := ⟨⟨by decide +kernel, by decide +kernel⟩, List.mem_of_getElem? (i := 1084) (by decide +kernel), List.mem_of_getElem? (i := 1603) (by decide +kernel), List.mem_of_getElem? (i := 1604) (by decide +kernel)⟩
theorem lw_p71 : lw_okq (⟨"CutFromOthersModel", "leavesBy", "(III)I"⟩, 50) := ⟨⟨by decide +kernel, by decide +kernel⟩, List.mem_of_getElem? (i := 1084) (by decide +kernel), List.mem_of_getElem? (i := 1607) (by decide +kernel), List.mem_of_getElem? (i := 1608) (by decide +kernel)⟩
theorem lw_p72 : lw_okq (⟨"CutFromOthersModel", "tells", "(III)I"⟩, 50) := ⟨⟨by decide +kernel, by decide +kernel⟩, List.mem_of_getElem? (i := 1084) (by decide +kernel), List.mem_of_getElem? (i := 1611) (by decide +kernel), List.mem_of_getElem? (i := 1612) (by decide +kernel)⟩
theorem lw_p73 : lw_okq (⟨"CutFromOthersModel", "isRow", "(I)Z"⟩, 50) := ⟨⟨by decide +kernel, by decide +kernel⟩, List.mem_of_getElem? (i := 1084) (by decide +kernel), List.mem_of_getElem? (i := 1631) (by decide +kernel), List.mem_of_getElem? (i := 1632) (by decide +kernel)⟩
def lw_privs_5 : List (MethodName × Nat) := [(⟨"CutFromOthersModel", "toldAt", "(II)I"⟩, 50), (⟨"CutFromOthersModel", "nextOf", "(I)I"⟩, 50), (⟨"CutFromOthersModel", "waysOn", "(III)I"⟩, 50), (⟨"CutFromOthersModel", "firstUnknown", "(I)I"⟩, 50), (⟨"CutFromOthersModel", "cutsBy", "(III)I"⟩, 50), (⟨"CutFromOthersModel", "ran", "(I)V"⟩, 50), (⟨"CutFromOthersModel", "holdsBy", "(III)I"⟩, 50), (⟨"CutFromOthersModel", "leavesBy", "(III)I"⟩, 50), (⟨"CutFromOthersModel", "tells", "(III)I"⟩, 50), (⟨"CutFromOthersModel", "isRow", "(I)Z"⟩, 50)]
theorem lw_r5 : ∀ q ∈ lw_privs_5, lw_okq q := List.forall_mem_cons.mpr ⟨lw_p64, List.forall_mem_cons.mpr ⟨lw_p65, List.forall_mem_cons.mpr ⟨lw_p66, List.forall_mem_cons.mpr ⟨lw_p67, List.forall_mem_cons.mpr ⟨lw_p68, List.forall_mem_cons.mpr ⟨lw_p69, List.forall_mem_cons.mpr ⟨lw_p70, List.forall_mem_cons.mpr ⟨lw_p71, List.forall_mem_cons.mpr ⟨lw_p72, List.forall_mem_cons.mpr ⟨lw_p73, fun _ h => absurd h List.not_mem_nil⟩⟩⟩⟩⟩⟩⟩⟩⟩⟩
def lw_privs : List (MethodName × Nat) := lw_privs_1 ++ (lw_privs_2 ++ (lw_privs_3 ++ (lw_privs_4 ++ (lw_privs_5))))
def lw_tbl : List Cond := k2_sels lw_privs ++ tables_1
theorem lw_privs_ok : ∀ q ∈ lw_privs, lw_okq q := by
  show ∀ q ∈ lw_privs_1 ++ (lw_privs_2 ++ (lw_privs_3 ++ (lw_privs_4 ++ (lw_privs_5)))), lw_okq q
  exact List.forall_mem_append.mpr ⟨lw_r1, List.forall_mem_append.mpr ⟨lw_r2, List.forall_mem_append.mpr ⟨lw_r3, List.forall_mem_append.mpr ⟨lw_r4, lw_r5⟩⟩⟩⟩
/-- the words that ride along into every method -/
def x_tbl : List Cond := lw_tbl.filter goodWord
theorem x_tb (i : Nat) {w : Cond} (h : lw_tbl[i]? = some w) (hg : goodWord w = true) : w ∈ x_tbl := List.mem_filter.mpr ⟨List.mem_of_getElem? h, hg⟩
theorem x_tl (i : Nat) {w : Cond} (h : lw_tbl[i]? = some w) : w ∈ lw_tbl := List.mem_of_getElem? h
theorem x_in {ws : List Cond} (ps : List Nat) (h : ws = ps.filterMap (fun i => lw_tbl[i]?)) (hg : ws.all goodWord = true) : ∀ w ∈ ws, w ∈ x_tbl := by
  intro w hw
  have h1 := List.all_eq_true.mp hg w hw
  rw [h] at hw
  obtain ⟨i, -, hi⟩ := List.mem_filterMap.mp hw
  exact List.mem_filter.mpr ⟨List.mem_of_getElem? hi, h1⟩
theorem x_goodIn {ws : List Cond} (h : ∀ w ∈ ws, w ∈ x_tbl) : GoodIn x_tbl ws := fun w hw => ⟨h w hw, good_of_word (List.mem_filter.mp (h w hw)).2⟩
end
section
def RX0 : String := "CutFromOthers$Changes"
def TX0 : u_T := fun k => match k with
  | 0 => ("CutFromOthers$Changes", "kept", "[I", true)
  | 1 => ("CutFromOthers$Changes", "done", "I", false)
  | _ => ("CutFromOthers$Changes", "undone", "I", false)
def tyX0 : Nat → FieldType := fun k => match k with
  | 0 => .array .int
  | 1 => .int
  | _ => .int
theorem nmX0 : ∀ a, a < 3 → ∀ b, b < 3 → a ≠ b → (TX0 a).2.1 ≠ (TX0 b).2.1 := by decide +kernel
theorem tyX0_ok : ∀ k, k < 3 → parseFieldDescriptor (TX0 k).2.2.1 = some (tyX0 k) := by decide +kernel
abbrev cX0_init : ByteArray := prog_2_method_1_code
def yX0_init : MethodName := ⟨RX0, "<init>", "()V"⟩
abbrev cX0_done : ByteArray := prog_2_method_2_code
def yX0_done : MethodName := ⟨RX0, "done", "()I"⟩
abbrev cX0_add : ByteArray := prog_2_method_3_code
def yX0_add : MethodName := ⟨RX0, "add", "(IIII)V"⟩
abbrev cX0_takeBack : ByteArray := prog_2_method_4_code
def yX0_takeBack : MethodName := ⟨RX0, "takeBack", "(LCutFromOthers$Stock;)I"⟩
abbrev cX0_doAgain : ByteArray := prog_2_method_5_code
def yX0_doAgain : MethodName := ⟨RX0, "doAgain", "(LCutFromOthers$Stock;)I"⟩
def RX1 : String := "CutFromOthers$Form"
def TX1 : u_T := fun k => match k with
  | 0 => ("CutFromOthers$Form", "turns", "[I", true)
  | 1 => ("CutFromOthers$Form", "places", "[I", true)
  | 2 => ("CutFromOthers$Form", "wayNumbers", "[I", true)
  | 3 => ("CutFromOthers$Form", "shape", "I", false)
  | 4 => ("CutFromOthers$Form", "cells", "I", false)
  | _ => ("CutFromOthers$Form", "placed", "I", false)
def tyX1 : Nat → FieldType := fun k => match k with
  | 0 => .array .int
  | 1 => .array .int
  | 2 => .array .int
  | 3 => .int
  | 4 => .int
  | _ => .int
theorem nmX1 : ∀ a, a < 6 → ∀ b, b < 6 → a ≠ b → (TX1 a).2.1 ≠ (TX1 b).2.1 := by decide +kernel
theorem tyX1_ok : ∀ k, k < 6 → parseFieldDescriptor (TX1 k).2.2.1 = some (tyX1 k) := by decide +kernel
abbrev cX1_init : ByteArray := prog_3_method_1_code
def yX1_init : MethodName := ⟨RX1, "<init>", "()V"⟩
abbrev cX1_take : ByteArray := prog_3_method_2_code
def yX1_take : MethodName := ⟨RX1, "take", "(I)V"⟩
abbrev cX1_countWays : ByteArray := prog_3_method_3_code
def yX1_countWays : MethodName := ⟨RX1, "countWays", "(I)I"⟩
abbrev cX1_firstPlace : ByteArray := prog_3_method_4_code
def yX1_firstPlace : MethodName := ⟨RX1, "firstPlace", "(I)I"⟩
abbrev cX1_wayAt : ByteArray := prog_3_method_5_code
def yX1_wayAt : MethodName := ⟨RX1, "wayAt", "(I)I"⟩
abbrev cX1_shapeAt : ByteArray := prog_3_method_6_code
def yX1_shapeAt : MethodName := ⟨RX1, "shapeAt", "(I)I"⟩
abbrev cX1_canBeCutOf : ByteArray := prog_3_method_7_code
def yX1_canBeCutOf : MethodName := ⟨RX1, "canBeCutOf", "(I)Z"⟩
abbrev cX1_leastWith : ByteArray := prog_3_method_8_code
def yX1_leastWith : MethodName := ⟨RX1, "leastWith", "(LCutFromOthers$Form;)I"⟩
abbrev cX1_wide : ByteArray := prog_3_method_9_code
def yX1_wide : MethodName := ⟨RX1, "wide", "(I)I"⟩
abbrev cX1_tall : ByteArray := prog_3_method_10_code
def yX1_tall : MethodName := ⟨RX1, "tall", "(I)I"⟩
abbrev cX1_unlikePlaces : ByteArray := prog_3_method_11_code
def yX1_unlikePlaces : MethodName := ⟨RX1, "unlikePlaces", "()I"⟩
abbrev cX1_addPlaces : ByteArray := prog_3_method_12_code
def yX1_addPlaces : MethodName := ⟨RX1, "addPlaces", "(I)V"⟩
abbrev cX1_cornered : ByteArray := prog_3_method_13_code
def yX1_cornered : MethodName := ⟨RX1, "cornered", "(I)I"⟩
abbrev cX1_turnedOnce : ByteArray := prog_3_method_14_code
def yX1_turnedOnce : MethodName := ⟨RX1, "turnedOnce", "(I)I"⟩
def RX2 : String := "CutFromOthers$Rows"
def TX2 : u_T := fun k => match k with
  | 0 => ("CutFromOthers$Rows", "stock", "LCutFromOthers$Stock;", true)
  | 1 => ("CutFromOthers$Rows", "rule", "LCutFromOthers$Rule;", true)
  | 2 => ("CutFromOthers$Rows", "lengths", "[I", true)
  | 3 => ("CutFromOthers$Rows", "sums", "[I", true)
  | 4 => ("CutFromOthers$Rows", "steps", "[I", true)
  | 5 => ("CutFromOthers$Rows", "cuts", "[I", true)
  | _ => ("CutFromOthers$Rows", "losing", "I", false)
def tyX2 : Nat → FieldType := fun k => match k with
  | 0 => .object "CutFromOthers$Stock"
  | 1 => .object "CutFromOthers$Rule"
  | 2 => .array .int
  | 3 => .array .int
  | 4 => .array .int
  | 5 => .array .int
  | _ => .int
theorem nmX2 : ∀ a, a < 7 → ∀ b, b < 7 → a ≠ b → (TX2 a).2.1 ≠ (TX2 b).2.1 := by decide +kernel
theorem tyX2_ok : ∀ k, k < 7 → parseFieldDescriptor (TX2 k).2.2.1 = some (tyX2 k) := by decide +kernel
abbrev cX2_init : ByteArray := prog_4_method_1_code
def yX2_init : MethodName := ⟨RX2, "<init>", "(LCutFromOthers$Stock;LCutFromOthers$Rule;)V"⟩
abbrev cX2_measure : ByteArray := prog_4_method_2_code
def yX2_measure : MethodName := ⟨RX2, "measure", "(I)V"⟩
abbrev cX2_longestOf : ByteArray := prog_4_method_3_code
def yX2_longestOf : MethodName := ⟨RX2, "longestOf", "(I)I"⟩
abbrev cX2_inLongest : ByteArray := prog_4_method_4_code
def yX2_inLongest : MethodName := ⟨RX2, "inLongest", "(II)I"⟩
abbrev cX2_longestWithout : ByteArray := prog_4_method_5_code
def yX2_longestWithout : MethodName := ⟨RX2, "longestWithout", "(II)I"⟩
abbrev cX2_longestWith : ByteArray := prog_4_method_6_code
def yX2_longestWith : MethodName := ⟨RX2, "longestWith", "(III)I"⟩
abbrev cX2_weigh : ByteArray := prog_4_method_7_code
def yX2_weigh : MethodName := ⟨RX2, "weigh", "(I)V"⟩
abbrev cX2_mostOf : ByteArray := prog_4_method_8_code
def yX2_mostOf : MethodName := ⟨RX2, "mostOf", "(I)I"⟩
abbrev cX2_inRichest : ByteArray := prog_4_method_9_code
def yX2_inRichest : MethodName := ⟨RX2, "inRichest", "(II)I"⟩
abbrev cX2_play : ByteArray := prog_4_method_10_code
def yX2_play : MethodName := ⟨RX2, "play", "()V"⟩
abbrev cX2_firstWinning : ByteArray := prog_4_method_11_code
def yX2_firstWinning : MethodName := ⟨RX2, "firstWinning", "(I)I"⟩
abbrev cX2_cutsPlayed : ByteArray := prog_4_method_12_code
def yX2_cutsPlayed : MethodName := ⟨RX2, "cutsPlayed", "(I)I"⟩
abbrev cX2_draw : ByteArray := prog_4_method_13_code
def yX2_draw : MethodName := ⟨RX2, "draw", "(IIII)I"⟩
abbrev cX2_firstOfLength : ByteArray := prog_4_method_14_code
def yX2_firstOfLength : MethodName := ⟨RX2, "firstOfLength", "(II)I"⟩
abbrev cX2_richestNext : ByteArray := prog_4_method_15_code
def yX2_richestNext : MethodName := ⟨RX2, "richestNext", "(II)I"⟩
abbrev cX2_nth : ByteArray := prog_4_method_16_code
def yX2_nth : MethodName := ⟨RX2, "nth", "(II)I"⟩
def RX3 : String := "CutFromOthers$Rule"
def TX3 : u_T := fun k => match k with
  | 0 => ("CutFromOthers$Rule", "code", "[I", true)
  | 1 => ("CutFromOthers$Rule", "named", "[I", true)
  | 2 => ("CutFromOthers$Rule", "held", "[I", true)
  | 3 => ("CutFromOthers$Rule", "length", "I", false)
  | _ => ("CutFromOthers$Rule", "top", "I", false)
def tyX3 : Nat → FieldType := fun k => match k with
  | 0 => .array .int
  | 1 => .array .int
  | 2 => .array .int
  | 3 => .int
  | _ => .int
theorem nmX3 : ∀ a, a < 5 → ∀ b, b < 5 → a ≠ b → (TX3 a).2.1 ≠ (TX3 b).2.1 := by decide +kernel
theorem tyX3_ok : ∀ k, k < 5 → parseFieldDescriptor (TX3 k).2.2.1 = some (tyX3 k) := by decide +kernel
abbrev cX3_init : ByteArray := prog_5_method_1_code
def yX3_init : MethodName := ⟨RX3, "<init>", "()V"⟩
abbrev cX3_take : ByteArray := prog_5_method_2_code
def yX3_take : MethodName := ⟨RX3, "take", "(LCutFromOthers$Tape;)V"⟩
abbrev cX3_worthOf : ByteArray := prog_5_method_3_code
def yX3_worthOf : MethodName := ⟨RX3, "worthOf", "(LCutFromOthers$Stock;III)I"⟩
abbrev cX3_workOut : ByteArray := prog_5_method_4_code
def yX3_workOut : MethodName := ⟨RX3, "workOut", "()I"⟩
abbrev cX3_step : ByteArray := prog_5_method_5_code
def yX3_step : MethodName := ⟨RX3, "step", "(I)V"⟩
abbrev cX3_join : ByteArray := prog_5_method_6_code
def yX3_join : MethodName := ⟨RX3, "join", "(III)I"⟩
abbrev cX3_truth : ByteArray := prog_5_method_7_code
def yX3_truth : MethodName := ⟨RX3, "truth", "(Z)I"⟩
abbrev cX3_push : ByteArray := prog_5_method_8_code
def yX3_push : MethodName := ⟨RX3, "push", "(I)V"⟩
abbrev cX3_pop : ByteArray := prog_5_method_9_code
def yX3_pop : MethodName := ⟨RX3, "pop", "()I"⟩
def RX4 : String := "CutFromOthers$Shelves"
def TX4 : u_T := fun k => match k with
  | 0 => ("CutFromOthers$Shelves", "sorts", "[I", true)
  | 1 => ("CutFromOthers$Shelves", "sizes", "[I", true)
  | _ => ("CutFromOthers$Shelves", "elements", "[J", true)
def tyX4 : Nat → FieldType := fun k => match k with
  | 0 => .array .int
  | 1 => .array .int
  | _ => .array .long
theorem nmX4 : ∀ a, a < 3 → ∀ b, b < 3 → a ≠ b → (TX4 a).2.1 ≠ (TX4 b).2.1 := by decide +kernel
theorem tyX4_ok : ∀ k, k < 3 → parseFieldDescriptor (TX4 k).2.2.1 = some (tyX4 k) := by decide +kernel
abbrev cX4_init : ByteArray := prog_6_method_1_code
def yX4_init : MethodName := ⟨RX4, "<init>", "()V"⟩
abbrev cX4_has : ByteArray := prog_6_method_2_code
def yX4_has : MethodName := ⟨RX4, "has", "(I)Z"⟩
abbrev cX4_sortOf : ByteArray := prog_6_method_3_code
def yX4_sortOf : MethodName := ⟨RX4, "sortOf", "(I)I"⟩
abbrev cX4_isRow : ByteArray := prog_6_method_4_code
def yX4_isRow : MethodName := ⟨RX4, "isRow", "(I)Z"⟩
abbrev cX4_sizeOf : ByteArray := prog_6_method_5_code
def yX4_sizeOf : MethodName := ⟨RX4, "sizeOf", "(I)I"⟩
abbrev cX4_set : ByteArray := prog_6_method_6_code
def yX4_set : MethodName := ⟨RX4, "set", "(III)V"⟩
abbrev cX4_empty : ByteArray := prog_6_method_7_code
def yX4_empty : MethodName := ⟨RX4, "empty", "(I)V"⟩
abbrev cX4_hasStretch : ByteArray := prog_6_method_8_code
def yX4_hasStretch : MethodName := ⟨RX4, "hasStretch", "(III)Z"⟩
abbrev cX4_at : ByteArray := prog_6_method_9_code
def yX4_at : MethodName := ⟨RX4, "at", "(II)J"⟩
abbrev cX4_write : ByteArray := prog_6_method_10_code
def yX4_write : MethodName := ⟨RX4, "write", "(IIJ)V"⟩
abbrev cX4_copy : ByteArray := prog_6_method_11_code
def yX4_copy : MethodName := ⟨RX4, "copy", "(IIIII)V"⟩
abbrev cX4_narrowed : ByteArray := prog_6_method_12_code
def yX4_narrowed : MethodName := ⟨RX4, "narrowed", "(IJ)J"⟩
def RX5 : String := "CutFromOthers$Stock"
def TX5 : u_T := fun k => match k with
  | 0 => ("CutFromOthers$Stock", "forms", "[LCutFromOthers$Form;", true)
  | 1 => ("CutFromOthers$Stock", "traits", "[I", true)
  | 2 => ("CutFromOthers$Stock", "below", "[I", true)
  | 3 => ("CutFromOthers$Stock", "byCells", "[I", true)
  | _ => ("CutFromOthers$Stock", "came", "I", false)
def tyX5 : Nat → FieldType := fun k => match k with
  | 0 => .array (.object "CutFromOthers$Form")
  | 1 => .array .int
  | 2 => .array .int
  | 3 => .array .int
  | _ => .int
theorem nmX5 : ∀ a, a < 5 → ∀ b, b < 5 → a ≠ b → (TX5 a).2.1 ≠ (TX5 b).2.1 := by decide +kernel
theorem tyX5_ok : ∀ k, k < 5 → parseFieldDescriptor (TX5 k).2.2.1 = some (tyX5 k) := by decide +kernel
abbrev cX5_init : ByteArray := prog_7_method_1_code
def yX5_init : MethodName := ⟨RX5, "<init>", "()V"⟩
abbrev cX5_came : ByteArray := prog_7_method_2_code
def yX5_came : MethodName := ⟨RX5, "came", "()I"⟩
abbrev cX5_has : ByteArray := prog_7_method_3_code
def yX5_has : MethodName := ⟨RX5, "has", "(I)Z"⟩
abbrev cX5_all : ByteArray := prog_7_method_4_code
def yX5_all : MethodName := ⟨RX5, "all", "()I"⟩
abbrev cX5_formOf : ByteArray := prog_7_method_5_code
def yX5_formOf : MethodName := ⟨RX5, "formOf", "(I)LCutFromOthers$Form;"⟩
abbrev cX5_traitOf : ByteArray := prog_7_method_6_code
def yX5_traitOf : MethodName := ⟨RX5, "traitOf", "(II)I"⟩
abbrev cX5_setTrait : ByteArray := prog_7_method_7_code
def yX5_setTrait : MethodName := ⟨RX5, "setTrait", "(III)V"⟩
abbrev cX5_outOf : ByteArray := prog_7_method_8_code
def yX5_outOf : MethodName := ⟨RX5, "outOf", "(I)I"⟩
abbrev cX5_bySize : ByteArray := prog_7_method_9_code
def yX5_bySize : MethodName := ⟨RX5, "bySize", "(I)I"⟩
abbrev cX5_add : ByteArray := prog_7_method_10_code
def yX5_add : MethodName := ⟨RX5, "add", "(II)I"⟩
abbrev cX5_cuttableOf : ByteArray := prog_7_method_11_code
def yX5_cuttableOf : MethodName := ⟨RX5, "cuttableOf", "(I)I"⟩
abbrev cX5_above : ByteArray := prog_7_method_12_code
def yX5_above : MethodName := ⟨RX5, "above", "(I)I"⟩
abbrev cX5_outOfAny : ByteArray := prog_7_method_13_code
def yX5_outOfAny : MethodName := ⟨RX5, "outOfAny", "(I)I"⟩
abbrev cX5_relate : ByteArray := prog_7_method_14_code
def yX5_relate : MethodName := ⟨RX5, "relate", "(I)V"⟩
abbrev cX5_sortIn : ByteArray := prog_7_method_15_code
def yX5_sortIn : MethodName := ⟨RX5, "sortIn", "(I)V"⟩
def RX6 : String := "CutFromOthers$Stones"
def TX6 : u_T := fun k => match k with
  | 0 => ("CutFromOthers$Stones", "kinds", "[I", true)
  | 1 => ("CutFromOthers$Stones", "traces", "[I", true)
  | 2 => ("CutFromOthers$Stones", "came", "I", false)
  | _ => ("CutFromOthers$Stones", "began", "I", false)
def tyX6 : Nat → FieldType := fun k => match k with
  | 0 => .array .int
  | 1 => .array .int
  | 2 => .int
  | _ => .int
theorem nmX6 : ∀ a, a < 4 → ∀ b, b < 4 → a ≠ b → (TX6 a).2.1 ≠ (TX6 b).2.1 := by decide +kernel
theorem tyX6_ok : ∀ k, k < 4 → parseFieldDescriptor (TX6 k).2.2.1 = some (tyX6 k) := by decide +kernel
abbrev cX6_init : ByteArray := prog_8_method_1_code
def yX6_init : MethodName := ⟨RX6, "<init>", "()V"⟩
abbrev cX6_kept : ByteArray := prog_8_method_2_code
def yX6_kept : MethodName := ⟨RX6, "kept", "()I"⟩
abbrev cX6_ran : ByteArray := prog_8_method_3_code
def yX6_ran : MethodName := ⟨RX6, "ran", "()I"⟩
abbrev cX6_has : ByteArray := prog_8_method_4_code
def yX6_has : MethodName := ⟨RX6, "has", "(I)Z"⟩
abbrev cX6_kindOf : ByteArray := prog_8_method_5_code
def yX6_kindOf : MethodName := ⟨RX6, "kindOf", "(I)I"⟩
abbrev cX6_add : ByteArray := prog_8_method_6_code
def yX6_add : MethodName := ⟨RX6, "add", "(I)I"⟩
abbrev cX6_traced : ByteArray := prog_8_method_7_code
def yX6_traced : MethodName := ⟨RX6, "traced", "(I)I"⟩
abbrev cX6_isUnder : ByteArray := prog_8_method_8_code
def yX6_isUnder : MethodName := ⟨RX6, "isUnder", "(II)Z"⟩
abbrev cX6_start : ByteArray := prog_8_method_9_code
def yX6_start : MethodName := ⟨RX6, "start", "(III)I"⟩
abbrev cX6_own : ByteArray := prog_8_method_10_code
def yX6_own : MethodName := ⟨RX6, "own", "(IIII)I"⟩
abbrev cX6_answer : ByteArray := prog_8_method_11_code
def yX6_answer : MethodName := ⟨RX6, "answer", "(IIIII)I"⟩
abbrev cX6_note : ByteArray := prog_8_method_12_code
def yX6_note : MethodName := ⟨RX6, "note", "(I)V"⟩
def RX7 : String := "CutFromOthers$Tape"
def TX7 : u_T := fun k => match k with
  | 0 => ("CutFromOthers$Tape", "bytes", "[I", true)
  | 1 => ("CutFromOthers$Tape", "code", "[I", true)
  | 2 => ("CutFromOthers$Tape", "fed", "I", false)
  | 3 => ("CutFromOthers$Tape", "at", "I", false)
  | _ => ("CutFromOthers$Tape", "written", "I", false)
def tyX7 : Nat → FieldType := fun k => match k with
  | 0 => .array .int
  | 1 => .array .int
  | 2 => .int
  | 3 => .int
  | _ => .int
theorem nmX7 : ∀ a, a < 5 → ∀ b, b < 5 → a ≠ b → (TX7 a).2.1 ≠ (TX7 b).2.1 := by decide +kernel
theorem tyX7_ok : ∀ k, k < 5 → parseFieldDescriptor (TX7 k).2.2.1 = some (tyX7 k) := by decide +kernel
abbrev cX7_init : ByteArray := prog_9_method_1_code
def yX7_init : MethodName := ⟨RX7, "<init>", "()V"⟩
abbrev cX7_length : ByteArray := prog_9_method_2_code
def yX7_length : MethodName := ⟨RX7, "length", "()I"⟩
abbrev cX7_add : ByteArray := prog_9_method_3_code
def yX7_add : MethodName := ⟨RX7, "add", "(I)I"⟩
abbrev cX7_clear : ByteArray := prog_9_method_4_code
def yX7_clear : MethodName := ⟨RX7, "clear", "()V"⟩
abbrev cX7_read : ByteArray := prog_9_method_5_code
def yX7_read : MethodName := ⟨RX7, "read", "()I"⟩
abbrev cX7_copyCode : ByteArray := prog_9_method_6_code
def yX7_copyCode : MethodName := ⟨RX7, "copyCode", "([I)I"⟩
abbrev cX7_readLine : ByteArray := prog_9_method_7_code
def yX7_readLine : MethodName := ⟨RX7, "readLine", "()Z"⟩
abbrev cX7_readJoined : ByteArray := prog_9_method_8_code
def yX7_readJoined : MethodName := ⟨RX7, "readJoined", "(II)Z"⟩
abbrev cX7_readOperand : ByteArray := prog_9_method_9_code
def yX7_readOperand : MethodName := ⟨RX7, "readOperand", "(I)Z"⟩
abbrev cX7_readNumber : ByteArray := prog_9_method_10_code
def yX7_readNumber : MethodName := ⟨RX7, "readNumber", "()V"⟩
abbrev cX7_signsOf : ByteArray := prog_9_method_11_code
def yX7_signsOf : MethodName := ⟨RX7, "signsOf", "(I)Ljava/lang/String;"⟩
abbrev cX7_isDigit : ByteArray := prog_9_method_12_code
def yX7_isDigit : MethodName := ⟨RX7, "isDigit", "()Z"⟩
abbrev cX7_isAhead : ByteArray := prog_9_method_13_code
def yX7_isAhead : MethodName := ⟨RX7, "isAhead", "(Ljava/lang/String;)Z"⟩
abbrev cX7_accepts : ByteArray := prog_9_method_14_code
def yX7_accepts : MethodName := ⟨RX7, "accepts", "(C)Z"⟩
abbrev cX7_write : ByteArray := prog_9_method_15_code
def yX7_write : MethodName := ⟨RX7, "write", "(I)V"⟩
def RX8 : String := "CutFromOthers$Told"
def TX8 : u_T := fun k => match k with
  | 0 => ("CutFromOthers$Told", "stock", "LCutFromOthers$Stock;", true)
  | 1 => ("CutFromOthers$Told", "fillings", "[I", false)
  | 2 => ("CutFromOthers$Told", "longer", "[I", false)
  | _ => ("CutFromOthers$Told", "lastRead", "I", false)
def tyX8 : Nat → FieldType := fun k => match k with
  | 0 => .object "CutFromOthers$Stock"
  | 1 => .array .int
  | 2 => .array .int
  | _ => .int
theorem nmX8 : ∀ a, a < 4 → ∀ b, b < 4 → a ≠ b → (TX8 a).2.1 ≠ (TX8 b).2.1 := by decide +kernel
theorem tyX8_ok : ∀ k, k < 4 → parseFieldDescriptor (TX8 k).2.2.1 = some (tyX8 k) := by decide +kernel
abbrev cX8_init : ByteArray := prog_10_method_1_code
def yX8_init : MethodName := ⟨RX8, "<init>", "(LCutFromOthers$Stock;)V"⟩
abbrev cX8_firstWrong : ByteArray := prog_10_method_2_code
def yX8_firstWrong : MethodName := ⟨RX8, "firstWrong", "(LCutFromOthers$Shelves;IIII)I"⟩
abbrev cX8_lastOnes : ByteArray := prog_10_method_3_code
def yX8_lastOnes : MethodName := ⟨RX8, "lastOnes", "(LCutFromOthers$Shelves;II)I"⟩
abbrev cX8_firstFilling : ByteArray := prog_10_method_4_code
def yX8_firstFilling : MethodName := ⟨RX8, "firstFilling", "(LCutFromOthers$Shelves;II)I"⟩
abbrev cX8_countFillings : ByteArray := prog_10_method_5_code
def yX8_countFillings : MethodName := ⟨RX8, "countFillings", "(LCutFromOthers$Shelves;II)I"⟩
abbrev cX8_goOn : ByteArray := prog_10_method_6_code
def yX8_goOn : MethodName := ⟨RX8, "goOn", "(I)V"⟩
abbrev cX8_meant : ByteArray := prog_10_method_7_code
def yX8_meant : MethodName := ⟨RX8, "meant", "(J)I"⟩
abbrev cX8_firstUnknown : ByteArray := prog_10_method_8_code
def yX8_firstUnknown : MethodName := ⟨RX8, "firstUnknown", "(LCutFromOthers$Shelves;I)I"⟩
def RX9 : String := "CutFromOthers$Yard"
def TX9 : u_T := fun k => match k with
  | 0 => ("CutFromOthers$Yard", "left", "[I", true)
  | 1 => ("CutFromOthers$Yard", "cutOf", "[I", true)
  | 2 => ("CutFromOthers$Yard", "ledger", "[I", true)
  | 3 => ("CutFromOthers$Yard", "imageLeft", "[I", true)
  | 4 => ("CutFromOthers$Yard", "imageCutOf", "[I", true)
  | 5 => ("CutFromOthers$Yard", "imageLedger", "[I", true)
  | 6 => ("CutFromOthers$Yard", "came", "I", false)
  | 7 => ("CutFromOthers$Yard", "imageBlocks", "I", false)
  | _ => ("CutFromOthers$Yard", "hasImage", "Z", false)
def tyX9 : Nat → FieldType := fun k => match k with
  | 0 => .array .int
  | 1 => .array .int
  | 2 => .array .int
  | 3 => .array .int
  | 4 => .array .int
  | 5 => .array .int
  | 6 => .int
  | 7 => .int
  | _ => .boolean
theorem nmX9 : ∀ a, a < 9 → ∀ b, b < 9 → a ≠ b → (TX9 a).2.1 ≠ (TX9 b).2.1 := by decide +kernel
theorem tyX9_ok : ∀ k, k < 9 → parseFieldDescriptor (TX9 k).2.2.1 = some (tyX9 k) := by decide +kernel
abbrev cX9_init : ByteArray := prog_11_method_1_code
def yX9_init : MethodName := ⟨RX9, "<init>", "()V"⟩
abbrev cX9_blocks : ByteArray := prog_11_method_2_code
def yX9_blocks : MethodName := ⟨RX9, "blocks", "()I"⟩
abbrev cX9_has : ByteArray := prog_11_method_3_code
def yX9_has : MethodName := ⟨RX9, "has", "(I)Z"⟩
abbrev cX9_add : ByteArray := prog_11_method_4_code
def yX9_add : MethodName := ⟨RX9, "add", "(I)I"⟩
abbrev cX9_leftOf : ByteArray := prog_11_method_5_code
def yX9_leftOf : MethodName := ⟨RX9, "leftOf", "(I)I"⟩
abbrev cX9_cutsOf : ByteArray := prog_11_method_6_code
def yX9_cutsOf : MethodName := ⟨RX9, "cutsOf", "(I)I"⟩
abbrev cX9_ledger : ByteArray := prog_11_method_7_code
def yX9_ledger : MethodName := ⟨RX9, "ledger", "(I)I"⟩
abbrev cX9_take : ByteArray := prog_11_method_8_code
def yX9_take : MethodName := ⟨RX9, "take", "(III)V"⟩
abbrev cX9_letPass : ByteArray := prog_11_method_9_code
def yX9_letPass : MethodName := ⟨RX9, "letPass", "(I)I"⟩
abbrev cX9_store : ByteArray := prog_11_method_10_code
def yX9_store : MethodName := ⟨RX9, "store", "()V"⟩
abbrev cX9_restore : ByteArray := prog_11_method_11_code
def yX9_restore : MethodName := ⟨RX9, "restore", "()Z"⟩
def RX10 : String := "CutFromOthers"
def TX10 : u_T := fun k => match k with
  | 0 => ("CutFromOthers", "stock", "LCutFromOthers$Stock;", true)
  | 1 => ("CutFromOthers", "tape", "LCutFromOthers$Tape;", true)
  | 2 => ("CutFromOthers", "rule", "LCutFromOthers$Rule;", true)
  | 3 => ("CutFromOthers", "rows", "LCutFromOthers$Rows;", true)
  | 4 => ("CutFromOthers", "told", "LCutFromOthers$Told;", true)
  | 5 => ("CutFromOthers", "yard", "LCutFromOthers$Yard;", true)
  | 6 => ("CutFromOthers", "changes", "LCutFromOthers$Changes;", true)
  | 7 => ("CutFromOthers", "stones", "LCutFromOthers$Stones;", true)
  | 8 => ("CutFromOthers", "shelves", "LCutFromOthers$Shelves;", true)
  | _ => ("CutFromOthers", "guest", "LCutFromOthers$Form;", true)
def tyX10 : Nat → FieldType := fun k => match k with
  | 0 => .object "CutFromOthers$Stock"
  | 1 => .object "CutFromOthers$Tape"
  | 2 => .object "CutFromOthers$Rule"
  | 3 => .object "CutFromOthers$Rows"
  | 4 => .object "CutFromOthers$Told"
  | 5 => .object "CutFromOthers$Yard"
  | 6 => .object "CutFromOthers$Changes"
  | 7 => .object "CutFromOthers$Stones"
  | 8 => .object "CutFromOthers$Shelves"
  | _ => .object "CutFromOthers$Form"
theorem nmX10 : ∀ a, a < 10 → ∀ b, b < 10 → a ≠ b → (TX10 a).2.1 ≠ (TX10 b).2.1 := by decide +kernel
theorem tyX10_ok : ∀ k, k < 10 → parseFieldDescriptor (TX10 k).2.2.1 = some (tyX10 k) := by decide +kernel
abbrev cX10_init : ByteArray := prog_1_method_1_code
def yX10_init : MethodName := ⟨RX10, "<init>", "()V"⟩
abbrev cX10_figure : ByteArray := prog_1_method_2_code
def yX10_figure : MethodName := ⟨RX10, "figure", "(I)I"⟩
abbrev cX10_figures : ByteArray := prog_1_method_3_code
def yX10_figures : MethodName := ⟨RX10, "figures", "(III)I"⟩
abbrev cX10_block : ByteArray := prog_1_method_4_code
def yX10_block : MethodName := ⟨RX10, "block", "(I)I"⟩
abbrev cX10_mend : ByteArray := prog_1_method_5_code
def yX10_mend : MethodName := ⟨RX10, "mend", "(III)I"⟩
abbrev cX10_of : ByteArray := prog_1_method_6_code
def yX10_of : MethodName := ⟨RX10, "of", "(II)I"⟩
abbrev cX10_feed : ByteArray := prog_1_method_7_code
def yX10_feed : MethodName := ⟨RX10, "feed", "(I)I"⟩
abbrev cX10_law : ByteArray := prog_1_method_8_code
def yX10_law : MethodName := ⟨RX10, "law", "()I"⟩
abbrev cX10_brings : ByteArray := prog_1_method_9_code
def yX10_brings : MethodName := ⟨RX10, "brings", "(III)I"⟩
abbrev cX10_size : ByteArray := prog_1_method_10_code
def yX10_size : MethodName := ⟨RX10, "size", "(II)I"⟩
abbrev cX10_turned : ByteArray := prog_1_method_11_code
def yX10_turned : MethodName := ⟨RX10, "turned", "(II)I"⟩
abbrev cX10_ways : ByteArray := prog_1_method_12_code
def yX10_ways : MethodName := ⟨RX10, "ways", "(II)I"⟩
abbrev cX10_inside : ByteArray := prog_1_method_13_code
def yX10_inside : MethodName := ⟨RX10, "inside", "(I)I"⟩
abbrev cX10_around : ByteArray := prog_1_method_14_code
def yX10_around : MethodName := ⟨RX10, "around", "(II)I"⟩
abbrev cX10_common : ByteArray := prog_1_method_15_code
def yX10_common : MethodName := ⟨RX10, "common", "(I)I"⟩
abbrev cX10_longest : ByteArray := prog_1_method_16_code
def yX10_longest : MethodName := ⟨RX10, "longest", "(II)I"⟩
abbrev cX10_richest : ByteArray := prog_1_method_17_code
def yX10_richest : MethodName := ⟨RX10, "richest", "(III)I"⟩
abbrev cX10_with : ByteArray := prog_1_method_18_code
def yX10_with : MethodName := ⟨RX10, "with", "(II)I"⟩
abbrev cX10_spare : ByteArray := prog_1_method_19_code
def yX10_spare : MethodName := ⟨RX10, "spare", "(II)I"⟩
abbrev cX10_when : ByteArray := prog_1_method_20_code
def yX10_when : MethodName := ⟨RX10, "when", "(II)I"⟩
abbrev cX10_smallest : ByteArray := prog_1_method_21_code
def yX10_smallest : MethodName := ⟨RX10, "smallest", "(II)I"⟩
abbrev cX10_leave : ByteArray := prog_1_method_22_code
def yX10_leave : MethodName := ⟨RX10, "leave", "(II)I"⟩
abbrev cX10_byTurns : ByteArray := prog_1_method_23_code
def yX10_byTurns : MethodName := ⟨RX10, "byTurns", "(II)I"⟩
abbrev cX10_egg : ByteArray := prog_1_method_24_code
def yX10_egg : MethodName := ⟨RX10, "egg", "(II)I"⟩
abbrev cX10_judge : ByteArray := prog_1_method_25_code
def yX10_judge : MethodName := ⟨RX10, "judge", "(II)I"⟩
abbrev cX10_filled : ByteArray := prog_1_method_26_code
def yX10_filled : MethodName := ⟨RX10, "filled", "(III)I"⟩
abbrev cX10_last : ByteArray := prog_1_method_27_code
def yX10_last : MethodName := ⟨RX10, "last", "(II)I"⟩
abbrev cX10_drawn : ByteArray := prog_1_method_28_code
def yX10_drawn : MethodName := ⟨RX10, "drawn", "(IIII)I"⟩
abbrev cX10_cut : ByteArray := prog_1_method_29_code
def yX10_cut : MethodName := ⟨RX10, "cut", "(I)I"⟩
abbrev cX10_pass : ByteArray := prog_1_method_30_code
def yX10_pass : MethodName := ⟨RX10, "pass", "(I)I"⟩
abbrev cX10_led : ByteArray := prog_1_method_31_code
def yX10_led : MethodName := ⟨RX10, "led", "(I)I"⟩
abbrev cX10_image : ByteArray := prog_1_method_32_code
def yX10_image : MethodName := ⟨RX10, "image", "()I"⟩
abbrev cX10_back : ByteArray := prog_1_method_33_code
def yX10_back : MethodName := ⟨RX10, "back", "()I"⟩
abbrev cX10_undo : ByteArray := prog_1_method_34_code
def yX10_undo : MethodName := ⟨RX10, "undo", "()I"⟩
abbrev cX10_redo : ByteArray := prog_1_method_35_code
def yX10_redo : MethodName := ⟨RX10, "redo", "()I"⟩
abbrev cX10_body : ByteArray := prog_1_method_36_code
def yX10_body : MethodName := ⟨RX10, "body", "(I)I"⟩
abbrev cX10_act : ByteArray := prog_1_method_37_code
def yX10_act : MethodName := ⟨RX10, "act", "(III)I"⟩
abbrev cX10_trace : ByteArray := prog_1_method_38_code
def yX10_trace : MethodName := ⟨RX10, "trace", "(I)I"⟩
abbrev cX10_keep : ByteArray := prog_1_method_39_code
def yX10_keep : MethodName := ⟨RX10, "keep", "(II)I"⟩
abbrev cX10_row : ByteArray := prog_1_method_40_code
def yX10_row : MethodName := ⟨RX10, "row", "(III)I"⟩
abbrev cX10_put : ByteArray := prog_1_method_41_code
def yX10_put : MethodName := ⟨RX10, "put", "(IIJ)I"⟩
abbrev cX10_element : ByteArray := prog_1_method_42_code
def yX10_element : MethodName := ⟨RX10, "element", "(II)J"⟩
abbrev cX10_shift : ByteArray := prog_1_method_43_code
def yX10_shift : MethodName := ⟨RX10, "shift", "(IIIII)I"⟩
abbrev cX10_taken : ByteArray := prog_1_method_44_code
def yX10_taken : MethodName := ⟨RX10, "taken", "(II)I"⟩
abbrev cX10_count : ByteArray := prog_1_method_45_code
def yX10_count : MethodName := ⟨RX10, "count", "(I)I"⟩
abbrev cX10_isShape : ByteArray := prog_1_method_46_code
def yX10_isShape : MethodName := ⟨RX10, "isShape", "(I)Z"⟩
abbrev cX10_isYear : ByteArray := prog_1_method_47_code
def yX10_isYear : MethodName := ⟨RX10, "isYear", "(I)Z"⟩
abbrev cX10_holds : ByteArray := prog_1_method_48_code
def yX10_holds : MethodName := ⟨RX10, "holds", "(II)Z"⟩
abbrev cX10_isBlockAndFigure : ByteArray := prog_1_method_49_code
def yX10_isBlockAndFigure : MethodName := ⟨RX10, "isBlockAndFigure", "(I)Z"⟩
abbrev cX10_isTwoFigures : ByteArray := prog_1_method_50_code
def yX10_isTwoFigures : MethodName := ⟨RX10, "isTwoFigures", "(I)Z"⟩
abbrev cX10_firstOutOf : ByteArray := prog_1_method_51_code
def yX10_firstOutOf : MethodName := ⟨RX10, "firstOutOf", "(I)I"⟩
abbrev cX10_partOf : ByteArray := prog_1_method_52_code
def yX10_partOf : MethodName := ⟨RX10, "partOf", "(I)I"⟩
abbrev cX10_figuresCome : ByteArray := prog_1_method_53_code
def yX10_figuresCome : MethodName := ⟨RX10, "figuresCome", "(III)I"⟩
abbrev cX10_refusalOfTold : ByteArray := prog_1_method_54_code
def yX10_refusalOfTold : MethodName := ⟨RX10, "refusalOfTold", "(II)I"⟩
abbrev cX10_refusalOfElement : ByteArray := prog_1_method_55_code
def yX10_refusalOfElement : MethodName := ⟨RX10, "refusalOfElement", "(II)I"⟩
def RX11 : String := "CutFromOthersModel"
def TX11 : u_T := fun k => match k with
  | 0 => ("CutFromOthersModel", "figures", "I", false)
  | 1 => ("CutFromOthersModel", "shape", "[I", true)
  | 2 => ("CutFromOthersModel", "worth", "[I", true)
  | 3 => ("CutFromOthersModel", "fades", "[I", true)
  | 4 => ("CutFromOthersModel", "wanted", "[I", true)
  | 5 => ("CutFromOthersModel", "blocks", "I", false)
  | 6 => ("CutFromOthersModel", "left", "[I", true)
  | 7 => ("CutFromOthersModel", "cuts", "[I", true)
  | 8 => ("CutFromOthersModel", "now", "I", false)
  | 9 => ("CutFromOthersModel", "taped", "I", false)
  | 10 => ("CutFromOthersModel", "tape", "[I", true)
  | 11 => ("CutFromOthersModel", "isTold", "Z", false)
  | 12 => ("CutFromOthersModel", "lines", "I", false)
  | 13 => ("CutFromOthersModel", "asks", "[I", true)
  | 14 => ("CutFromOthersModel", "says", "[I", true)
  | 15 => ("CutFromOthersModel", "ends", "[I", true)
  | 16 => ("CutFromOthersModel", "code", "[I", true)
  | 17 => ("CutFromOthersModel", "at", "I", false)
  | 18 => ("CutFromOthersModel", "open", "I", false)
  | 19 => ("CutFromOthersModel", "coded", "I", false)
  | 20 => ("CutFromOthersModel", "newLines", "I", false)
  | 21 => ("CutFromOthersModel", "newAsks", "[I", true)
  | 22 => ("CutFromOthersModel", "newSays", "[I", true)
  | 23 => ("CutFromOthersModel", "newEnds", "[I", true)
  | 24 => ("CutFromOthersModel", "newCode", "[I", true)
  | 25 => ("CutFromOthersModel", "stack", "[I", true)
  | 26 => ("CutFromOthersModel", "names", "[I", true)
  | 27 => ("CutFromOthersModel", "led", "[I", true)
  | 28 => ("CutFromOthersModel", "imaged", "Z", false)
  | 29 => ("CutFromOthersModel", "oldBlocks", "I", false)
  | 30 => ("CutFromOthersModel", "oldNow", "I", false)
  | 31 => ("CutFromOthersModel", "oldLeft", "[I", true)
  | 32 => ("CutFromOthersModel", "oldCuts", "[I", true)
  | 33 => ("CutFromOthersModel", "oldLed", "[I", true)
  | 34 => ("CutFromOthersModel", "changes", "I", false)
  | 35 => ("CutFromOthersModel", "done", "I", false)
  | 36 => ("CutFromOthersModel", "changed", "[I", true)
  | 37 => ("CutFromOthersModel", "bodies", "I", false)
  | 38 => ("CutFromOthersModel", "kind", "[I", true)
  | 39 => ("CutFromOthersModel", "traced", "I", false)
  | 40 => ("CutFromOthersModel", "traces", "[I", true)
  | 41 => ("CutFromOthersModel", "holding", "[I", true)
  | 42 => ("CutFromOthersModel", "rowLength", "[I", true)
  | 43 => ("CutFromOthersModel", "rowOf", "[J", true)
  | 44 => ("CutFromOthersModel", "of", "[I", true)
  | 45 => ("CutFromOthersModel", "more", "[I", true)
  | 46 => ("CutFromOthersModel", "brought", "[I", true)
  | 47 => ("CutFromOthersModel", "longs", "[I", true)
  | 48 => ("CutFromOthersModel", "wins", "[I", true)
  | _ => ("CutFromOthersModel", "lasts", "[I", true)
def tyX11 : Nat → FieldType := fun k => match k with
  | 0 => .int
  | 1 => .array .int
  | 2 => .array .int
  | 3 => .array .int
  | 4 => .array .int
  | 5 => .int
  | 6 => .array .int
  | 7 => .array .int
  | 8 => .int
  | 9 => .int
  | 10 => .array .int
  | 11 => .boolean
  | 12 => .int
  | 13 => .array .int
  | 14 => .array .int
  | 15 => .array .int
  | 16 => .array .int
  | 17 => .int
  | 18 => .int
  | 19 => .int
  | 20 => .int
  | 21 => .array .int
  | 22 => .array .int
  | 23 => .array .int
  | 24 => .array .int
  | 25 => .array .int
  | 26 => .array .int
  | 27 => .array .int
  | 28 => .boolean
  | 29 => .int
  | 30 => .int
  | 31 => .array .int
  | 32 => .array .int
  | 33 => .array .int
  | 34 => .int
  | 35 => .int
  | 36 => .array .int
  | 37 => .int
  | 38 => .array .int
  | 39 => .int
  | 40 => .array .int
  | 41 => .array .int
  | 42 => .array .int
  | 43 => .array .long
  | 44 => .array .int
  | 45 => .array .int
  | 46 => .array .int
  | 47 => .array .int
  | 48 => .array .int
  | _ => .array .int
theorem nmX11 : ∀ a, a < 50 → ∀ b, b < 50 → a ≠ b → (TX11 a).2.1 ≠ (TX11 b).2.1 := by decide +kernel
theorem tyX11_ok : ∀ k, k < 50 → parseFieldDescriptor (TX11 k).2.2.1 = some (tyX11 k) := by decide +kernel
abbrev cX11_init : ByteArray := prog_13_method_1_code
def yX11_init : MethodName := ⟨RX11, "<init>", "()V"⟩
abbrev cX11_within : ByteArray := prog_13_method_2_code
def yX11_within : MethodName := ⟨RX11, "within", "(III)Z"⟩
abbrev cX11_isFigure : ByteArray := prog_13_method_3_code
def yX11_isFigure : MethodName := ⟨RX11, "isFigure", "(I)Z"⟩
abbrev cX11_isBlock : ByteArray := prog_13_method_4_code
def yX11_isBlock : MethodName := ⟨RX11, "isBlock", "(I)Z"⟩
abbrev cX11_isIn : ByteArray := prog_13_method_5_code
def yX11_isIn : MethodName := ⟨RX11, "isIn", "(I)Z"⟩
abbrev cX11_areTwo : ByteArray := prog_13_method_6_code
def yX11_areTwo : MethodName := ⟨RX11, "areTwo", "(I)Z"⟩
abbrev cX11_isShape : ByteArray := prog_13_method_7_code
def yX11_isShape : MethodName := ⟨RX11, "isShape", "(I)Z"⟩
abbrev cX11_isYear : ByteArray := prog_13_method_8_code
def yX11_isYear : MethodName := ⟨RX11, "isYear", "(I)Z"⟩
abbrev cX11_isShelf : ByteArray := prog_13_method_9_code
def yX11_isShelf : MethodName := ⟨RX11, "isShelf", "(I)Z"⟩
abbrev cX11_has : ByteArray := prog_13_method_10_code
def yX11_has : MethodName := ⟨RX11, "has", "(II)Z"⟩
abbrev cX11_cells : ByteArray := prog_13_method_11_code
def yX11_cells : MethodName := ⟨RX11, "cells", "(I)I"⟩
abbrev cX11_pushed : ByteArray := prog_13_method_12_code
def yX11_pushed : MethodName := ⟨RX11, "pushed", "(I)I"⟩
abbrev cX11_turnedOnce : ByteArray := prog_13_method_13_code
def yX11_turnedOnce : MethodName := ⟨RX11, "turnedOnce", "(I)I"⟩
abbrev cX11_turnedBy : ByteArray := prog_13_method_14_code
def yX11_turnedBy : MethodName := ⟨RX11, "turnedBy", "(II)I"⟩
abbrev cX11_moved : ByteArray := prog_13_method_15_code
def yX11_moved : MethodName := ⟨RX11, "moved", "(III)I"⟩
abbrev cX11_placed : ByteArray := prog_13_method_16_code
def yX11_placed : MethodName := ⟨RX11, "placed", "(II)I"⟩
abbrev cX11_isWay : ByteArray := prog_13_method_17_code
def yX11_isWay : MethodName := ⟨RX11, "isWay", "(I)Z"⟩
abbrev cX11_waysIn : ByteArray := prog_13_method_18_code
def yX11_waysIn : MethodName := ⟨RX11, "waysIn", "(III)I"⟩
abbrev cX11_isCutOf : ByteArray := prog_13_method_19_code
def yX11_isCutOf : MethodName := ⟨RX11, "isCutOf", "(II)Z"⟩
abbrev cX11_cutOf : ByteArray := prog_13_method_20_code
def yX11_cutOf : MethodName := ⟨RX11, "cutOf", "(I)I"⟩
abbrev cX11_looks : ByteArray := prog_13_method_21_code
def yX11_looks : MethodName := ⟨RX11, "looks", "(I)V"⟩
abbrev cX11_newFigure : ByteArray := prog_13_method_22_code
def yX11_newFigure : MethodName := ⟨RX11, "newFigure", "(II)I"⟩
abbrev cX11_figure : ByteArray := prog_13_method_23_code
def yX11_figure : MethodName := ⟨RX11, "figure", "(I)I"⟩
abbrev cX11_figures : ByteArray := prog_13_method_24_code
def yX11_figures : MethodName := ⟨RX11, "figures", "(III)I"⟩
abbrev cX11_block : ByteArray := prog_13_method_25_code
def yX11_block : MethodName := ⟨RX11, "block", "(I)I"⟩
abbrev cX11_get : ByteArray := prog_13_method_26_code
def yX11_get : MethodName := ⟨RX11, "get", "(II)I"⟩
abbrev cX11_becomes : ByteArray := prog_13_method_27_code
def yX11_becomes : MethodName := ⟨RX11, "becomes", "(III)V"⟩
abbrev cX11_mend : ByteArray := prog_13_method_28_code
def yX11_mend : MethodName := ⟨RX11, "mend", "(III)I"⟩
abbrev cX11_of : ByteArray := prog_13_method_29_code
def yX11_of : MethodName := ⟨RX11, "of", "(II)I"⟩
abbrev cX11_undo : ByteArray := prog_13_method_30_code
def yX11_undo : MethodName := ⟨RX11, "undo", "()I"⟩
abbrev cX11_redo : ByteArray := prog_13_method_31_code
def yX11_redo : MethodName := ⟨RX11, "redo", "()I"⟩
abbrev cX11_feed : ByteArray := prog_13_method_32_code
def yX11_feed : MethodName := ⟨RX11, "feed", "(I)I"⟩
abbrev cX11_sign : ByteArray := prog_13_method_33_code
def yX11_sign : MethodName := ⟨RX11, "sign", "()I"⟩
abbrev cX11_is : ByteArray := prog_13_method_34_code
def yX11_is : MethodName := ⟨RX11, "is", "(I)Z"⟩
abbrev cX11_codes : ByteArray := prog_13_method_35_code
def yX11_codes : MethodName := ⟨RX11, "codes", "(I)Z"⟩
abbrev cX11_isDigit : ByteArray := prog_13_method_36_code
def yX11_isDigit : MethodName := ⟨RX11, "isDigit", "()Z"⟩
abbrev cX11_nameOf : ByteArray := prog_13_method_37_code
def yX11_nameOf : MethodName := ⟨RX11, "nameOf", "(I)I"⟩
abbrev cX11_isO : ByteArray := prog_13_method_38_code
def yX11_isO : MethodName := ⟨RX11, "isO", "()Z"⟩
abbrev cX11_isP : ByteArray := prog_13_method_39_code
def yX11_isP : MethodName := ⟨RX11, "isP", "()Z"⟩
abbrev cX11_isS : ByteArray := prog_13_method_40_code
def yX11_isS : MethodName := ⟨RX11, "isS", "()Z"⟩
abbrev cX11_isB : ByteArray := prog_13_method_41_code
def yX11_isB : MethodName := ⟨RX11, "isB", "()Z"⟩
abbrev cX11_isA : ByteArray := prog_13_method_42_code
def yX11_isA : MethodName := ⟨RX11, "isA", "()Z"⟩
abbrev cX11_isE : ByteArray := prog_13_method_43_code
def yX11_isE : MethodName := ⟨RX11, "isE", "()Z"⟩
abbrev cX11_isLine : ByteArray := prog_13_method_44_code
def yX11_isLine : MethodName := ⟨RX11, "isLine", "()Z"⟩
abbrev cX11_law : ByteArray := prog_13_method_45_code
def yX11_law : MethodName := ⟨RX11, "law", "()I"⟩
abbrev cX11_both : ByteArray := prog_13_method_46_code
def yX11_both : MethodName := ⟨RX11, "both", "(III)I"⟩
abbrev cX11_worked : ByteArray := prog_13_method_47_code
def yX11_worked : MethodName := ⟨RX11, "worked", "(II)I"⟩
abbrev cX11_bringsIn : ByteArray := prog_13_method_48_code
def yX11_bringsIn : MethodName := ⟨RX11, "bringsIn", "(III)I"⟩
abbrev cX11_brings : ByteArray := prog_13_method_49_code
def yX11_brings : MethodName := ⟨RX11, "brings", "(III)I"⟩
abbrev cX11_size : ByteArray := prog_13_method_50_code
def yX11_size : MethodName := ⟨RX11, "size", "(II)I"⟩
abbrev cX11_turned : ByteArray := prog_13_method_51_code
def yX11_turned : MethodName := ⟨RX11, "turned", "(II)I"⟩
abbrev cX11_ways : ByteArray := prog_13_method_52_code
def yX11_ways : MethodName := ⟨RX11, "ways", "(II)I"⟩
abbrev cX11_inside : ByteArray := prog_13_method_53_code
def yX11_inside : MethodName := ⟨RX11, "inside", "(I)I"⟩
abbrev cX11_around : ByteArray := prog_13_method_54_code
def yX11_around : MethodName := ⟨RX11, "around", "(II)I"⟩
abbrev cX11_common : ByteArray := prog_13_method_55_code
def yX11_common : MethodName := ⟨RX11, "common", "(I)I"⟩
abbrev cX11_longestOf : ByteArray := prog_13_method_56_code
def yX11_longestOf : MethodName := ⟨RX11, "longestOf", "(I)I"⟩
abbrev cX11_mostOf : ByteArray := prog_13_method_57_code
def yX11_mostOf : MethodName := ⟨RX11, "mostOf", "(II)I"⟩
abbrev cX11_longest : ByteArray := prog_13_method_58_code
def yX11_longest : MethodName := ⟨RX11, "longest", "(II)I"⟩
abbrev cX11_firstOf : ByteArray := prog_13_method_59_code
def yX11_firstOf : MethodName := ⟨RX11, "firstOf", "(II)I"⟩
abbrev cX11_rich : ByteArray := prog_13_method_60_code
def yX11_rich : MethodName := ⟨RX11, "rich", "(III)V"⟩
abbrev cX11_richest : ByteArray := prog_13_method_61_code
def yX11_richest : MethodName := ⟨RX11, "richest", "(III)I"⟩
abbrev cX11_nextRich : ByteArray := prog_13_method_62_code
def yX11_nextRich : MethodName := ⟨RX11, "nextRich", "(III)I"⟩
abbrev cX11_between : ByteArray := prog_13_method_63_code
def yX11_between : MethodName := ⟨RX11, "between", "(II)I"⟩
abbrev cX11_through : ByteArray := prog_13_method_64_code
def yX11_through : MethodName := ⟨RX11, "through", "(II)I"⟩
abbrev cX11_with : ByteArray := prog_13_method_65_code
def yX11_with : MethodName := ⟨RX11, "with", "(II)I"⟩
abbrev cX11_spare : ByteArray := prog_13_method_66_code
def yX11_spare : MethodName := ⟨RX11, "spare", "(II)I"⟩
abbrev cX11_when : ByteArray := prog_13_method_67_code
def yX11_when : MethodName := ⟨RX11, "when", "(II)I"⟩
abbrev cX11_smallest : ByteArray := prog_13_method_68_code
def yX11_smallest : MethodName := ⟨RX11, "smallest", "(II)I"⟩
abbrev cX11_leave : ByteArray := prog_13_method_69_code
def yX11_leave : MethodName := ⟨RX11, "leave", "(II)I"⟩
abbrev cX11_plays : ByteArray := prog_13_method_70_code
def yX11_plays : MethodName := ⟨RX11, "plays", "(I)V"⟩
abbrev cX11_byTurns : ByteArray := prog_13_method_71_code
def yX11_byTurns : MethodName := ⟨RX11, "byTurns", "(II)I"⟩
abbrev cX11_egg : ByteArray := prog_13_method_72_code
def yX11_egg : MethodName := ⟨RX11, "egg", "(II)I"⟩
abbrev cX11_noRow : ByteArray := prog_13_method_73_code
def yX11_noRow : MethodName := ⟨RX11, "noRow", "(I)I"⟩
abbrev cX11_toldAt : ByteArray := prog_13_method_74_code
def yX11_toldAt : MethodName := ⟨RX11, "toldAt", "(II)I"⟩
abbrev cX11_asTold : ByteArray := prog_13_method_75_code
def yX11_asTold : MethodName := ⟨RX11, "asTold", "(III)I"⟩
abbrev cX11_nextOf : ByteArray := prog_13_method_76_code
def yX11_nextOf : MethodName := ⟨RX11, "nextOf", "(I)I"⟩
abbrev cX11_canBe : ByteArray := prog_13_method_77_code
def yX11_canBe : MethodName := ⟨RX11, "canBe", "(II)I"⟩
abbrev cX11_judge : ByteArray := prog_13_method_78_code
def yX11_judge : MethodName := ⟨RX11, "judge", "(II)I"⟩
abbrev cX11_waysOn : ByteArray := prog_13_method_79_code
def yX11_waysOn : MethodName := ⟨RX11, "waysOn", "(III)I"⟩
abbrev cX11_firstUnknown : ByteArray := prog_13_method_80_code
def yX11_firstUnknown : MethodName := ⟨RX11, "firstUnknown", "(I)I"⟩
abbrev cX11_filled : ByteArray := prog_13_method_81_code
def yX11_filled : MethodName := ⟨RX11, "filled", "(III)I"⟩
abbrev cX11_last : ByteArray := prog_13_method_82_code
def yX11_last : MethodName := ⟨RX11, "last", "(II)I"⟩
abbrev cX11_drawn : ByteArray := prog_13_method_83_code
def yX11_drawn : MethodName := ⟨RX11, "drawn", "(IIII)I"⟩
abbrev cX11_pick : ByteArray := prog_13_method_84_code
def yX11_pick : MethodName := ⟨RX11, "pick", "(II)I"⟩
abbrev cX11_cut : ByteArray := prog_13_method_85_code
def yX11_cut : MethodName := ⟨RX11, "cut", "(I)I"⟩
abbrev cX11_pass : ByteArray := prog_13_method_86_code
def yX11_pass : MethodName := ⟨RX11, "pass", "(I)I"⟩
abbrev cX11_led : ByteArray := prog_13_method_87_code
def yX11_led : MethodName := ⟨RX11, "led", "(I)I"⟩
abbrev cX11_image : ByteArray := prog_13_method_88_code
def yX11_image : MethodName := ⟨RX11, "image", "()I"⟩
abbrev cX11_back : ByteArray := prog_13_method_89_code
def yX11_back : MethodName := ⟨RX11, "back", "()I"⟩
abbrev cX11_above : ByteArray := prog_13_method_90_code
def yX11_above : MethodName := ⟨RX11, "above", "(I)I"⟩
abbrev cX11_ran : ByteArray := prog_13_method_91_code
def yX11_ran : MethodName := ⟨RX11, "ran", "(I)V"⟩
abbrev cX11_cutsBy : ByteArray := prog_13_method_92_code
def yX11_cutsBy : MethodName := ⟨RX11, "cutsBy", "(III)I"⟩
abbrev cX11_holdsBy : ByteArray := prog_13_method_93_code
def yX11_holdsBy : MethodName := ⟨RX11, "holdsBy", "(III)I"⟩
abbrev cX11_leavesBy : ByteArray := prog_13_method_94_code
def yX11_leavesBy : MethodName := ⟨RX11, "leavesBy", "(III)I"⟩
abbrev cX11_tells : ByteArray := prog_13_method_95_code
def yX11_tells : MethodName := ⟨RX11, "tells", "(III)I"⟩
abbrev cX11_body : ByteArray := prog_13_method_96_code
def yX11_body : MethodName := ⟨RX11, "body", "(I)I"⟩
abbrev cX11_act : ByteArray := prog_13_method_97_code
def yX11_act : MethodName := ⟨RX11, "act", "(III)I"⟩
abbrev cX11_trace : ByteArray := prog_13_method_98_code
def yX11_trace : MethodName := ⟨RX11, "trace", "(I)I"⟩
abbrev cX11_keep : ByteArray := prog_13_method_99_code
def yX11_keep : MethodName := ⟨RX11, "keep", "(II)I"⟩
abbrev cX11_row : ByteArray := prog_13_method_100_code
def yX11_row : MethodName := ⟨RX11, "row", "(III)I"⟩
abbrev cX11_isRow : ByteArray := prog_13_method_101_code
def yX11_isRow : MethodName := ⟨RX11, "isRow", "(I)Z"⟩
abbrev cX11_kept : ByteArray := prog_13_method_102_code
def yX11_kept : MethodName := ⟨RX11, "kept", "(IJ)J"⟩
abbrev cX11_put : ByteArray := prog_13_method_103_code
def yX11_put : MethodName := ⟨RX11, "put", "(IIJ)I"⟩
abbrev cX11_element : ByteArray := prog_13_method_104_code
def yX11_element : MethodName := ⟨RX11, "element", "(II)J"⟩
abbrev cX11_shift : ByteArray := prog_13_method_105_code
def yX11_shift : MethodName := ⟨RX11, "shift", "(IIIII)I"⟩
abbrev cX11_taken : ByteArray := prog_13_method_106_code
def yX11_taken : MethodName := ⟨RX11, "taken", "(II)I"⟩
abbrev cX11_count : ByteArray := prog_13_method_107_code
def yX11_count : MethodName := ⟨RX11, "count", "(I)I"⟩
def RJ11 : String := "java/lang/Character"
abbrev cJ11_isValidCodePoint_9a6ad : ByteArray := prog_14_method_11_code
def yJ11_isValidCodePoint_9a6ad : MethodName := ⟨RJ11, "isValidCodePoint", "(I)Z"⟩
abbrev cJ11_highSurrogate_5068e : ByteArray := prog_14_method_28_code
def yJ11_highSurrogate_5068e : MethodName := ⟨RJ11, "highSurrogate", "(I)C"⟩
abbrev cJ11_lowSurrogate_5068e : ByteArray := prog_14_method_29_code
def yJ11_lowSurrogate_5068e : MethodName := ⟨RJ11, "lowSurrogate", "(I)C"⟩
def RJ6 : String := "java/lang/Integer"
abbrev cJ6_bitCount_0f7a4 : ByteArray := prog_15_method_49_code
def yJ6_bitCount_0f7a4 : MethodName := ⟨RJ6, "bitCount", "(I)I"⟩
def RJ9 : String := "java/lang/Math"
abbrev cJ9_abs_0f7a4 : ByteArray := prog_16_method_59_code
def yJ9_abs_0f7a4 : MethodName := ⟨RJ9, "abs", "(I)I"⟩
abbrev cJ9_max_7cf53 : ByteArray := prog_16_method_65_code
def yJ9_max_7cf53 : MethodName := ⟨RJ9, "max", "(II)I"⟩
abbrev cJ9_min_7cf53 : ByteArray := prog_16_method_69_code
def yJ9_min_7cf53 : MethodName := ⟨RJ9, "min", "(II)I"⟩
def RJ0 : String := "java/lang/String"
abbrev cJ0_length_8abf5 : ByteArray := prog_17_method_54_code
def yJ0_length_8abf5 : MethodName := ⟨RJ0, "length", "()I"⟩
abbrev cJ0_indexOf_0f7a4 : ByteArray := prog_17_method_79_code
def yJ0_indexOf_0f7a4 : MethodName := ⟨RJ0, "indexOf", "(I)I"⟩
abbrev cJ0_indexOf_7cf53 : ByteArray := prog_17_method_80_code
def yJ0_indexOf_7cf53 : MethodName := ⟨RJ0, "indexOf", "(II)I"⟩
abbrev cJ0_coder_7d493 : ByteArray := prog_17_method_152_code
def yJ0_coder_7d493 : MethodName := ⟨RJ0, "coder", "()B"⟩
abbrev cJ0_isLatin1_aae02 : ByteArray := prog_17_method_154_code
def yJ0_isLatin1_aae02 : MethodName := ⟨RJ0, "isLatin1", "()Z"⟩
abbrev cJ0_checkBoundsBeginEnd_23922 : ByteArray := prog_17_method_158_code
def yJ0_checkBoundsBeginEnd_23922 : MethodName := ⟨RJ0, "checkBoundsBeginEnd", "(III)V"⟩
def RJ1 : String := "java/lang/StringLatin1"
abbrev cJ1_canEncode_9a6ad : ByteArray := prog_18_method_4_code
def yJ1_canEncode_9a6ad : MethodName := ⟨RJ1, "canEncode", "(I)Z"⟩
abbrev cJ1_indexOf_4cfef : ByteArray := prog_18_method_22_code
def yJ1_indexOf_4cfef : MethodName := ⟨RJ1, "indexOf", "([BIII)I"⟩
abbrev cJ1_indexOfChar_4cfef : ByteArray := prog_18_method_23_code
def yJ1_indexOfChar_4cfef : MethodName := ⟨RJ1, "indexOfChar", "([BIII)I"⟩
def RJ2 : String := "java/lang/StringUTF16"
abbrev cJ2_getChar_3b067 : ByteArray := prog_19_method_5_code
def yJ2_getChar_3b067 : MethodName := ⟨RJ2, "getChar", "([BI)C"⟩
abbrev cJ2_length_9d52b : ByteArray := prog_19_method_6_code
def yJ2_length_9d52b : MethodName := ⟨RJ2, "length", "([B)I"⟩
abbrev cJ2_indexOf_4cfef : ByteArray := prog_19_method_40_code
def yJ2_indexOf_4cfef : MethodName := ⟨RJ2, "indexOf", "([BIII)I"⟩
abbrev cJ2_indexOfChar_4cfef : ByteArray := prog_19_method_47_code
def yJ2_indexOfChar_4cfef : MethodName := ⟨RJ2, "indexOfChar", "([BIII)I"⟩
abbrev cJ2_indexOfCharUnsafe_4cfef : ByteArray := prog_19_method_48_code
def yJ2_indexOfCharUnsafe_4cfef : MethodName := ⟨RJ2, "indexOfCharUnsafe", "([BIII)I"⟩
abbrev cJ2_indexOfSupplementary_4cfef : ByteArray := prog_19_method_49_code
def yJ2_indexOfSupplementary_4cfef : MethodName := ⟨RJ2, "indexOfSupplementary", "([BIII)I"⟩
abbrev cJ2_checkBoundsBeginEnd_d044e : ByteArray := prog_19_method_93_code
def yJ2_checkBoundsBeginEnd_d044e : MethodName := ⟨RJ2, "checkBoundsBeginEnd", "(II[B)V"⟩
def RJ10 : String := "java/lang/System"
def RJ3 : String := "jdk/internal/util/Preconditions"
abbrev cJ3_checkFromToIndex_8c36e : ByteArray := prog_21_method_12_code
def yJ3_checkFromToIndex_8c36e : MethodName := ⟨RJ3, "checkFromToIndex", "(IIILjava/util/function/BiFunction;)I"⟩
def RL : String := "CutFromOthersLaw"
abbrev cL_law : ByteArray := code
def yL_law : MethodName := ⟨RL, "law", "([I)Z"⟩
abbrev vwCl : List vw_C := [(RX0, TX0, 3), (RX1, TX1, 6), (RX2, TX2, 7), (RX3, TX3, 5), (RX4, TX4, 3), (RX5, TX5, 5), (RX6, TX6, 4), (RX7, TX7, 5), (RX8, TX8, 4), (RX9, TX9, 9), (RX10, TX10, 10), (RX11, TX11, 50)]
theorem inX0 : ∀ w ∈ u_ws RX0 TX0 3, w ∈ x_tbl := x_in [292, 294, 296] (by decide +kernel) (by decide +kernel)
theorem inX1 : ∀ w ∈ u_ws RX1 TX1 6, w ∈ x_tbl := x_in [128, 130, 132, 134, 136, 138] (by decide +kernel) (by decide +kernel)
theorem inX2 : ∀ w ∈ u_ws RX2 TX2 7, w ∈ x_tbl := x_in [215, 217, 219, 221, 223, 225, 227] (by decide +kernel) (by decide +kernel)
theorem inX3 : ∀ w ∈ u_ws RX3 TX3 5, w ∈ x_tbl := x_in [191, 193, 195, 197, 199] (by decide +kernel) (by decide +kernel)
theorem inX4 : ∀ w ∈ u_ws RX4 TX4 3, w ∈ x_tbl := x_in [327, 329, 331] (by decide +kernel) (by decide +kernel)
theorem inX5 : ∀ w ∈ u_ws RX5 TX5 5, w ∈ x_tbl := x_in [147, 149, 151, 153, 155] (by decide +kernel) (by decide +kernel)
theorem inX6 : ∀ w ∈ u_ws RX6 TX6 4, w ∈ x_tbl := x_in [309, 311, 313, 315] (by decide +kernel) (by decide +kernel)
theorem inX7 : ∀ w ∈ u_ws RX7 TX7 5, w ∈ x_tbl := x_in [169, 171, 173, 175, 177] (by decide +kernel) (by decide +kernel)
theorem inX8 : ∀ w ∈ u_ws RX8 TX8 4, w ∈ x_tbl := x_in [240, 242, 244, 246] (by decide +kernel) (by decide +kernel)
theorem inX9 : ∀ w ∈ u_ws RX9 TX9 9, w ∈ x_tbl := x_in [264, 266, 268, 270, 272, 274, 276, 278, 280] (by decide +kernel) (by decide +kernel)
theorem inX10 : ∀ w ∈ u_ws RX10 TX10 10, w ∈ x_tbl := x_in [347, 349, 351, 353, 355, 357, 359, 361, 363, 365] (by decide +kernel) (by decide +kernel)
theorem inX11 : ∀ w ∈ u_ws RX11 TX11 50, w ∈ x_tbl := x_in [1213, 1215, 1217, 1219, 1221, 1223, 1225, 1227, 1229, 1231, 1233, 1235, 1237, 1239, 1241, 1243, 1245, 1247, 1249, 1251, 1253, 1255, 1257, 1259, 1261, 1263, 1265, 1267, 1269, 1271, 1273, 1275, 1277, 1279, 1281, 1283, 1285, 1287, 1289, 1291, 1293, 1295, 1297, 1299, 1301, 1303, 1305, 1307, 1309, 1311] (by decide +kernel) (by decide +kernel)
def x_ft : List (List Nat) := [[0, 1, 1], [0, 0, 0, 1, 1, 1], [0, 0, 0, 0, 0, 0, 1], [0, 0, 0, 1, 1], [0, 0, 0], [0, 0, 0, 0, 1], [0, 0, 1, 1], [0, 0, 1, 1, 1], [0, 0, 0, 1], [0, 0, 0, 0, 0, 0, 1, 1, 2], [0, 0, 0, 0, 0, 0, 0, 0, 0, 0], [1, 0, 0, 0, 0, 1, 0, 0, 1, 1, 0, 2, 1, 0, 0, 0, 0, 1, 1, 1, 1, 0, 0, 0, 0, 0, 0, 0, 2, 1, 1, 0, 0, 0, 1, 1, 0, 1, 0, 1, 0, 0, 0, 0, 0, 0, 0, 0, 0, 0]]
end
section
/-! THE MEMORY'S PICTURE: how many cells, the kind of each (0 to 11: an object of that class of vwCl; 12 ints, 13 longs, 14 Forms), its length, its ints, its longs, its references. An address of the picture is the number of the cell in the order of their making; from 1000 on: what was there before (strings, tables). -/
abbrev mM : Type := Nat × (Nat → Nat) × (Nat → Nat) × (Nat → Nat → Int32) × (Nat → Nat → Int64) × (Nat → Nat → Option Nat)
abbrev m_n (M : mM) : Nat := M.1
abbrev m_k (M : mM) : Nat → Nat := M.2.1
abbrev m_l (M : mM) : Nat → Nat := M.2.2.1
abbrev m_i (M : mM) : Nat → Nat → Int32 := M.2.2.2.1
abbrev m_j (M : mM) : Nat → Nat → Int64 := M.2.2.2.2.1
abbrev m_r (M : mM) : Nat → Nat → Option Nat := M.2.2.2.2.2
/-- one place of one cell becomes v -/
def u2 {α : Type} (f : Nat → Nat → α) (a k : Nat) (v : α) : Nat → Nat → α := fun b j => if b = a then (if j = k then v else f b j) else f b j
/-- a whole cell becomes g -/
def u1 {α : Type} (f : Nat → Nat → α) (a : Nat) (g : Nat → α) : Nat → Nat → α := fun b => if b = a then g else f b
theorem u2_row {α : Type} (f : Nat → Nat → α) (a k : Nat) (v : α) : u2 f a k v a = fun j => if j = k then v else f a j := by funext j; simp [u2]
theorem u2_ne {α : Type} (f : Nat → Nat → α) {a b : Nat} (k : Nat) (v : α) (h : b ≠ a) : u2 f a k v b = f b := by funext j; simp [u2, h]
theorem u1_row {α : Type} (f : Nat → Nat → α) (a : Nat) (g : Nat → α) : u1 f a g a = g := by simp [u1]
theorem u1_ne {α : Type} (f : Nat → Nat → α) {a b : Nat} (g : Nat → α) (h : b ≠ a) : u1 f a g b = f b := by simp [u1, h]
abbrev m_seti (M : mM) (a k : Nat) (v : Int32) : mM := (M.1, M.2.1, M.2.2.1, u2 M.2.2.2.1 a k v, M.2.2.2.2.1, M.2.2.2.2.2)
abbrev m_setj (M : mM) (a k : Nat) (v : Int64) : mM := (M.1, M.2.1, M.2.2.1, M.2.2.2.1, u2 M.2.2.2.2.1 a k v, M.2.2.2.2.2)
abbrev m_setr (M : mM) (a k : Nat) (v : Option Nat) : mM := (M.1, M.2.1, M.2.2.1, M.2.2.2.1, M.2.2.2.2.1, u2 M.2.2.2.2.2 a k v)
abbrev m_rowi (M : mM) (a : Nat) (g : Nat → Int32) : mM := (M.1, M.2.1, M.2.2.1, u1 M.2.2.2.1 a g, M.2.2.2.2.1, M.2.2.2.2.2)
abbrev m_rowj (M : mM) (a : Nat) (g : Nat → Int64) : mM := (M.1, M.2.1, M.2.2.1, M.2.2.2.1, u1 M.2.2.2.2.1 a g, M.2.2.2.2.2)
/-- a new cell of a kind and a length, all 0, null -/
abbrev m_new (M : mM) (k n : Nat) : mM := (M.1 + 1, (fun b => if b = M.1 then k else M.2.1 b), (fun b => if b = M.1 then n else M.2.2.1 b), u1 M.2.2.2.1 M.1 (fun _ => 0), u1 M.2.2.2.2.1 M.1 (fun _ => 0), u1 M.2.2.2.2.2 M.1 (fun _ => none))
/-- the fields of an object: 0 a reference, 1 an int, 2 a boolean -/
def x_fs (ts : List Nat) (fi : Nat → Int32) (fr : Nat → Value) : List Value := (List.range ts.length).map (fun j => if ts.getD j 0 = 0 then fr j else .int (fi j))
theorem x_fs_at {ts : List Nat} {fi : Nat → Int32} {fr : Nat → Value} {k t : Nat} (h : ts[k]? = some t) : (x_fs ts fi fr)[k]? = some (if t = 0 then fr k else .int (fi k)) := by
  obtain ⟨hl, rfl⟩ := List.getElem?_eq_some_iff.mp h
  simp [x_fs, hl]
theorem x_fs_len {ts : List Nat} {fi : Nat → Int32} {fr : Nat → Value} : (x_fs ts fi fr).length = ts.length := by simp [x_fs]
theorem x_fs_seti {ts : List Nat} {fi : Nat → Int32} {fr : Nat → Value} {k t : Nat} {v : Int32} (h : ts[k]? = some t) (ht : t ≠ 0) : (x_fs ts fi fr).set k (.int v) = x_fs ts (fun j => if j = k then v else fi j) fr := by
  have hl := (List.getElem?_eq_some_iff.mp h).1
  apply List.ext_getElem?
  intro j
  by_cases hj : j = k
  · subst hj
    rw [List.getElem?_set_self (by rw [x_fs_len]; exact hl), x_fs_at h, if_neg ht, if_pos rfl]
  · rw [List.getElem?_set_ne (Ne.symm hj)]
    simp only [x_fs, List.getElem?_map]
    cases hr : (List.range ts.length)[j]? with
    | none => rfl
    | some q =>
      have : q = j := by
        obtain ⟨h1, h2⟩ := List.getElem?_eq_some_iff.mp hr
        simpa using h2.symm
      subst this
      simp [hj]
theorem x_fs_setr {ts : List Nat} {fi : Nat → Int32} {fr fr2 : Nat → Value} {k : Nat} (h : ts[k]? = some 0) (h2 : ∀ j, j ≠ k → fr2 j = fr j) : (x_fs ts fi fr).set k (fr2 k) = x_fs ts fi fr2 := by
  have hl := (List.getElem?_eq_some_iff.mp h).1
  apply List.ext_getElem?
  intro j
  by_cases hj : j = k
  · subst hj
    rw [List.getElem?_set_self (by rw [x_fs_len]; exact hl), x_fs_at h, if_pos rfl]
  · rw [List.getElem?_set_ne (Ne.symm hj)]
    simp only [x_fs, List.getElem?_map]
    cases hr : (List.range ts.length)[j]? with
    | none => rfl
    | some q =>
      have : q = j := by
        obtain ⟨h1, h2⟩ := List.getElem?_eq_some_iff.mp hr
        simpa using h2.symm
      subst this
      simp [h2 q hj]
def x_ad (xt : Nat → Nat) (L : List Nat) (k : Nat) : Nat := if k < 1000 then L.getD k 0 else xt k
def cv (xt : Nat → Nat) (L : List Nat) : Value → Value
  | .ref k => .ref (x_ad xt L k)
  | v => v
theorem cv_cat (xt : Nat → Nat) (L : List Nat) (v : Value) : (cv xt L v).category = v.category := by cases v <;> rfl
def x_cl (ty : Nat → ClassId) (ad : Nat → Nat) (M : mM) (a : Nat) : va_E :=
  if m_k M a = 12 then .inl (ty 0, m_l M a, .inl (m_i M a))
  else if m_k M a = 13 then .inl (ty 1, m_l M a, .inr (.inl (m_j M a)))
  else if m_k M a = 14 then .inl (ty 2, m_l M a, .inr (.inr (.inr (.inr (fun j => (m_r M a j).map ad)))))
  else .inr (m_k M a, x_fs (x_ft.getD (m_k M a) []) (m_i M a) (fun j => va_rf ((m_r M a j).map ad)))
def x_ws (ty : Nat → ClassId) (xt : Nat → Nat) (L : List Nat) (M : mM) : va_W := (List.range (m_n M)).map (fun k => (x_ad xt L k, x_cl ty (x_ad xt L) M k))
theorem x_ws_at {ty : Nat → ClassId} {xt : Nat → Nat} {L : List Nat} {M : mM} {a : Nat} (h : a < m_n M) : (x_ws ty xt L M)[a]? = some (x_ad xt L a, x_cl ty (x_ad xt L) M a) := by
  simp [x_ws, h]
theorem x_ws_set {ty : Nat → ClassId} {xt : Nat → Nat} {L : List Nat} {M M' : mM} {a : Nat} {e : va_E} (h : a < m_n M) (hn : m_n M' = m_n M) (he : x_cl ty (x_ad xt L) M' a = e) (hr : ∀ b, b ≠ a → x_cl ty (x_ad xt L) M' b = x_cl ty (x_ad xt L) M b) : (x_ws ty xt L M).set a (x_ad xt L a, e) = x_ws ty xt L M' := by
  apply List.ext_getElem?
  intro j
  have hlen : (x_ws ty xt L M).length = m_n M := by simp [x_ws]
  by_cases hj : j = a
  · subst hj
    rw [List.getElem?_set_self (by rw [hlen]; exact h), x_ws_at (by rw [hn]; exact h), he]
  · rw [List.getElem?_set_ne (Ne.symm hj)]
    by_cases hl : j < m_n M
    · rw [x_ws_at hl, x_ws_at (by rw [hn]; exact hl), hr j hj]
    · rw [List.getElem?_eq_none (by rw [hlen]; omega), List.getElem?_eq_none (by simp only [x_ws, List.length_map, List.length_range]; omega)]
/-- the picture holds of the heap H: the cells' addresses are L's -/
def PR (D : va_G) (ty : Nat → ClassId) (xt : Nat → Nat) (A : Nat → Prop) (L : List Nat) (M : mM) (H : Heap) : Prop :=
  L.length = m_n M ∧ m_n M ≤ 1000 ∧ (∀ a j r, a < m_n M → m_r M a j = some r → r < m_n M) ∧ va_P D vwCl (x_ws ty xt L M) H ∧ va_D A (x_ws ty xt L M)
/-- the places of a frame -/
def LR (xt : Nat → Nat) (L : List Nat) (nL : Nat) (lc : Array Slot) (ls : List (Option Value)) : Prop :=
  lc.size = nL ∧ lv_wf lc ∧ ∀ (i : Nat) (v : Value), ls[i]? = some (some v) → lc[i]? = some (Slot.val (cv xt L v))
def x_lv (xt : Nat → Nat) (L : List Nat) (ls : List (Option Value)) : List (Nat × Value) := (List.range ls.length).filterMap (fun i => match ls[i]? with
  | some (some v) => some (i, cv xt L v)
  | _ => none)
theorem x_lv_mem {xt : Nat → Nat} {L : List Nat} {ls : List (Option Value)} {q : Nat × Value} : q ∈ x_lv xt L ls ↔ ∃ i v, ls[i]? = some (some v) ∧ q = (i, cv xt L v) := by
  unfold x_lv
  rw [List.mem_filterMap]
  constructor
  · rintro ⟨i, hi, h⟩
    split at h
    · next v hv =>
      cases h
      exact ⟨i, v, hv, rfl⟩
    · cases h
  · rintro ⟨i, v, h, rfl⟩
    refine ⟨i, List.mem_range.mpr (List.getElem?_eq_some_iff.mp h).1, ?_⟩
    rw [h]
theorem LR.has {xt : Nat → Nat} {L : List Nat} {nL : Nat} {lc : Array Slot} {ls : List (Option Value)} (h : LR xt L nL lc ls) : lv_has lc nL (x_lv xt L ls) := by
  refine ⟨h.1, h.2.1, fun q hq => ?_⟩
  obtain ⟨i, v, h1, rfl⟩ := x_lv_mem.mp hq
  exact h.2.2 i v h1
/-- nothing of two words ends at this place -/
def x_ok (ls : List (Option Value)) : Nat → Bool
  | 0 => true
  | i + 1 => match ls[i]? with
    | some (some (.long _)) => false
    | some (some (.double _)) => false
    | _ => true
theorem x_ok_cat {ls : List (Option Value)} {i : Nat} {v : Value} (h : x_ok ls (i + 1) = true) (hv : ls[i]? = some (some v)) : v.category = 1 := by
  simp only [x_ok, hv] at h
  cases v <;> first | rfl | (simp at h)
theorem LR.st1 {xt : Nat → Nat} {L : List Nat} {nL i : Nat} {lc : Array Slot} {ls : List (Option Value)} {v : Value} (hok : x_ok ls i = true) (h : lv_has lc nL ((i, cv xt L v) :: (x_lv xt L ls).filter (fun q => !(q.1 == i) && !(q.1 + 1 == i && q.2.category == 2)))) : LR xt L nL lc (ls.set i (some v)) := by
  refine ⟨h.1, h.2.1, fun j w hw => ?_⟩
  by_cases hj : j = i
  · subst hj
    have hl : j < ls.length := by
      have := (List.getElem?_eq_some_iff.mp hw).1
      simpa using this
    rw [List.getElem?_set_self hl] at hw
    cases hw
    exact h.2.2 (j, cv xt L v) List.mem_cons_self
  · rw [List.getElem?_set_ne (Ne.symm hj)] at hw
    refine h.2.2 (j, cv xt L w) (List.mem_cons_of_mem _ (List.mem_filter.mpr ⟨x_lv_mem.mpr ⟨j, w, hw, rfl⟩, ?_⟩))
    simp only [Bool.and_eq_true, Bool.not_eq_true', beq_eq_false_iff_ne, Bool.and_eq_false_iff]
    refine ⟨hj, ?_⟩
    by_cases h1 : j + 1 = i
    · subst h1
      right
      rw [cv_cat, x_ok_cat hok hw]
      decide
    · left
      exact h1
theorem LR.st2 {xt : Nat → Nat} {L : List Nat} {nL i : Nat} {lc : Array Slot} {ls : List (Option Value)} {v : Value} (hok : x_ok ls i = true) (h : lv_has lc nL ((i, cv xt L v) :: (x_lv xt L ls).filter (fun q => !(q.1 == i) && (!(q.1 == i + 1) && !(q.1 + 1 == i && q.2.category == 2))))) : LR xt L nL lc ((ls.set (i + 1) none).set i (some v)) := by
  refine ⟨h.1, h.2.1, fun j w hw => ?_⟩
  by_cases hj : j = i
  · subst hj
    have hl : j < (ls.set (j + 1) none).length := by
      have := (List.getElem?_eq_some_iff.mp hw).1
      simpa using this
    rw [List.getElem?_set_self hl] at hw
    cases hw
    exact h.2.2 (j, cv xt L v) List.mem_cons_self
  · rw [List.getElem?_set_ne (Ne.symm hj)] at hw
    by_cases h2 : j = i + 1
    · subst h2
      exfalso
      have hl : i + 1 < ls.length := by
        have := (List.getElem?_eq_some_iff.mp hw).1
        simpa using this
      rw [List.getElem?_set_self hl] at hw
      cases hw
    · rw [List.getElem?_set_ne (Ne.symm h2)] at hw
      refine h.2.2 (j, cv xt L w) (List.mem_cons_of_mem _ (List.mem_filter.mpr ⟨x_lv_mem.mpr ⟨j, w, hw, rfl⟩, ?_⟩))
      simp only [Bool.and_eq_true, Bool.not_eq_true', beq_eq_false_iff_ne, Bool.and_eq_false_iff]
      refine ⟨hj, h2, ?_⟩
      by_cases h1 : j + 1 = i
      · subst h1
        right
        rw [cv_cat, x_ok_cat hok hw]
        decide
      · left
        exact h1
end
section
/-! WHAT WAS THERE BEFORE: tables, strings, links of the nest -/
def x_most : Nat → Int32 := fun j => ([999, 9, 99] : List Int32).getD j 0
def x_abov : Nat → Int32 := fun j => ([-1, 0, 0, 2, 1, 3, 0, 4] : List Int32).getD j 0
def x_bods : Nat → Int32 := fun j => ([1, 10, 11, 2, 20, 0, 0, 0, 0, 30, 0, 0, 0, 41, 40, 0, 0, 0, 50, 0, 0, 0, 0, 60, 70, 0, 0, 0, 0, 80, 0, 81] : List Int32).getD j 0
def x_sl : List Nat := [6, 1, 1, 3, 2, 3]
def x_sb : List (List Int32) := [[119, 102, 97, 99, 110, 107], [124], [38], [60, 61, 62], [43, 45], [42, 47, 37]]
def x_sr : List (Nat × String) := [(68, "wfacnk"), (76, "|"), (78, "&"), (80, "<=>"), (82, "+-"), (84, "*/%")]
def x_nF : List (String × Nat × String × String × String × String) := [("CutFromOthers", 159, "CutFromOthers$Form", "turns", "[I", "CutFromOthers"), ("CutFromOthers", 123, "CutFromOthers$Form", "shape", "I", "CutFromOthers"), ("CutFromOthers$Stock", 54, "CutFromOthers$Form", "shape", "I", "CutFromOthers"), ("CutFromOthers$Rule", 48, "CutFromOthers$Form", "cells", "I", "CutFromOthers"), ("CutFromOthers", 156, "CutFromOthers$Form", "cells", "I", "CutFromOthers"), ("CutFromOthers$Stock", 61, "CutFromOthers$Form", "cells", "I", "CutFromOthers")]
def x_nM : List (String × Nat × MethodName × String) := [("CutFromOthers$Stock", 27, ⟨"CutFromOthers$Form", "<init>", "()V"⟩, "CutFromOthers"), ("CutFromOthers", 18, ⟨"CutFromOthers$Tape", "<init>", "()V"⟩, "CutFromOthers"), ("CutFromOthers", 25, ⟨"CutFromOthers$Rule", "<init>", "()V"⟩, "CutFromOthers"), ("CutFromOthers", 50, ⟨"CutFromOthers$Yard", "<init>", "()V"⟩, "CutFromOthers"), ("CutFromOthers", 57, ⟨"CutFromOthers$Changes", "<init>", "()V"⟩, "CutFromOthers"), ("CutFromOthers", 64, ⟨"CutFromOthers$Stones", "<init>", "()V"⟩, "CutFromOthers"), ("CutFromOthers", 71, ⟨"CutFromOthers$Shelves", "<init>", "()V"⟩, "CutFromOthers"), ("CutFromOthers", 78, ⟨"CutFromOthers$Form", "<init>", "()V"⟩, "CutFromOthers"), ("CutFromOthers$Stock", 50, ⟨"CutFromOthers", "holds", "(II)Z"⟩, "CutFromOthers"), ("CutFromOthers$Rows", 42, ⟨"CutFromOthers", "holds", "(II)Z"⟩, "CutFromOthers"), ("CutFromOthers$Told", 57, ⟨"CutFromOthers", "holds", "(II)Z"⟩, "CutFromOthers")]
/-- what the heap holds of it -/
def ExH (xt : Nat → Nat) (A : Nat → Prop) (U : State) (H : Heap) : Prop :=
  (va_Z "CutFromOthers" "MOST_OF_TRAIT" "[I" (.ref (xt 1001)) A U H ∧ va_T .int (xt 1001) 3 (fun j => .int (x_most j)) A U H) ∧
  (va_Z "CutFromOthers$Stones" "ABOVE" "[I" (.ref (xt 1002)) A U H ∧ va_T .int (xt 1002) 8 (fun j => .int (x_abov j)) A U H) ∧
  (va_Z "CutFromOthers$Stones" "BODIES" "[I" (.ref (xt 1003)) A U H ∧ va_T .int (xt 1003) 32 (fun j => .int (x_bods j)) A U H) ∧
  vk_S 6 x_sl x_sb (fun i => xt (1010 + i)) (fun i => xt (1020 + i)) A U H ∧ va_Z "java/lang/String" "COMPACT_STRINGS" "Z" (.int 1) A U H
/-- what the machine's tables hold of it -/
def ExV (xt : Nat → Nat) (U : State) : Prop :=
  (∀ (i : Nat) (q : Nat × String), x_sr[i]? = some q → vk_R "CutFromOthers$Tape" q.1 q.2 (xt (1010 + i)) U) ∧
  (∀ q ∈ x_nF, va_Nw (.fieldLinkNest q.1 q.2.1 q.2.2.1 q.2.2.2.1 q.2.2.2.2.1 q.2.2.2.2.2) U) ∧
  (∀ q ∈ x_nM, va_Nw (.methodLinkNest q.1 q.2.1 q.2.2.1 q.2.2.2) U) ∧ va_AO "CutFromOthers$Form" U
theorem ExH.kept {xt : Nat → Nat} {A : Nat → Prop} {U : State} {H H1 : Heap} (h : ExH xt A U H) (hq : ∀ a : Nat, a < H.size → ¬ A a → H1[a]? = H[a]?) : ExH xt A U H1 :=
  ⟨⟨h.1.1.kept hq, h.1.2.kept hq⟩, ⟨h.2.1.1.kept hq, h.2.1.2.kept hq⟩, ⟨h.2.2.1.1.kept hq, h.2.2.1.2.kept hq⟩, h.2.2.2.1.kept hq, h.2.2.2.2.kept hq⟩
theorem ExH.narrow {xt : Nat → Nat} {A B : Nat → Prop} {U : State} {H : Heap} (h : ExH xt A U H) (hq : ∀ q, B q → A q) : ExH xt B U H :=
  ⟨⟨h.1.1.narrow hq, h.1.2.narrow hq⟩, ⟨h.2.1.1.narrow hq, h.2.1.2.narrow hq⟩, ⟨h.2.2.1.1.narrow hq, h.2.2.1.2.narrow hq⟩, h.2.2.2.1.narrow hq, h.2.2.2.2.narrow hq⟩
theorem ExH.moved {xt : Nat → Nat} {A : Nat → Prop} {u U : State} {H : Heap} (hvm : u.vm.Alike U.vm) (h : ExH xt A u H) : ExH xt A U H :=
  ⟨⟨h.1.1.moved hvm, h.1.2.moved hvm⟩, ⟨h.2.1.1.moved hvm, h.2.1.2.moved hvm⟩, ⟨h.2.2.1.1.moved hvm, h.2.2.1.2.moved hvm⟩, h.2.2.2.1.moved hvm, h.2.2.2.2.moved hvm⟩
theorem ExV.warm {xt : Nat → Nat} {s U : State} (hW : s.WarmedH U.vm) (h : ExV xt s) : ExV xt U :=
  ⟨fun i q hq => (h.1 i q hq).warm hW, fun q hq => (h.2.1 q hq).warmF hW, fun q hq => (h.2.2.1 q hq).warmM hW, h.2.2.2.moved hW.alike⟩
theorem ExV.same {xt : Nat → Nat} {u U : State} (hv : U.vm = u.vm) (h : ExV xt u) : ExV xt U :=
  ⟨fun i q hq => (h.1 i q hq).same hv, fun q hq => (h.2.1 q hq).same rfl hv.symm, fun q hq => (h.2.2.1 q hq).same rfl hv.symm, by
    have h4 := h.2.2.2
    exact va_AO.moved (by rw [hv]; exact Vm.Alike.refl _) h4⟩
/-- the array classes -/
def x_ty (ty : Nat → ClassId) : List (ClassId × FieldType) := [(ty 0, .int), (ty 1, .long), (ty 2, .object "CutFromOthers$Form")]
/-- where one stands: the machine's words of W, its end, the cells that may change, the classes' numbers, what was there before, how many places, the addresses at the start -/
abbrev cxT : Type := (Program × Launch × Env × Room × State × MethodId × Array Value × List Frame × Method × Code) × (State → Prop) × (Nat → Prop) × va_G × (Nat → ClassId) × (Nat → Nat) × Nat × List Nat
def x_init (X : cxT) : Prop := X.1.2.2.2.2.2.2.2.2.1.name = "<init>"
def x_nl (X : cxT) : Nat := X.2.2.2.2.2.2.1
/-- the machine, at pc with these places, this stack and this memory, comes to its end -/
def WP : cxT → Nat → Nat → Nat → List (Option Value) → List Value → mM → Prop
  | ((p, l, e, R, s, m, args, below, meth, c), Z, A, D, ty, xt, nL, L0), cells, slots, pc, ls, st, M => ∀ (L : List Nat) (H : Heap) (locs : List Loc) (lc : Array Slot), L0 <+: L → PR D ty xt A L M H → va_S A s.heap H locs → LR xt L nL lc ls → W p l e R s m args below meth c H locs cells slots Z (F0 m pc lc (st.map (cv xt L)))
/-- what holds all along a method: depth d of calls is left, C cells and S slots -/
def Good : cxT → String → ByteArray → Nat → Nat → Nat → Prop
  | ((p, _, _, R, s, m, args, _, meth, c), _, A, D, ty, xt, nL, _), own, cc, d, C, S => p.tables.exec = Jvm.exec ∧ c.code = cc ∧ c.maxLocals = nL ∧ s.vm.findClass own = some m.cls ∧ (∀ w ∈ x_tbl, w.before args s = true) ∧ meth.locks = false ∧ va_K D vwCl (x_ty ty) s ∧ (∀ q : Nat, s.heap.size ≤ q → A q) ∧ ExH xt A s s.heap ∧ ExV xt s ∧ d ≤ R.frames ∧ 64 * d ≤ R.locals ∧ C ≤ R.cells ∧ S ≤ R.slots
/-- what a method leaves -/
def QO (D : va_G) (ty : Nat → ClassId) (xt : Nat → Nat) (A : Nat → Prop) (L : List Nat) (Q : Option Value → mM → Prop) : Array Value → State → Outcome → State → Prop := fun _ st oc t =>
  (∃ (r : Option Value) (M' : mM) (L' : List Nat), oc = .returned (r.map (cv xt L')) ∧ Q r M' ∧ L <+: L' ∧ PR D ty xt A L' M' t.heap ∧ va_K D vwCl (x_ty ty) t) ∧ va_F A st t
/-- the end of a method's frame -/
def RQ : cxT → Option FieldType → Nat → Nat → (Option Value → mM → Prop) → Prop
  | ((_, _, _, _, s, _, args, below, meth, _), Z, A, D, ty, xt, _, L0), ret, mc, ms, Q => meth.sig.returnType = ret ∧ Z = MQ below (QO D ty xt A L0 Q) args s mc ms A
/-- a method: its name, its bytes, its places, what it returns -/
abbrev mI : Type := MethodName × ByteArray × Nat × Option FieldType
abbrev x_cw (i : mI) : Cond := Cond.code i.1 i.2.1 i.2.2.1 i.2.2.2
abbrev x_rm (d mc ms : Nat) : Room := { frames := d, cells := mc, slots := ms, locals := 64 * d }
/-- THE CONTRACT: called with these values over this memory, at depth d, it returns, and Q holds of the answer and the memory -/
def CT (d mc ms : Nat) (i : mI) (av : List Value) (M : mM) (Q : Option Value → mM → Prop) : Prop :=
  ∀ (l : Launch) (D : va_G) (ty : Nat → ClassId) (xt : Nat → Nat) (L : List Nat) (sz : Nat), Met l i.1 (x_cw i :: x_tbl) (x_rm d mc ms) (va_Pc (av.map (cv xt L)) (fun U => U.heap.size = sz ∧ PR D ty xt (fun _ => True) L M U.heap ∧ va_K D vwCl (x_ty ty) U ∧ ExH xt (va_A (x_ws ty xt L M) sz) U U.heap ∧ ExV xt U)) (QO D ty xt (va_A (x_ws ty xt L M) sz) L Q) mc ms (va_A (x_ws ty xt L M) sz)
/-- the places at a method's start -/
def x_en : List Value → List (Option Value)
  | [] => []
  | .long v :: r => some (.long v) :: none :: x_en r
  | .double v :: r => some (.double v) :: none :: x_en r
  | v :: r => some v :: x_en r
theorem x_en_args (xt : Nat → Nat) (L : List Nat) : ∀ (av : List Value) (k i : Nat) (v : Value), (x_en av)[i]? = some (some v) → (k + i, cv xt L v) ∈ lv_args k (av.map (cv xt L)) := by
  intro av
  induction av with
  | nil => intro k i v h; simp [x_en] at h
  | cons a r ih =>
    intro k i v h
    have two : a.category = 2 → (x_en (a :: r) = some a :: none :: x_en r) := by
      intro hc
      cases a <;> first | rfl | (simp [Value.category] at hc)
    have one : ¬ a.category = 2 → (x_en (a :: r) = some a :: x_en r) := by
      intro hc
      cases a <;> first | rfl | (simp [Value.category] at hc)
    by_cases hc : a.category = 2
    · rw [two hc] at h
      show _ ∈ (k, cv xt L a) :: lv_args (if (cv xt L a).category = 2 then k + 2 else k + 1) (r.map (cv xt L))
      rw [cv_cat, if_pos hc]
      match i, h with
      | 0, h => simp at h; subst h; exact List.mem_cons_self
      | 1, h => simp at h
      | i + 2, h =>
        have h2 := ih (k + 2) i v (by simpa using h)
        rw [show k + 2 + i = k + (i + 2) by omega] at h2
        exact List.mem_cons_of_mem _ h2
    · rw [one hc] at h
      show _ ∈ (k, cv xt L a) :: lv_args (if (cv xt L a).category = 2 then k + 2 else k + 1) (r.map (cv xt L))
      rw [cv_cat, if_neg hc]
      match i, h with
      | 0, h => simp at h; subst h; exact List.mem_cons_self
      | i + 1, h =>
        have h2 := ih (k + 1) i v (by simpa using h)
        rw [show k + 1 + i = k + (i + 1) by omega] at h2
        exact List.mem_cons_of_mem _ h2
theorem x_en_get {xt : Nat → Nat} {L : List Nat} {av : List Value} {n i : Nat} {v : Value} (h : (x_en av ++ List.replicate n none)[i]? = some (some v)) : (i, cv xt L v) ∈ lv_args 0 (av.map (cv xt L)) := by
  by_cases hi : i < (x_en av).length
  · rw [List.getElem?_append_left hi] at h
    have := x_en_args xt L av 0 i v h
    rwa [Nat.zero_add] at this
  · rw [List.getElem?_append_right (by omega)] at h
    simp [List.getElem?_replicate] at h
theorem PR.weaken {D : va_G} {ty : Nat → ClassId} {xt : Nat → Nat} {A B : Nat → Prop} {L : List Nat} {M : mM} {H : Heap} (h : PR D ty xt A L M H) (hAB : ∀ (k : Nat) (q : Nat × va_E), (x_ws ty xt L M)[k]? = some q → A q.1 → B q.1) : PR D ty xt B L M H :=
  ⟨h.1, h.2.1, h.2.2.1, h.2.2.2.1, h.2.2.2.2.1, fun k q hk => hAB k q hk (h.2.2.2.2.2 k q hk)⟩
/-- A METHOD'S CONTRACT OUT OF ITS WALK -/
theorem CT.of {d mc ms : Nat} {y : MethodName} {cc : ByteArray} {nL : Nat} {ret : Option FieldType} {av : List Value} {M : mM} {Q : Option Value → mM → Prop} (hy : plainName y.cls = true) (hn : (lg_sl av).length ≤ nL)
    (h : ∀ X : cxT, Good X y.cls cc d mc ms → RQ X ret mc ms Q → x_nl X = nL → (y.name = "<init>" → x_init X) → WP X 0 0 0 (x_en av ++ List.replicate (nL - (x_en av).length) none) [] M) : CT d mc ms (y, cc, nL, ret) av M Q := by
  intro l D ty xt L sz
  refine Met.ofW (cc := cc) (maxL := nL) (ret := ret) hy rfl ?_
  intro p e s m args below meth c s₁ B hml hv
  obtain ⟨rfl, hsz, hP, hK, hE, hV⟩ := hv
  subst hsz
  have hts : ∀ w ∈ x_cw (y, cc, nL, ret) :: x_tbl, w.before _ s = true := atoms_spec (ws := x_cw (y, cc, nL, ret) :: x_tbl) B.pre
  have hP2 : PR D ty xt (va_A (x_ws ty xt L M) s.heap.size) L M s.heap := ⟨hP.1, hP.2.1, hP.2.2.1, hP.2.2.2.1, hP.2.2.2.2.self⟩
  have key := h ((p, l, e, x_rm d mc ms, s, m, (av.map (cv xt L)).toArray, below, meth, c), MQ below (QO D ty xt (va_A (x_ws ty xt L M) s.heap.size) L Q) (av.map (cv xt L)).toArray s mc ms (va_A (x_ws ty xt L M) s.heap.size), va_A (x_ws ty xt L M) s.heap.size, D, ty, xt, nL, L)
    ⟨B.exec, B.bytes, hml, findClass_of_methodNamed B.named, fun w hw => hts w (List.mem_cons_of_mem _ hw), B.notSynchronized, hK, fun q hq => Or.inr hq, hE, hV, Nat.le_refl _, Nat.le_refl _, Nat.le_refl _, Nat.le_refl _⟩ ⟨B.returns, rfl⟩ rfl (fun hi => by
      show meth.name = "<init>"
      rw [(name_of_methodNamed B.named B.method).1]
      exact hi)
  have hlen : (lg_sl (av.map (cv xt L))).length ≤ nL := by
    have : ∀ vs : List Value, (lg_sl (vs.map (cv xt L))).length = (lg_sl vs).length := by
      intro vs
      induction vs with
      | nil => rfl
      | cons a r ih => cases a <;> simp_all [lg_sl, cv, Value.category]
    rw [this]
    exact hn
  have hl := lv_entry (av.map (cv xt L)) (n := nL) hlen
  rw [lg_entry_eq]
  refine key L s.heap [] _ (List.prefix_refl L) hP2 va_S.rf ⟨hl.1, hl.2.1, fun i v hi => ?_⟩
  exact hl.2.2 _ (x_en_get hi)
end
section
theorem wp_iconst {X : cxT} {own : String} {cc : ByteArray} {d C S cells slots pc : Nat} {ls : List (Option Value)} {st : List Value} {M : mM} {n : Int} {v : Int32} (hX : Good X own cc d C S) (hd : decode cc pc = .ok (.iconst n, 1)) (hv : Int32.ofInt n = v) (k : WP X cells slots (pc + 1) ls (.int v :: st) M) : WP X cells slots pc ls st M := by
  obtain ⟨⟨p, l, e, R, s, m, args, below, meth, c⟩, Z, A, D, ty, xt, nL, L0⟩ := X
  intro L H locs lc h0 hP hS hl
  exact lv_iconst hX.1 hX.2.1 hd hv (k L H locs lc h0 hP hS hl)
theorem wp_bipush {X : cxT} {own : String} {cc : ByteArray} {d C S cells slots pc : Nat} {ls : List (Option Value)} {st : List Value} {M : mM} {n : Int} {v : Int32} (hX : Good X own cc d C S) (hd : decode cc pc = .ok (.bipush n, 2)) (hv : (Int8.ofInt n).toInt32 = v) (k : WP X cells slots (pc + 2) ls (.int v :: st) M) : WP X cells slots pc ls st M := by
  obtain ⟨⟨p, l, e, R, s, m, args, below, meth, c⟩, Z, A, D, ty, xt, nL, L0⟩ := X
  intro L H locs lc h0 hP hS hl
  exact lv_bipush hX.1 hX.2.1 hd hv (k L H locs lc h0 hP hS hl)
theorem wp_sipush {X : cxT} {own : String} {cc : ByteArray} {d C S cells slots pc : Nat} {ls : List (Option Value)} {st : List Value} {M : mM} {n : Int} {v : Int32} (hX : Good X own cc d C S) (hd : decode cc pc = .ok (.sipush n, 3)) (hv : (Int16.ofInt n).toInt32 = v) (k : WP X cells slots (pc + 3) ls (.int v :: st) M) : WP X cells slots pc ls st M := by
  obtain ⟨⟨p, l, e, R, s, m, args, below, meth, c⟩, Z, A, D, ty, xt, nL, L0⟩ := X
  intro L H locs lc h0 hP hS hl
  exact lv_sipush hX.1 hX.2.1 hd hv (k L H locs lc h0 hP hS hl)
theorem wp_lconst {X : cxT} {own : String} {cc : ByteArray} {d C S cells slots pc : Nat} {ls : List (Option Value)} {st : List Value} {M : mM} {n : Fin 2} {v : Int64} (hX : Good X own cc d C S) (hd : decode cc pc = .ok (.lconst n, 1)) (hv : Int64.ofNat (n : Nat) = v) (k : WP X cells slots (pc + 1) ls (.long v :: st) M) : WP X cells slots pc ls st M := by
  obtain ⟨⟨p, l, e, R, s, m, args, below, meth, c⟩, Z, A, D, ty, xt, nL, L0⟩ := X
  intro L H locs lc h0 hP hS hl
  exact lv_lconst hX.1 hX.2.1 hd hv (k L H locs lc h0 hP hS hl)
theorem wp_ldc {X : cxT} {own : String} {cc : ByteArray} {d C S cells slots pc : Nat} {ls : List (Option Value)} {st : List Value} {M : mM} {index : Nat} {v : Int32} (hX : Good X own cc d C S) (hd : decode cc pc = .ok (.ldc index, 2)) (hw : Cond.constant own index v ∈ x_tbl) (k : WP X cells slots (pc + 2) ls (.int v :: st) M) : WP X cells slots pc ls st M := by
  obtain ⟨⟨p, l, e, R, s, m, args, below, meth, c⟩, Z, A, D, ty, xt, nL, L0⟩ := X
  intro L H locs lc h0 hP hS hl
  exact lv_ldc hX.1 hX.2.1 hX.2.2.2.1 (hX.2.2.2.2.1 _ hw) hd (k L H locs lc h0 hP hS hl)
theorem wp_ldc2 {X : cxT} {own : String} {cc : ByteArray} {d C S cells slots pc : Nat} {ls : List (Option Value)} {st : List Value} {M : mM} {index : Nat} {v : Int64} (hX : Good X own cc d C S) (hd : decode cc pc = .ok (.ldc2_w index, 3)) (hw : Cond.constantLong own index v ∈ x_tbl) (k : WP X cells slots (pc + 3) ls (.long v :: st) M) : WP X cells slots pc ls st M := by
  obtain ⟨⟨p, l, e, R, s, m, args, below, meth, c⟩, Z, A, D, ty, xt, nL, L0⟩ := X
  intro L H locs lc h0 hP hS hl
  exact lv_ldc2 hX.1 hX.2.1 hX.2.2.2.1 (hX.2.2.2.2.1 _ hw) hd (k L H locs lc h0 hP hS hl)
theorem wp_ldcw {X : cxT} {own : String} {cc : ByteArray} {d C S cells slots pc : Nat} {ls : List (Option Value)} {st : List Value} {M : mM} {index : Nat} {v : Int32} (hX : Good X own cc d C S) (hd : decode cc pc = .ok (.ldc_w index, 3)) (hw : Cond.constant own index v ∈ x_tbl) (k : WP X cells slots (pc + 3) ls (.int v :: st) M) : WP X cells slots pc ls st M := by
  obtain ⟨⟨p, l, e, R, s, m, args, below, meth, c⟩, Z, A, D, ty, xt, nL, L0⟩ := X
  intro L H locs lc h0 hP hS hl
  intro T hT X9
  obtain ⟨t, a1, b1⟩ := k L H locs lc h0 hP hS hl T hT X9
  exact ⟨t, va_ldcwI X9 hX.1 hX.2.2.2.1 (hX.2.2.2.2.1 _ hw) (g := F0 m pc lc (st.map (cv xt L))) rfl (by rw [hX.2.1]; exact hd) t a1, b1⟩
theorem wp_iload_n {X : cxT} {own : String} {cc : ByteArray} {d C S cells slots pc : Nat} {ls : List (Option Value)} {st : List Value} {M : mM} {j : Fin 4} {x : Int32} (hX : Good X own cc d C S) (hd : decode cc pc = .ok (.iload_n j, 1)) (hv : ls[(j : Nat)]? = some (some (.int x))) (k : WP X cells slots (pc + 1) ls (.int x :: st) M) : WP X cells slots pc ls st M := by
  obtain ⟨⟨p, l, e, R, s, m, args, below, meth, c⟩, Z, A, D, ty, xt, nL, L0⟩ := X
  intro L H locs lc h0 hP hS hl
  exact lv_iload_n hX.1 hX.2.1 hd rfl (hl.2.2 _ _ hv) (k L H locs lc h0 hP hS hl)
theorem wp_iload {X : cxT} {own : String} {cc : ByteArray} {d C S cells slots pc : Nat} {ls : List (Option Value)} {st : List Value} {M : mM} {i : Nat} {x : Int32} (hX : Good X own cc d C S) (hd : decode cc pc = .ok (.iload i, 2)) (hv : ls[i]? = some (some (.int x))) (k : WP X cells slots (pc + 2) ls (.int x :: st) M) : WP X cells slots pc ls st M := by
  obtain ⟨⟨p, l, e, R, s, m, args, below, meth, c⟩, Z, A, D, ty, xt, nL, L0⟩ := X
  intro L H locs lc h0 hP hS hl
  exact lv_iload hX.1 hX.2.1 hd (hl.2.2 _ _ hv) (k L H locs lc h0 hP hS hl)
theorem wp_lload_n {X : cxT} {own : String} {cc : ByteArray} {d C S cells slots pc : Nat} {ls : List (Option Value)} {st : List Value} {M : mM} {j : Fin 4} {x : Int64} (hX : Good X own cc d C S) (hd : decode cc pc = .ok (.lload_n j, 1)) (hv : ls[(j : Nat)]? = some (some (.long x))) (k : WP X cells slots (pc + 1) ls (.long x :: st) M) : WP X cells slots pc ls st M := by
  obtain ⟨⟨p, l, e, R, s, m, args, below, meth, c⟩, Z, A, D, ty, xt, nL, L0⟩ := X
  intro L H locs lc h0 hP hS hl
  exact lv_lload_n hX.1 hX.2.1 hd rfl (hl.2.2 _ _ hv) (k L H locs lc h0 hP hS hl)
theorem wp_lload {X : cxT} {own : String} {cc : ByteArray} {d C S cells slots pc : Nat} {ls : List (Option Value)} {st : List Value} {M : mM} {i : Nat} {x : Int64} (hX : Good X own cc d C S) (hd : decode cc pc = .ok (.lload i, 2)) (hv : ls[i]? = some (some (.long x))) (k : WP X cells slots (pc + 2) ls (.long x :: st) M) : WP X cells slots pc ls st M := by
  obtain ⟨⟨p, l, e, R, s, m, args, below, meth, c⟩, Z, A, D, ty, xt, nL, L0⟩ := X
  intro L H locs lc h0 hP hS hl
  exact lv_lload hX.1 hX.2.1 hd (hl.2.2 _ _ hv) (k L H locs lc h0 hP hS hl)
theorem wp_aload_n {X : cxT} {own : String} {cc : ByteArray} {d C S cells slots pc : Nat} {ls : List (Option Value)} {st : List Value} {M : mM} {j : Fin 4} {x : Nat} (hX : Good X own cc d C S) (hd : decode cc pc = .ok (.aload_n j, 1)) (hv : ls[(j : Nat)]? = some (some (.ref x))) (k : WP X cells slots (pc + 1) ls (.ref x :: st) M) : WP X cells slots pc ls st M := by
  obtain ⟨⟨p, l, e, R, s, m, args, below, meth, c⟩, Z, A, D, ty, xt, nL, L0⟩ := X
  intro L H locs lc h0 hP hS hl
  exact lv_aload_n hX.1 hX.2.1 hd rfl (hl.2.2 _ _ hv) (k L H locs lc h0 hP hS hl)
theorem wp_aload {X : cxT} {own : String} {cc : ByteArray} {d C S cells slots pc : Nat} {ls : List (Option Value)} {st : List Value} {M : mM} {i : Nat} {x : Nat} (hX : Good X own cc d C S) (hd : decode cc pc = .ok (.aload i, 2)) (hv : ls[i]? = some (some (.ref x))) (k : WP X cells slots (pc + 2) ls (.ref x :: st) M) : WP X cells slots pc ls st M := by
  obtain ⟨⟨p, l, e, R, s, m, args, below, meth, c⟩, Z, A, D, ty, xt, nL, L0⟩ := X
  intro L H locs lc h0 hP hS hl
  exact lv_aload hX.1 hX.2.1 hd (hl.2.2 _ _ hv) (k L H locs lc h0 hP hS hl)
theorem wp_istore_n {X : cxT} {own : String} {cc : ByteArray} {d C S cells slots pc : Nat} {ls : List (Option Value)} {st : List Value} {M : mM} {j : Fin 4} {i : Nat} {x : Int32} (hX : Good X own cc d C S) (hd : decode cc pc = .ok (.istore_n j, 1)) (hi : (j : Nat) = i) (hok : x_ok ls i = true) (hn : x_nl X = ls.length) (hlt : i < ls.length) (k : WP X cells slots (pc + 1) (ls.set i (some (.int x))) st M) : WP X cells slots pc ls (.int x :: st) M := by
  obtain ⟨⟨p, l, e, R, s, m, args, below, meth, c⟩, Z, A, D, ty, xt, nL, L0⟩ := X
  intro L H locs lc h0 hP hS hl
  have hn : nL = ls.length := hn
  exact lv_istore_n hX.1 hX.2.1 hd hi hl.has (by omega) rfl (fun lc' hl' => k L H locs lc' h0 hP hS (LR.st1 (v := .int x) hok hl'))
theorem wp_istore {X : cxT} {own : String} {cc : ByteArray} {d C S cells slots pc : Nat} {ls : List (Option Value)} {st : List Value} {M : mM} {i : Nat} {x : Int32} (hX : Good X own cc d C S) (hd : decode cc pc = .ok (.istore i, 2)) (hok : x_ok ls i = true) (hn : x_nl X = ls.length) (hlt : i < ls.length) (k : WP X cells slots (pc + 2) (ls.set i (some (.int x))) st M) : WP X cells slots pc ls (.int x :: st) M := by
  obtain ⟨⟨p, l, e, R, s, m, args, below, meth, c⟩, Z, A, D, ty, xt, nL, L0⟩ := X
  intro L H locs lc h0 hP hS hl
  have hn : nL = ls.length := hn
  exact lv_istore hX.1 hX.2.1 hd hl.has (by omega) rfl (fun lc' hl' => k L H locs lc' h0 hP hS (LR.st1 (v := .int x) hok hl'))
theorem wp_lstore_n {X : cxT} {own : String} {cc : ByteArray} {d C S cells slots pc : Nat} {ls : List (Option Value)} {st : List Value} {M : mM} {j : Fin 4} {i : Nat} {x : Int64} (hX : Good X own cc d C S) (hd : decode cc pc = .ok (.lstore_n j, 1)) (hi : (j : Nat) = i) (hok : x_ok ls i = true) (hn : x_nl X = ls.length) (hlt : i + 1 < ls.length) (k : WP X cells slots (pc + 1) ((ls.set (i + 1) none).set i (some (.long x))) st M) : WP X cells slots pc ls (.long x :: st) M := by
  obtain ⟨⟨p, l, e, R, s, m, args, below, meth, c⟩, Z, A, D, ty, xt, nL, L0⟩ := X
  intro L H locs lc h0 hP hS hl
  have hn : nL = ls.length := hn
  exact lv_lstore_n hX.1 hX.2.1 hd hi hl.has (by omega) rfl (fun lc' hl' => k L H locs lc' h0 hP hS (LR.st2 (v := .long x) hok hl'))
theorem wp_lstore {X : cxT} {own : String} {cc : ByteArray} {d C S cells slots pc : Nat} {ls : List (Option Value)} {st : List Value} {M : mM} {i : Nat} {x : Int64} (hX : Good X own cc d C S) (hd : decode cc pc = .ok (.lstore i, 2)) (hok : x_ok ls i = true) (hn : x_nl X = ls.length) (hlt : i + 1 < ls.length) (k : WP X cells slots (pc + 2) ((ls.set (i + 1) none).set i (some (.long x))) st M) : WP X cells slots pc ls (.long x :: st) M := by
  obtain ⟨⟨p, l, e, R, s, m, args, below, meth, c⟩, Z, A, D, ty, xt, nL, L0⟩ := X
  intro L H locs lc h0 hP hS hl
  have hn : nL = ls.length := hn
  exact lv_lstore hX.1 hX.2.1 hd hl.has (by omega) rfl (fun lc' hl' => k L H locs lc' h0 hP hS (LR.st2 (v := .long x) hok hl'))
theorem wp_astore_n {X : cxT} {own : String} {cc : ByteArray} {d C S cells slots pc : Nat} {ls : List (Option Value)} {st : List Value} {M : mM} {j : Fin 4} {i : Nat} {x : Nat} (hX : Good X own cc d C S) (hd : decode cc pc = .ok (.astore_n j, 1)) (hi : (j : Nat) = i) (hok : x_ok ls i = true) (hn : x_nl X = ls.length) (hlt : i < ls.length) (k : WP X cells slots (pc + 1) (ls.set i (some (.ref x))) st M) : WP X cells slots pc ls (.ref x :: st) M := by
  obtain ⟨⟨p, l, e, R, s, m, args, below, meth, c⟩, Z, A, D, ty, xt, nL, L0⟩ := X
  intro L H locs lc h0 hP hS hl
  have hn : nL = ls.length := hn
  exact lv_astore_n hX.1 hX.2.1 hd hi hl.has (by omega) rfl (fun lc' hl' => k L H locs lc' h0 hP hS (LR.st1 (v := .ref x) hok hl'))
theorem wp_astore {X : cxT} {own : String} {cc : ByteArray} {d C S cells slots pc : Nat} {ls : List (Option Value)} {st : List Value} {M : mM} {i : Nat} {x : Nat} (hX : Good X own cc d C S) (hd : decode cc pc = .ok (.astore i, 2)) (hok : x_ok ls i = true) (hn : x_nl X = ls.length) (hlt : i < ls.length) (k : WP X cells slots (pc + 2) (ls.set i (some (.ref x))) st M) : WP X cells slots pc ls (.ref x :: st) M := by
  obtain ⟨⟨p, l, e, R, s, m, args, below, meth, c⟩, Z, A, D, ty, xt, nL, L0⟩ := X
  intro L H locs lc h0 hP hS hl
  have hn : nL = ls.length := hn
  exact lv_astore hX.1 hX.2.1 hd hl.has (by omega) rfl (fun lc' hl' => k L H locs lc' h0 hP hS (LR.st1 (v := .ref x) hok hl'))
theorem wp_iinc {X : cxT} {own : String} {cc : ByteArray} {d C S cells slots pc : Nat} {ls : List (Option Value)} {st : List Value} {M : mM} {i : Nat} {n : Int} {x v : Int32} (hX : Good X own cc d C S) (hd : decode cc pc = .ok (.iinc i n, 3)) (hx : ls[i]? = some (some (.int x))) (hv : x + Int32.ofInt n = v) (hok : x_ok ls i = true) (hn : x_nl X = ls.length) (k : WP X cells slots (pc + 3) (ls.set i (some (.int v))) st M) : WP X cells slots pc ls st M := by
  obtain ⟨⟨p, l, e, R, s, m, args, below, meth, c⟩, Z, A, D, ty, xt, nL, L0⟩ := X
  intro L H locs lc h0 hP hS hl
  have hn : nL = ls.length := hn
  have hi := (List.getElem?_eq_some_iff.mp hx).1
  obtain ⟨j, hj⟩ := List.getElem?_of_mem (x_lv_mem.mpr ⟨i, _, hx, rfl⟩ : (i, cv xt L (.int x)) ∈ x_lv xt L ls)
  exact lv_iinc hX.1 hX.2.1 hd hl.has (k := j) hj hv (by omega) rfl (fun lc' hl' => k L H locs lc' h0 hP hS (LR.st1 (v := .int v) hok hl'))
theorem wp_iadd {X : cxT} {own : String} {cc : ByteArray} {d C S cells slots pc : Nat} {ls : List (Option Value)} {st : List Value} {M : mM} {x y : Int32} (hX : Good X own cc d C S) (hd : decode cc pc = .ok (.iadd, 1))  (k : WP X cells slots (pc + 1) ls (.int (x + y) :: st) M) : WP X cells slots pc ls (.int y :: .int x :: st) M := by
  obtain ⟨⟨p, l, e, R, s, m, args, below, meth, c⟩, Z, A, D, ty, xt, nL, L0⟩ := X
  intro L H locs lc h0 hP hS hl
  exact lv_iadd hX.1 hX.2.1 hd (k L H locs lc h0 hP hS hl)
theorem wp_isub {X : cxT} {own : String} {cc : ByteArray} {d C S cells slots pc : Nat} {ls : List (Option Value)} {st : List Value} {M : mM} {x y : Int32} (hX : Good X own cc d C S) (hd : decode cc pc = .ok (.isub, 1))  (k : WP X cells slots (pc + 1) ls (.int (x - y) :: st) M) : WP X cells slots pc ls (.int y :: .int x :: st) M := by
  obtain ⟨⟨p, l, e, R, s, m, args, below, meth, c⟩, Z, A, D, ty, xt, nL, L0⟩ := X
  intro L H locs lc h0 hP hS hl
  exact lv_isub hX.1 hX.2.1 hd (k L H locs lc h0 hP hS hl)
theorem wp_imul {X : cxT} {own : String} {cc : ByteArray} {d C S cells slots pc : Nat} {ls : List (Option Value)} {st : List Value} {M : mM} {x y : Int32} (hX : Good X own cc d C S) (hd : decode cc pc = .ok (.imul, 1))  (k : WP X cells slots (pc + 1) ls (.int (x * y) :: st) M) : WP X cells slots pc ls (.int y :: .int x :: st) M := by
  obtain ⟨⟨p, l, e, R, s, m, args, below, meth, c⟩, Z, A, D, ty, xt, nL, L0⟩ := X
  intro L H locs lc h0 hP hS hl
  exact lv_imul hX.1 hX.2.1 hd (k L H locs lc h0 hP hS hl)
theorem wp_iand {X : cxT} {own : String} {cc : ByteArray} {d C S cells slots pc : Nat} {ls : List (Option Value)} {st : List Value} {M : mM} {x y : Int32} (hX : Good X own cc d C S) (hd : decode cc pc = .ok (.iand, 1))  (k : WP X cells slots (pc + 1) ls (.int (x &&& y) :: st) M) : WP X cells slots pc ls (.int y :: .int x :: st) M := by
  obtain ⟨⟨p, l, e, R, s, m, args, below, meth, c⟩, Z, A, D, ty, xt, nL, L0⟩ := X
  intro L H locs lc h0 hP hS hl
  exact lv_iand hX.1 hX.2.1 hd (k L H locs lc h0 hP hS hl)
theorem wp_ior {X : cxT} {own : String} {cc : ByteArray} {d C S cells slots pc : Nat} {ls : List (Option Value)} {st : List Value} {M : mM} {x y : Int32} (hX : Good X own cc d C S) (hd : decode cc pc = .ok (.ior, 1))  (k : WP X cells slots (pc + 1) ls (.int (x ||| y) :: st) M) : WP X cells slots pc ls (.int y :: .int x :: st) M := by
  obtain ⟨⟨p, l, e, R, s, m, args, below, meth, c⟩, Z, A, D, ty, xt, nL, L0⟩ := X
  intro L H locs lc h0 hP hS hl
  exact lv_ior hX.1 hX.2.1 hd (k L H locs lc h0 hP hS hl)
theorem wp_ixor {X : cxT} {own : String} {cc : ByteArray} {d C S cells slots pc : Nat} {ls : List (Option Value)} {st : List Value} {M : mM} {x y : Int32} (hX : Good X own cc d C S) (hd : decode cc pc = .ok (.ixor, 1))  (k : WP X cells slots (pc + 1) ls (.int (x ^^^ y) :: st) M) : WP X cells slots pc ls (.int y :: .int x :: st) M := by
  obtain ⟨⟨p, l, e, R, s, m, args, below, meth, c⟩, Z, A, D, ty, xt, nL, L0⟩ := X
  intro L H locs lc h0 hP hS hl
  exact lv_ixor hX.1 hX.2.1 hd (k L H locs lc h0 hP hS hl)
theorem wp_ishl {X : cxT} {own : String} {cc : ByteArray} {d C S cells slots pc : Nat} {ls : List (Option Value)} {st : List Value} {M : mM} {x y : Int32} (hX : Good X own cc d C S) (hd : decode cc pc = .ok (.ishl, 1))  (k : WP X cells slots (pc + 1) ls (.int (x <<< (y &&& 31)) :: st) M) : WP X cells slots pc ls (.int y :: .int x :: st) M := by
  obtain ⟨⟨p, l, e, R, s, m, args, below, meth, c⟩, Z, A, D, ty, xt, nL, L0⟩ := X
  intro L H locs lc h0 hP hS hl
  exact lv_ishl hX.1 hX.2.1 hd (k L H locs lc h0 hP hS hl)
theorem wp_ishr {X : cxT} {own : String} {cc : ByteArray} {d C S cells slots pc : Nat} {ls : List (Option Value)} {st : List Value} {M : mM} {x y : Int32} (hX : Good X own cc d C S) (hd : decode cc pc = .ok (.ishr, 1))  (k : WP X cells slots (pc + 1) ls (.int (x >>> (y &&& 31)) :: st) M) : WP X cells slots pc ls (.int y :: .int x :: st) M := by
  obtain ⟨⟨p, l, e, R, s, m, args, below, meth, c⟩, Z, A, D, ty, xt, nL, L0⟩ := X
  intro L H locs lc h0 hP hS hl
  exact lv_ishr hX.1 hX.2.1 hd (k L H locs lc h0 hP hS hl)
theorem wp_iushr {X : cxT} {own : String} {cc : ByteArray} {d C S cells slots pc : Nat} {ls : List (Option Value)} {st : List Value} {M : mM} {x y : Int32} (hX : Good X own cc d C S) (hd : decode cc pc = .ok (.iushr, 1))  (k : WP X cells slots (pc + 1) ls (.int ((x.toUInt32 >>> (y.toUInt32 &&& Int32.toUInt32 31)).toInt32) :: st) M) : WP X cells slots pc ls (.int y :: .int x :: st) M := by
  obtain ⟨⟨p, l, e, R, s, m, args, below, meth, c⟩, Z, A, D, ty, xt, nL, L0⟩ := X
  intro L H locs lc h0 hP hS hl
  exact lv_iushr hX.1 hX.2.1 hd rfl (k L H locs lc h0 hP hS hl)
theorem wp_idiv {X : cxT} {own : String} {cc : ByteArray} {d C S cells slots pc : Nat} {ls : List (Option Value)} {st : List Value} {M : mM} {x y : Int32} (hX : Good X own cc d C S) (hd : decode cc pc = .ok (.idiv, 1)) (hne : ¬ y = 0) (k : WP X cells slots (pc + 1) ls (.int (x / y) :: st) M) : WP X cells slots pc ls (.int y :: .int x :: st) M := by
  obtain ⟨⟨p, l, e, R, s, m, args, below, meth, c⟩, Z, A, D, ty, xt, nL, L0⟩ := X
  intro L H locs lc h0 hP hS hl
  exact lv_idiv hX.1 hX.2.1 hd hne (k L H locs lc h0 hP hS hl)
theorem wp_irem {X : cxT} {own : String} {cc : ByteArray} {d C S cells slots pc : Nat} {ls : List (Option Value)} {st : List Value} {M : mM} {x y : Int32} (hX : Good X own cc d C S) (hd : decode cc pc = .ok (.irem, 1)) (hne : ¬ y = 0) (k : WP X cells slots (pc + 1) ls (.int (x - x / y * y) :: st) M) : WP X cells slots pc ls (.int y :: .int x :: st) M := by
  obtain ⟨⟨p, l, e, R, s, m, args, below, meth, c⟩, Z, A, D, ty, xt, nL, L0⟩ := X
  intro L H locs lc h0 hP hS hl
  exact lv_irem hX.1 hX.2.1 hd hne (k L H locs lc h0 hP hS hl)
theorem wp_ineg {X : cxT} {own : String} {cc : ByteArray} {d C S cells slots pc : Nat} {ls : List (Option Value)} {st : List Value} {M : mM} {x : Int32} (hX : Good X own cc d C S) (hd : decode cc pc = .ok (.ineg, 1))  (k : WP X cells slots (pc + 1) ls (.int (-x) :: st) M) : WP X cells slots pc ls (.int x :: st) M := by
  obtain ⟨⟨p, l, e, R, s, m, args, below, meth, c⟩, Z, A, D, ty, xt, nL, L0⟩ := X
  intro L H locs lc h0 hP hS hl
  exact lv_ineg hX.1 hX.2.1 hd (k L H locs lc h0 hP hS hl)
theorem wp_ladd {X : cxT} {own : String} {cc : ByteArray} {d C S cells slots pc : Nat} {ls : List (Option Value)} {st : List Value} {M : mM} {x y : Int64} (hX : Good X own cc d C S) (hd : decode cc pc = .ok (.ladd, 1))  (k : WP X cells slots (pc + 1) ls (.long (x + y) :: st) M) : WP X cells slots pc ls (.long y :: .long x :: st) M := by
  obtain ⟨⟨p, l, e, R, s, m, args, below, meth, c⟩, Z, A, D, ty, xt, nL, L0⟩ := X
  intro L H locs lc h0 hP hS hl
  exact lv_ladd hX.1 hX.2.1 hd (k L H locs lc h0 hP hS hl)
theorem wp_lsub {X : cxT} {own : String} {cc : ByteArray} {d C S cells slots pc : Nat} {ls : List (Option Value)} {st : List Value} {M : mM} {x y : Int64} (hX : Good X own cc d C S) (hd : decode cc pc = .ok (.lsub, 1))  (k : WP X cells slots (pc + 1) ls (.long (x - y) :: st) M) : WP X cells slots pc ls (.long y :: .long x :: st) M := by
  obtain ⟨⟨p, l, e, R, s, m, args, below, meth, c⟩, Z, A, D, ty, xt, nL, L0⟩ := X
  intro L H locs lc h0 hP hS hl
  exact lv_lsub hX.1 hX.2.1 hd (k L H locs lc h0 hP hS hl)
theorem wp_lmul {X : cxT} {own : String} {cc : ByteArray} {d C S cells slots pc : Nat} {ls : List (Option Value)} {st : List Value} {M : mM} {x y : Int64} (hX : Good X own cc d C S) (hd : decode cc pc = .ok (.lmul, 1))  (k : WP X cells slots (pc + 1) ls (.long (x * y) :: st) M) : WP X cells slots pc ls (.long y :: .long x :: st) M := by
  obtain ⟨⟨p, l, e, R, s, m, args, below, meth, c⟩, Z, A, D, ty, xt, nL, L0⟩ := X
  intro L H locs lc h0 hP hS hl
  exact lv_lmul hX.1 hX.2.1 hd (k L H locs lc h0 hP hS hl)
theorem wp_land {X : cxT} {own : String} {cc : ByteArray} {d C S cells slots pc : Nat} {ls : List (Option Value)} {st : List Value} {M : mM} {x y : Int64} (hX : Good X own cc d C S) (hd : decode cc pc = .ok (.land, 1))  (k : WP X cells slots (pc + 1) ls (.long (x &&& y) :: st) M) : WP X cells slots pc ls (.long y :: .long x :: st) M := by
  obtain ⟨⟨p, l, e, R, s, m, args, below, meth, c⟩, Z, A, D, ty, xt, nL, L0⟩ := X
  intro L H locs lc h0 hP hS hl
  exact lv_land hX.1 hX.2.1 hd (k L H locs lc h0 hP hS hl)
theorem wp_lor {X : cxT} {own : String} {cc : ByteArray} {d C S cells slots pc : Nat} {ls : List (Option Value)} {st : List Value} {M : mM} {x y : Int64} (hX : Good X own cc d C S) (hd : decode cc pc = .ok (.lor, 1))  (k : WP X cells slots (pc + 1) ls (.long (x ||| y) :: st) M) : WP X cells slots pc ls (.long y :: .long x :: st) M := by
  obtain ⟨⟨p, l, e, R, s, m, args, below, meth, c⟩, Z, A, D, ty, xt, nL, L0⟩ := X
  intro L H locs lc h0 hP hS hl
  exact lv_lor hX.1 hX.2.1 hd (k L H locs lc h0 hP hS hl)
theorem wp_lshl {X : cxT} {own : String} {cc : ByteArray} {d C S cells slots pc : Nat} {ls : List (Option Value)} {st : List Value} {M : mM} {x : Int64} {y : Int32} (hX : Good X own cc d C S) (hd : decode cc pc = .ok (.lshl, 1))  (k : WP X cells slots (pc + 1) ls (.long (x <<< (y.toInt64 &&& 63)) :: st) M) : WP X cells slots pc ls (.int y :: .long x :: st) M := by
  obtain ⟨⟨p, l, e, R, s, m, args, below, meth, c⟩, Z, A, D, ty, xt, nL, L0⟩ := X
  intro L H locs lc h0 hP hS hl
  exact lv_lshl hX.1 hX.2.1 hd rfl (k L H locs lc h0 hP hS hl)
theorem wp_lcmp {X : cxT} {own : String} {cc : ByteArray} {d C S cells slots pc : Nat} {ls : List (Option Value)} {st : List Value} {M : mM} {x y : Int64} (hX : Good X own cc d C S) (hd : decode cc pc = .ok (.lcmp, 1))  (k : WP X cells slots (pc + 1) ls (.int (lg_cmp x y) :: st) M) : WP X cells slots pc ls (.long y :: .long x :: st) M := by
  obtain ⟨⟨p, l, e, R, s, m, args, below, meth, c⟩, Z, A, D, ty, xt, nL, L0⟩ := X
  intro L H locs lc h0 hP hS hl
  exact W.lcmp hX.1 hX.2.1 hd (k L H locs lc h0 hP hS hl)
theorem wp_i2l {X : cxT} {own : String} {cc : ByteArray} {d C S cells slots pc : Nat} {ls : List (Option Value)} {st : List Value} {M : mM} {x : Int32} (hX : Good X own cc d C S) (hd : decode cc pc = .ok (.i2l, 1))  (k : WP X cells slots (pc + 1) ls (.long x.toInt64 :: st) M) : WP X cells slots pc ls (.int x :: st) M := by
  obtain ⟨⟨p, l, e, R, s, m, args, below, meth, c⟩, Z, A, D, ty, xt, nL, L0⟩ := X
  intro L H locs lc h0 hP hS hl
  exact lv_i2l hX.1 hX.2.1 hd rfl (k L H locs lc h0 hP hS hl)
theorem wp_l2i {X : cxT} {own : String} {cc : ByteArray} {d C S cells slots pc : Nat} {ls : List (Option Value)} {st : List Value} {M : mM} {x : Int64} (hX : Good X own cc d C S) (hd : decode cc pc = .ok (.l2i, 1))  (k : WP X cells slots (pc + 1) ls (.int x.toInt32 :: st) M) : WP X cells slots pc ls (.long x :: st) M := by
  obtain ⟨⟨p, l, e, R, s, m, args, below, meth, c⟩, Z, A, D, ty, xt, nL, L0⟩ := X
  intro L H locs lc h0 hP hS hl
  exact lv_l2i hX.1 hX.2.1 hd rfl (k L H locs lc h0 hP hS hl)
theorem wp_i2b {X : cxT} {own : String} {cc : ByteArray} {d C S cells slots pc : Nat} {ls : List (Option Value)} {st : List Value} {M : mM} {x : Int32} (hX : Good X own cc d C S) (hd : decode cc pc = .ok (.i2b, 1))  (k : WP X cells slots (pc + 1) ls (.int x.toInt8.toInt32 :: st) M) : WP X cells slots pc ls (.int x :: st) M := by
  obtain ⟨⟨p, l, e, R, s, m, args, below, meth, c⟩, Z, A, D, ty, xt, nL, L0⟩ := X
  intro L H locs lc h0 hP hS hl
  exact lv_i2b hX.1 hX.2.1 hd rfl (k L H locs lc h0 hP hS hl)
theorem wp_i2s {X : cxT} {own : String} {cc : ByteArray} {d C S cells slots pc : Nat} {ls : List (Option Value)} {st : List Value} {M : mM} {x : Int32} (hX : Good X own cc d C S) (hd : decode cc pc = .ok (.i2s, 1))  (k : WP X cells slots (pc + 1) ls (.int x.toInt16.toInt32 :: st) M) : WP X cells slots pc ls (.int x :: st) M := by
  obtain ⟨⟨p, l, e, R, s, m, args, below, meth, c⟩, Z, A, D, ty, xt, nL, L0⟩ := X
  intro L H locs lc h0 hP hS hl
  exact lv_i2s hX.1 hX.2.1 hd rfl (k L H locs lc h0 hP hS hl)
theorem wp_i2c {X : cxT} {own : String} {cc : ByteArray} {d C S cells slots pc : Nat} {ls : List (Option Value)} {st : List Value} {M : mM} {x : Int32} (hX : Good X own cc d C S) (hd : decode cc pc = .ok (.i2c, 1))  (k : WP X cells slots (pc + 1) ls (.int (x.toUInt32 % 65536).toInt32 :: st) M) : WP X cells slots pc ls (.int x :: st) M := by
  obtain ⟨⟨p, l, e, R, s, m, args, below, meth, c⟩, Z, A, D, ty, xt, nL, L0⟩ := X
  intro L H locs lc h0 hP hS hl
  exact lv_i2c hX.1 hX.2.1 hd rfl (k L H locs lc h0 hP hS hl)
theorem wp_dup {X : cxT} {own : String} {cc : ByteArray} {d C S cells slots pc : Nat} {ls : List (Option Value)} {st : List Value} {M : mM} {a : Value} (hX : Good X own cc d C S) (hd : decode cc pc = .ok (.dup, 1)) (h1 : a.category = 1) (k : WP X cells slots (pc + 1) ls (a :: a :: st) M) : WP X cells slots pc ls (a :: st) M := by
  obtain ⟨⟨p, l, e, R, s, m, args, below, meth, c⟩, Z, A, D, ty, xt, nL, L0⟩ := X
  intro L H locs lc h0 hP hS hl
  exact lv_dup hX.1 hX.2.1 hd (by rw [cv_cat]; exact h1) (k L H locs lc h0 hP hS hl)
theorem wp_pop {X : cxT} {own : String} {cc : ByteArray} {d C S cells slots pc : Nat} {ls : List (Option Value)} {st : List Value} {M : mM} {a : Value} (hX : Good X own cc d C S) (hd : decode cc pc = .ok (.pop, 1)) (h1 : a.category = 1) (k : WP X cells slots (pc + 1) ls st M) : WP X cells slots pc ls (a :: st) M := by
  obtain ⟨⟨p, l, e, R, s, m, args, below, meth, c⟩, Z, A, D, ty, xt, nL, L0⟩ := X
  intro L H locs lc h0 hP hS hl
  exact lv_pop hX.1 hX.2.1 hd (by rw [cv_cat]; exact h1) (k L H locs lc h0 hP hS hl)
theorem wp_dup_x1 {X : cxT} {own : String} {cc : ByteArray} {d C S cells slots pc : Nat} {ls : List (Option Value)} {st : List Value} {M : mM} {a b : Value} (hX : Good X own cc d C S) (hd : decode cc pc = .ok (.dup_x1, 1)) (h1 : a.category = 1) (h2 : b.category = 1) (k : WP X cells slots (pc + 1) ls (a :: b :: a :: st) M) : WP X cells slots pc ls (a :: b :: st) M := by
  obtain ⟨⟨p, l, e, R, s, m, args, below, meth, c⟩, Z, A, D, ty, xt, nL, L0⟩ := X
  intro L H locs lc h0 hP hS hl
  exact lv_dup_x1 hX.1 hX.2.1 hd (by rw [cv_cat]; exact h1) (by rw [cv_cat]; exact h2) (k L H locs lc h0 hP hS hl)
theorem wp_dup2 {X : cxT} {own : String} {cc : ByteArray} {d C S cells slots pc : Nat} {ls : List (Option Value)} {st : List Value} {M : mM} {a b : Value} (hX : Good X own cc d C S) (hd : decode cc pc = .ok (.dup2, 1)) (h1 : a.category = 1) (h2 : b.category = 1) (k : WP X cells slots (pc + 1) ls (a :: b :: a :: b :: st) M) : WP X cells slots pc ls (a :: b :: st) M := by
  obtain ⟨⟨p, l, e, R, s, m, args, below, meth, c⟩, Z, A, D, ty, xt, nL, L0⟩ := X
  intro L H locs lc h0 hP hS hl
  exact lv_dup2_11 hX.1 hX.2.1 hd (by rw [cv_cat]; exact h1) (by rw [cv_cat]; exact h2) (k L H locs lc h0 hP hS hl)
-- BRANCHES
theorem wp_icmp_eq {X : cxT} {own : String} {cc : ByteArray} {d C S cells slots pc : Nat} {ls : List (Option Value)} {st : List Value} {M : mM} {x y : Int32} {off : Int} {tgt : Nat} (hX : Good X own cc d C S) (hd : decode cc pc = .ok (.if_icmp .eq off, 3)) (ht : (pc : Int) + off = (tgt : Int)) (kt : x = y → WP X cells slots tgt ls st M) (kf : ¬ x = y → WP X cells slots (pc + 3) ls st M) : WP X cells slots pc ls (.int y :: .int x :: st) M := by
  obtain ⟨⟨p, l, e, R, s, m, args, below, meth, c⟩, Z, A, D, ty, xt, nL, L0⟩ := X
  intro L H locs lc h0 hP hS hl
  exact lv_icmp_eq hX.1 hX.2.1 hd ht (fun h => kt h L H locs lc h0 hP hS hl) (fun h => kf h L H locs lc h0 hP hS hl)
theorem wp_icmp_ne {X : cxT} {own : String} {cc : ByteArray} {d C S cells slots pc : Nat} {ls : List (Option Value)} {st : List Value} {M : mM} {x y : Int32} {off : Int} {tgt : Nat} (hX : Good X own cc d C S) (hd : decode cc pc = .ok (.if_icmp .ne off, 3)) (ht : (pc : Int) + off = (tgt : Int)) (kt : ¬ x = y → WP X cells slots tgt ls st M) (kf : x = y → WP X cells slots (pc + 3) ls st M) : WP X cells slots pc ls (.int y :: .int x :: st) M := by
  obtain ⟨⟨p, l, e, R, s, m, args, below, meth, c⟩, Z, A, D, ty, xt, nL, L0⟩ := X
  intro L H locs lc h0 hP hS hl
  exact lv_icmp_ne hX.1 hX.2.1 hd ht (fun h => kt h L H locs lc h0 hP hS hl) (fun h => kf h L H locs lc h0 hP hS hl)
theorem wp_icmp_lt {X : cxT} {own : String} {cc : ByteArray} {d C S cells slots pc : Nat} {ls : List (Option Value)} {st : List Value} {M : mM} {x y : Int32} {off : Int} {tgt : Nat} (hX : Good X own cc d C S) (hd : decode cc pc = .ok (.if_icmp .lt off, 3)) (ht : (pc : Int) + off = (tgt : Int)) (kt : x < y → WP X cells slots tgt ls st M) (kf : ¬ x < y → WP X cells slots (pc + 3) ls st M) : WP X cells slots pc ls (.int y :: .int x :: st) M := by
  obtain ⟨⟨p, l, e, R, s, m, args, below, meth, c⟩, Z, A, D, ty, xt, nL, L0⟩ := X
  intro L H locs lc h0 hP hS hl
  exact lv_icmp_lt hX.1 hX.2.1 hd ht (fun h => kt h L H locs lc h0 hP hS hl) (fun h => kf h L H locs lc h0 hP hS hl)
theorem wp_icmp_ge {X : cxT} {own : String} {cc : ByteArray} {d C S cells slots pc : Nat} {ls : List (Option Value)} {st : List Value} {M : mM} {x y : Int32} {off : Int} {tgt : Nat} (hX : Good X own cc d C S) (hd : decode cc pc = .ok (.if_icmp .ge off, 3)) (ht : (pc : Int) + off = (tgt : Int)) (kt : y ≤ x → WP X cells slots tgt ls st M) (kf : ¬ y ≤ x → WP X cells slots (pc + 3) ls st M) : WP X cells slots pc ls (.int y :: .int x :: st) M := by
  obtain ⟨⟨p, l, e, R, s, m, args, below, meth, c⟩, Z, A, D, ty, xt, nL, L0⟩ := X
  intro L H locs lc h0 hP hS hl
  exact lv_icmp_ge hX.1 hX.2.1 hd ht (fun h => kt h L H locs lc h0 hP hS hl) (fun h => kf h L H locs lc h0 hP hS hl)
theorem wp_icmp_gt {X : cxT} {own : String} {cc : ByteArray} {d C S cells slots pc : Nat} {ls : List (Option Value)} {st : List Value} {M : mM} {x y : Int32} {off : Int} {tgt : Nat} (hX : Good X own cc d C S) (hd : decode cc pc = .ok (.if_icmp .gt off, 3)) (ht : (pc : Int) + off = (tgt : Int)) (kt : y < x → WP X cells slots tgt ls st M) (kf : ¬ y < x → WP X cells slots (pc + 3) ls st M) : WP X cells slots pc ls (.int y :: .int x :: st) M := by
  obtain ⟨⟨p, l, e, R, s, m, args, below, meth, c⟩, Z, A, D, ty, xt, nL, L0⟩ := X
  intro L H locs lc h0 hP hS hl
  exact lv_icmp_gt hX.1 hX.2.1 hd ht (fun h => kt h L H locs lc h0 hP hS hl) (fun h => kf h L H locs lc h0 hP hS hl)
theorem wp_icmp_le {X : cxT} {own : String} {cc : ByteArray} {d C S cells slots pc : Nat} {ls : List (Option Value)} {st : List Value} {M : mM} {x y : Int32} {off : Int} {tgt : Nat} (hX : Good X own cc d C S) (hd : decode cc pc = .ok (.if_icmp .le off, 3)) (ht : (pc : Int) + off = (tgt : Int)) (kt : x ≤ y → WP X cells slots tgt ls st M) (kf : ¬ x ≤ y → WP X cells slots (pc + 3) ls st M) : WP X cells slots pc ls (.int y :: .int x :: st) M := by
  obtain ⟨⟨p, l, e, R, s, m, args, below, meth, c⟩, Z, A, D, ty, xt, nL, L0⟩ := X
  intro L H locs lc h0 hP hS hl
  exact lv_icmp_le hX.1 hX.2.1 hd ht (fun h => kt h L H locs lc h0 hP hS hl) (fun h => kf h L H locs lc h0 hP hS hl)
theorem wp_if_eq {X : cxT} {own : String} {cc : ByteArray} {d C S cells slots pc : Nat} {ls : List (Option Value)} {st : List Value} {M : mM} {x : Int32} {off : Int} {tgt : Nat} (hX : Good X own cc d C S) (hd : decode cc pc = .ok (.ifCond .eq off, 3)) (ht : (pc : Int) + off = (tgt : Int)) (kt : x = 0 → WP X cells slots tgt ls st M) (kf : ¬ x = 0 → WP X cells slots (pc + 3) ls st M) : WP X cells slots pc ls (.int x :: st) M := by
  obtain ⟨⟨p, l, e, R, s, m, args, below, meth, c⟩, Z, A, D, ty, xt, nL, L0⟩ := X
  intro L H locs lc h0 hP hS hl
  exact lv_if_eq hX.1 hX.2.1 hd ht (fun h => kt h L H locs lc h0 hP hS hl) (fun h => kf h L H locs lc h0 hP hS hl)
theorem wp_if_ne {X : cxT} {own : String} {cc : ByteArray} {d C S cells slots pc : Nat} {ls : List (Option Value)} {st : List Value} {M : mM} {x : Int32} {off : Int} {tgt : Nat} (hX : Good X own cc d C S) (hd : decode cc pc = .ok (.ifCond .ne off, 3)) (ht : (pc : Int) + off = (tgt : Int)) (kt : ¬ x = 0 → WP X cells slots tgt ls st M) (kf : x = 0 → WP X cells slots (pc + 3) ls st M) : WP X cells slots pc ls (.int x :: st) M := by
  obtain ⟨⟨p, l, e, R, s, m, args, below, meth, c⟩, Z, A, D, ty, xt, nL, L0⟩ := X
  intro L H locs lc h0 hP hS hl
  exact lv_if_ne hX.1 hX.2.1 hd ht (fun h => kt h L H locs lc h0 hP hS hl) (fun h => kf h L H locs lc h0 hP hS hl)
theorem wp_if_lt {X : cxT} {own : String} {cc : ByteArray} {d C S cells slots pc : Nat} {ls : List (Option Value)} {st : List Value} {M : mM} {x : Int32} {off : Int} {tgt : Nat} (hX : Good X own cc d C S) (hd : decode cc pc = .ok (.ifCond .lt off, 3)) (ht : (pc : Int) + off = (tgt : Int)) (kt : x < 0 → WP X cells slots tgt ls st M) (kf : ¬ x < 0 → WP X cells slots (pc + 3) ls st M) : WP X cells slots pc ls (.int x :: st) M := by
  obtain ⟨⟨p, l, e, R, s, m, args, below, meth, c⟩, Z, A, D, ty, xt, nL, L0⟩ := X
  intro L H locs lc h0 hP hS hl
  exact lv_if_lt hX.1 hX.2.1 hd ht (fun h => kt h L H locs lc h0 hP hS hl) (fun h => kf h L H locs lc h0 hP hS hl)
theorem wp_if_ge {X : cxT} {own : String} {cc : ByteArray} {d C S cells slots pc : Nat} {ls : List (Option Value)} {st : List Value} {M : mM} {x : Int32} {off : Int} {tgt : Nat} (hX : Good X own cc d C S) (hd : decode cc pc = .ok (.ifCond .ge off, 3)) (ht : (pc : Int) + off = (tgt : Int)) (kt : 0 ≤ x → WP X cells slots tgt ls st M) (kf : ¬ 0 ≤ x → WP X cells slots (pc + 3) ls st M) : WP X cells slots pc ls (.int x :: st) M := by
  obtain ⟨⟨p, l, e, R, s, m, args, below, meth, c⟩, Z, A, D, ty, xt, nL, L0⟩ := X
  intro L H locs lc h0 hP hS hl
  exact lv_if_ge hX.1 hX.2.1 hd ht (fun h => kt h L H locs lc h0 hP hS hl) (fun h => kf h L H locs lc h0 hP hS hl)
theorem wp_if_gt {X : cxT} {own : String} {cc : ByteArray} {d C S cells slots pc : Nat} {ls : List (Option Value)} {st : List Value} {M : mM} {x : Int32} {off : Int} {tgt : Nat} (hX : Good X own cc d C S) (hd : decode cc pc = .ok (.ifCond .gt off, 3)) (ht : (pc : Int) + off = (tgt : Int)) (kt : 0 < x → WP X cells slots tgt ls st M) (kf : ¬ 0 < x → WP X cells slots (pc + 3) ls st M) : WP X cells slots pc ls (.int x :: st) M := by
  obtain ⟨⟨p, l, e, R, s, m, args, below, meth, c⟩, Z, A, D, ty, xt, nL, L0⟩ := X
  intro L H locs lc h0 hP hS hl
  exact lv_if_gt hX.1 hX.2.1 hd ht (fun h => kt h L H locs lc h0 hP hS hl) (fun h => kf h L H locs lc h0 hP hS hl)
theorem wp_if_le {X : cxT} {own : String} {cc : ByteArray} {d C S cells slots pc : Nat} {ls : List (Option Value)} {st : List Value} {M : mM} {x : Int32} {off : Int} {tgt : Nat} (hX : Good X own cc d C S) (hd : decode cc pc = .ok (.ifCond .le off, 3)) (ht : (pc : Int) + off = (tgt : Int)) (kt : x ≤ 0 → WP X cells slots tgt ls st M) (kf : ¬ x ≤ 0 → WP X cells slots (pc + 3) ls st M) : WP X cells slots pc ls (.int x :: st) M := by
  obtain ⟨⟨p, l, e, R, s, m, args, below, meth, c⟩, Z, A, D, ty, xt, nL, L0⟩ := X
  intro L H locs lc h0 hP hS hl
  exact lv_if_le hX.1 hX.2.1 hd ht (fun h => kt h L H locs lc h0 hP hS hl) (fun h => kf h L H locs lc h0 hP hS hl)
theorem wp_goto {X : cxT} {own : String} {cc : ByteArray} {d C S cells slots pc : Nat} {ls : List (Option Value)} {st : List Value} {M : mM} {off : Int} {tgt : Nat} (hX : Good X own cc d C S) (hd : decode cc pc = .ok (.goto off, 3)) (ht : (pc : Int) + off = (tgt : Int)) (k : WP X cells slots tgt ls st M) : WP X cells slots pc ls st M := by
  obtain ⟨⟨p, l, e, R, s, m, args, below, meth, c⟩, Z, A, D, ty, xt, nL, L0⟩ := X
  intro L H locs lc h0 hP hS hl
  exact lv_goto hX.1 hX.2.1 hd ht (k L H locs lc h0 hP hS hl)
theorem wp_lookup {X : cxT} {own : String} {cc : ByteArray} {d C S cells slots pc : Nat} {ls : List (Option Value)} {st : List Value} {M : mM} {dflt : Int} {ps : Array (Int × Int)} {len : Nat} {x : Int32} {off : Int} {tgt : Nat} (hX : Good X own cc d C S) (hd : decode cc pc = .ok (.lookupswitch dflt ps, len)) (hp : (ps.toList.zip (ps.toList.drop 1)).all (fun (a, next) => a.1 < next.1) = true) (ho : Op.lookupswitch.offset ps.toList dflt x.toInt = off) (ht : (pc : Int) + off = (tgt : Int)) (k : WP X cells slots tgt ls st M) : WP X cells slots pc ls (.int x :: st) M := by
  obtain ⟨⟨p, l, e, R, s, m, args, below, meth, c⟩, Z, A, D, ty, xt, nL, L0⟩ := X
  intro L H locs lc h0 hP hS hl
  exact lv_lookup hX.1 hX.2.1 hd hp ho ht (k L H locs lc h0 hP hS hl)
theorem wp_tabOut {X : cxT} {own : String} {cc : ByteArray} {d C S cells slots pc : Nat} {ls : List (Option Value)} {st : List Value} {M : mM} {dflt lo hi : Int} {offs : Array Int} {len : Nat} {x : Int32} {tgt : Nat} (hX : Good X own cc d C S) (hd : decode cc pc = .ok (.tableswitch dflt lo hi offs, len)) (h : x.toInt < lo ∨ hi < x.toInt) (ht : (pc : Int) + dflt = (tgt : Int)) (k : WP X cells slots tgt ls st M) : WP X cells slots pc ls (.int x :: st) M := by
  obtain ⟨⟨p, l, e, R, s, m, args, below, meth, c⟩, Z, A, D, ty, xt, nL, L0⟩ := X
  intro L H locs lc h0 hP hS hl
  exact lv_tableOut hX.1 hX.2.1 hd h ht (k L H locs lc h0 hP hS hl)
theorem wp_tabIn {X : cxT} {own : String} {cc : ByteArray} {d C S cells slots pc : Nat} {ls : List (Option Value)} {st : List Value} {M : mM} {dflt lo hi : Int} {offs : Array Int} {len : Nat} {x : Int32} {off : Int} {tgt : Nat} (hX : Good X own cc d C S) (hd : decode cc pc = .ok (.tableswitch dflt lo hi offs, len)) (h1 : ¬ x.toInt < lo) (h2 : ¬ hi < x.toInt) (ho : offs[(x.toInt - lo).toNat]? = some off) (ht : (pc : Int) + off = (tgt : Int)) (k : WP X cells slots tgt ls st M) : WP X cells slots pc ls (.int x :: st) M := by
  obtain ⟨⟨p, l, e, R, s, m, args, below, meth, c⟩, Z, A, D, ty, xt, nL, L0⟩ := X
  intro L H locs lc h0 hP hS hl
  exact lv_tableIn hX.1 hX.2.1 hd h1 h2 ho ht (k L H locs lc h0 hP hS hl)
theorem wp_ls {X : cxT} {cells slots pc : Nat} {ls ls2 : List (Option Value)} {st : List Value} {M : mM} (h : ∀ (i : Nat) (v : Value), ls2[i]? = some (some v) → ls[i]? = some (some v)) (k : WP X cells slots pc ls2 st M) : WP X cells slots pc ls st M := by
  obtain ⟨⟨p, l, e, R, s, m, args, below, meth, c⟩, Z, A, D, ty, xt, nL, L0⟩ := X
  intro L H locs lc h0 hP hS hl
  exact k L H locs lc h0 hP hS ⟨hl.1, hl.2.1, fun i v hi => hl.2.2 i v (h i v hi)⟩
theorem wp_ireturn {X : cxT} {own : String} {cc : ByteArray} {d C S cells slots pc : Nat} {ls : List (Option Value)} {st : List Value} {M : mM} {mc ms : Nat} {Q : Option Value → mM → Prop} {v : Int32} {t : FieldType} (hX : Good X own cc d C S) (hR : RQ X (some t) mc ms Q) (hd : decode cc pc = .ok (.ireturn, 1)) (hn : narrow t (.int v) = .int v) (hc : cells ≤ mc) (hs : slots ≤ ms) (hq : Q (some (.int v)) M) : WP X cells slots pc ls [.int v] M := by
  obtain ⟨⟨p, l, e, R, s, m, args, below, meth, c⟩, Z, A, D, ty, xt, nL, L0⟩ := X
  intro L H locs lc h0 hP hS hl
  obtain ⟨hr, hZ⟩ := hR
  subst hZ
  refine W.widen (k := mc) (n := ms) hc hs ?_
  exact W.zret hX.1 hX.2.1 hr hn (fun t ht hW => ⟨⟨some (.int v), M, L, rfl, hq, h0, by rw [ht]; exact hP, va_K.moved hW.alike hX.2.2.2.2.2.2.1⟩, hS.F ht⟩) hS.2.2 hd hX.2.2.2.2.2.1
theorem wp_lreturn {X : cxT} {own : String} {cc : ByteArray} {d C S cells slots pc : Nat} {ls : List (Option Value)} {st : List Value} {M : mM} {mc ms : Nat} {Q : Option Value → mM → Prop} {v : Int64} (hX : Good X own cc d C S) (hR : RQ X (some .long) mc ms Q) (hd : decode cc pc = .ok (.lreturn, 1)) (hc : cells ≤ mc) (hs : slots ≤ ms) (hq : Q (some (.long v)) M) : WP X cells slots pc ls [.long v] M := by
  obtain ⟨⟨p, l, e, R, s, m, args, below, meth, c⟩, Z, A, D, ty, xt, nL, L0⟩ := X
  intro L H locs lc h0 hP hS hl
  obtain ⟨hr, hZ⟩ := hR
  subst hZ
  refine W.widen (k := mc) (n := ms) hc hs ?_
  exact W.lret hX.1 hX.2.1 hr (fun t ht hW => ⟨⟨some (.long v), M, L, rfl, hq, h0, by rw [ht]; exact hP, va_K.moved hW.alike hX.2.2.2.2.2.2.1⟩, hS.F ht⟩) hS.2.2 hd hX.2.2.2.2.2.1
theorem wp_areturn {X : cxT} {own : String} {cc : ByteArray} {d C S cells slots pc : Nat} {ls : List (Option Value)} {st : List Value} {M : mM} {mc ms : Nat} {Q : Option Value → mM → Prop} {a : Nat} {t : FieldType} (hX : Good X own cc d C S) (hR : RQ X (some t) mc ms Q) (hd : decode cc pc = .ok (.areturn, 1)) (ht : (∃ n, t = .object n) ∨ ∃ r, t = .array r) (hc : cells ≤ mc) (hs : slots ≤ ms) (hq : Q (some (.ref a)) M) : WP X cells slots pc ls [.ref a] M := by
  obtain ⟨⟨p, l, e, R, s, m, args, below, meth, c⟩, Z, A, D, ty, xt, nL, L0⟩ := X
  intro L H locs lc h0 hP hS hl
  obtain ⟨hr, hZ⟩ := hR
  subst hZ
  refine W.widen (k := mc) (n := ms) hc hs ?_
  exact W.aret hX.1 hX.2.1 hr ht (Or.inr ⟨_, rfl⟩) (fun t ht hW => ⟨⟨some (.ref a), M, L, rfl, hq, h0, by rw [ht]; exact hP, va_K.moved hW.alike hX.2.2.2.2.2.2.1⟩, hS.F ht⟩) hS.2.2 hd hX.2.2.2.2.2.1
theorem wp_return {X : cxT} {own : String} {cc : ByteArray} {d C S cells slots pc : Nat} {ls : List (Option Value)} {st : List Value} {M : mM} {mc ms : Nat} {Q : Option Value → mM → Prop} (hX : Good X own cc d C S) (hR : RQ X none mc ms Q) (hd : decode cc pc = .ok (.return_, 1)) (hc : cells ≤ mc) (hs : slots ≤ ms) (hq : Q none M) : WP X cells slots pc ls [] M := by
  obtain ⟨⟨p, l, e, R, s, m, args, below, meth, c⟩, Z, A, D, ty, xt, nL, L0⟩ := X
  intro L H locs lc h0 hP hS hl
  obtain ⟨hr, hZ⟩ := hR
  subst hZ
  refine W.widen (k := mc) (n := ms) hc hs ?_
  exact W.vret hX.1 hX.2.1 hr (fun t ht hW => ⟨⟨none, M, L, rfl, hq, h0, by rw [ht]; exact hP, va_K.moved hW.alike hX.2.2.2.2.2.2.1⟩, hS.F ht⟩) hS.2.2 hd hX.2.2.2.2.2.1
end
section
/-! FIELDS, ARRAYS, NEW CELLS -/
def x_kt : FieldType → Nat
  | .int => 1
  | .boolean => 2
  | .object _ => 0
  | .array _ => 0
  | _ => 9
/-- what is known of a class of the list -/
def CF (ci : Nat) (C : String) (T : u_T) (N : Nat) (ty : Nat → FieldType) : Prop :=
  vwCl[ci]? = some (C, T, N) ∧ (x_ft.getD ci []).length = N ∧ ci < 12 ∧ (∀ w ∈ u_ws C T N, w ∈ x_tbl) ∧ (∀ k, k < N → parseFieldDescriptor (T k).2.2.1 = some (ty k)) ∧ (∀ a, a < N → ∀ b, b < N → a ≠ b → (T a).2.1 ≠ (T b).2.1) ∧ ∀ k, k < N → x_kt (ty k) = (x_ft.getD ci []).getD k 9
/-- entry idx of the class own: field k of class ci, of sort t -/
def FL (own : String) (idx ci k t : Nat) : Prop := ∃ (C : String) (T : u_T) (N : Nat) (ty : Nat → FieldType), CF ci C T N ty ∧ k < N ∧ (x_ft.getD ci [])[k]? = some t ∧ ((Cond.fieldLink own idx (T k).1 (T k).2.1 (T k).2.2.1 ∈ x_tbl) ∨ ∃ host, (own, idx, (T k).1, (T k).2.1, (T k).2.2.1, host) ∈ x_nF)
/-- the same, to be written: not final, or final and in a constructor of the class -/
def FP (own : String) (idx ci k t : Nat) : Prop := ∃ (C : String) (T : u_T) (N : Nat) (ty : Nat → FieldType), CF ci C T N ty ∧ k < N ∧ (x_ft.getD ci [])[k]? = some t ∧ (Cond.fieldLink own idx (T k).1 (T k).2.1 (T k).2.2.1 ∈ x_tbl) ∧ (T k).2.2.2 = false
def FF (own : String) (idx ci k t : Nat) : Prop := ∃ (C : String) (T : u_T) (N : Nat) (ty : Nat → FieldType), CF ci C T N ty ∧ k < N ∧ (x_ft.getD ci [])[k]? = some t ∧ (Cond.fieldLink own idx (T k).1 (T k).2.1 (T k).2.2.1 ∈ x_tbl) ∧ (T k).2.2.2 = true ∧ (T k).1 = own
theorem x_cl_o {ty : Nat → ClassId} {ad : Nat → Nat} {M : mM} {a ci : Nat} (h : m_k M a = ci) (hc : ci < 12) : x_cl ty ad M a = .inr (ci, x_fs (x_ft.getD ci []) (m_i M a) (fun j => va_rf ((m_r M a j).map ad))) := by
  subst h
  unfold x_cl
  rw [if_neg (by omega), if_neg (by omega), if_neg (by omega)]
theorem x_cl_i {ty : Nat → ClassId} {ad : Nat → Nat} {M : mM} {a : Nat} (h : m_k M a = 12) : x_cl ty ad M a = .inl (ty 0, m_l M a, .inl (m_i M a)) := by
  unfold x_cl
  rw [if_pos h]
theorem x_cl_j {ty : Nat → ClassId} {ad : Nat → Nat} {M : mM} {a : Nat} (h : m_k M a = 13) : x_cl ty ad M a = .inl (ty 1, m_l M a, .inr (.inl (m_j M a))) := by
  unfold x_cl
  rw [if_neg (by omega), if_pos h]
theorem x_cl_r {ty : Nat → ClassId} {ad : Nat → Nat} {M : mM} {a : Nat} (h : m_k M a = 14) : x_cl ty ad M a = .inl (ty 2, m_l M a, .inr (.inr (.inr (.inr (fun j => (m_r M a j).map ad))))) := by
  unfold x_cl
  rw [if_neg (by omega), if_neg (by omega), if_pos h]
theorem x_cl_eq {ty : Nat → ClassId} {ad : Nat → Nat} {M M' : mM} {b : Nat} (h1 : m_k M' b = m_k M b) (h2 : m_l M' b = m_l M b) (h3 : m_i M' b = m_i M b) (h4 : m_j M' b = m_j M b) (h5 : m_r M' b = m_r M b) : x_cl ty ad M' b = x_cl ty ad M b := by
  unfold x_cl
  rw [h1, h2, h3, h4, h5]
/-- a cell written: the picture goes along -/
theorem PR.put {D : va_G} {ty : Nat → ClassId} {xt : Nat → Nat} {A : Nat → Prop} {L : List Nat} {M M' : mM} {H H1 : Heap} {a : Nat} {e : va_E} (h : PR D ty xt A L M H) (ha : a < m_n M) (hn : m_n M' = m_n M) (he : x_cl ty (x_ad xt L) M' a = e) (hr : ∀ b, b ≠ a → x_cl ty (x_ad xt L) M' b = x_cl ty (x_ad xt L) M b) (hw : ∀ b j r, b < m_n M' → m_r M' b j = some r → r < m_n M') (h1 : va_P D vwCl ((x_ws ty xt L M).set a (x_ad xt L a, e)) H1) (h2 : va_D A ((x_ws ty xt L M).set a (x_ad xt L a, e))) : PR D ty xt A L M' H1 := by
  rw [x_ws_set ha hn he hr] at h1 h2
  exact ⟨by rw [hn]; exact h.1, by rw [hn]; exact h.2.1, hw, h1, h2⟩
section HEAP
variable {X : cxT} {own : String} {cc : ByteArray} {d C S cells slots pc : Nat} {ls : List (Option Value)} {st : List Value} {M : mM}
theorem wp_get {idx ci k t a : Nat} (hX : Good X own cc d C S) (hf : FL own idx ci k t) (hd : decode cc pc = .ok (.getfield idx, 3)) (ha : a < m_n M) (hk : m_k M a = ci) {v : Value}
    (hv : ∀ ad : Nat → Nat, (if t = 0 then va_rf ((m_r M a k).map ad) else .int (m_i M a k)) = (match v with
      | .ref r => .ref (ad r)
      | w => w)) (hlt : ∀ r, v = .ref r → r < 1000) (kk : WP X cells slots (pc + 3) ls (v :: st) M) : WP X cells slots pc ls (.ref a :: st) M := by
  obtain ⟨⟨p, l, e, R, s, m, args, below, meth, c⟩, Z, A, D, ty, xt, nL, L0⟩ := X
  intro L H locs lc h0 hP hS hl
  obtain ⟨C0, T, N, ty0, hC, hkN, ht, hlink⟩ := hf
  have hcell := x_ws_at (ty := ty) (xt := xt) (L := L) ha
  rw [x_cl_o hk hC.2.2.1] at hcell
  have hcv : (if t = 0 then va_rf ((m_r M a k).map (x_ad xt L)) else .int (m_i M a k)) = cv xt L v := by
    rw [hv (x_ad xt L)]
    cases v <;> rfl
  have hat := x_fs_at (fi := m_i M a) (fr := fun j => va_rf ((m_r M a j).map (x_ad xt L))) ht
  rw [hcv] at hat
  rcases hlink with hlink | ⟨host, hlink⟩
  · exact va_get hX.1 hX.2.1 hX.2.2.2.2.1 hC.2.2.2.1 hX.2.2.2.1 hX.2.2.2.2.2.2.1 hP.2.2.2.1 a hcell hC.1 k hkN (hX.2.2.2.2.1 _ hlink) (fun _ h9 => h9) hat hd (kk L H locs lc h0 hP hS hl)
  · exact va_getN hX.1 hX.2.1 hX.2.2.2.2.1 hC.2.2.2.1 hX.2.2.2.1 hX.2.2.2.2.2.2.1 hP.2.2.2.1 a hcell hC.1 k hkN ((hX.2.2.2.2.2.2.2.2.2.1.2.1 _ hlink).use rfl) (fun _ h9 => h9) hat hd (kk L H locs lc h0 hP hS hl)
/-- an int field (a boolean) -/
theorem wp_geti {idx ci k t a : Nat} (hX : Good X own cc d C S) (hf : FL own idx ci k t) (hd : decode cc pc = .ok (.getfield idx, 3)) (ht : ¬ t = 0) (ha : a < m_n M) (hk : m_k M a = ci) (kk : WP X cells slots (pc + 3) ls (.int (m_i M a k) :: st) M) : WP X cells slots pc ls (.ref a :: st) M :=
  wp_get hX hf hd ha hk (v := .int (m_i M a k)) (fun ad => by rw [if_neg ht]) (fun r h => by cases h) kk
/-- a field that holds a reference -/
theorem wp_getr {idx ci k a r : Nat} (hX : Good X own cc d C S) (hf : FL own idx ci k 0) (hd : decode cc pc = .ok (.getfield idx, 3)) (ha : a < m_n M) (hk : m_k M a = ci) (hr : m_r M a k = some r) (hlt : r < 1000) (kk : WP X cells slots (pc + 3) ls (.ref r :: st) M) : WP X cells slots pc ls (.ref a :: st) M :=
  wp_get hX hf hd ha hk (v := .ref r) (fun ad => by rw [if_pos rfl, hr]; rfl) (fun r' h => by cases h; exact hlt) kk
theorem x_kt_1 {ty : FieldType} (h : x_kt ty = 1) : ty = .int := by cases ty <;> first | rfl | (simp [x_kt] at h)
theorem x_kt_2 {ty : FieldType} (h : x_kt ty = 2) : ty = .boolean := by cases ty <;> first | rfl | (simp [x_kt] at h)
theorem x_kt_0 {ty : FieldType} (h : x_kt ty = 0) (r : Nat) : narrow ty (.ref r) = .ref r ∧ fits ty (.ref r) = true := by cases ty <;> first | exact ⟨rfl, rfl⟩ | (simp [x_kt] at h)
theorem CF.kt {ci : Nat} {C0 : String} {T : u_T} {N : Nat} {ty : Nat → FieldType} (h : CF ci C0 T N ty) {k t : Nat} (hk : k < N) (ht : (x_ft.getD ci [])[k]? = some t) : x_kt (ty k) = t := by
  rw [h.2.2.2.2.2.2 k hk, List.getD_eq_getElem?_getD, ht]
  rfl
theorem wp_puti {idx ci k a : Nat} {v : Int32} (hX : Good X own cc d C S) (hf : FP own idx ci k 1) (hd : decode cc pc = .ok (.putfield idx, 3)) (ha : a < m_n M) (hk : m_k M a = ci) (kk : WP X cells slots (pc + 3) ls st (m_seti M a k v)) : WP X cells slots pc ls (.int v :: .ref a :: st) M := by
  obtain ⟨⟨p, l, e, R, s, m, args, below, meth, c⟩, Z, A, D, ty, xt, nL, L0⟩ := X
  intro L H locs lc h0 hP hS hl
  obtain ⟨C0, T, N, ty0, hC, hkN, ht, hlink, hfin⟩ := hf
  have hcell := x_ws_at (ty := ty) (xt := xt) (L := L) ha
  rw [x_cl_o hk hC.2.2.1] at hcell
  have hty := x_kt_1 (hC.kt hkN ht)
  have hd1 := hC.2.2.2.2.1 k hkN
  rw [hty] at hd1
  refine va_put hX.1 hX.2.1 hX.2.2.2.2.1 hC.2.2.2.1 ty0 hC.2.2.2.2.1 hC.2.2.2.2.2.1 hX.2.2.2.1 hX.2.2.2.2.2.2.1 hP.2.2.2.1 hP.2.2.2.2 hS a hcell hC.1 k hkN (hX.2.2.2.2.1 _ hlink) (fun _ h9 => h9) hfin (ty := .int) (v := .int v) hd1 rfl rfl (by rw [x_fs_len, hC.2.1]; exact hkN) hd (fun H1 locs1 h1 h2 h3 => ?_)
  refine kk L H1 locs1 lc h0 (hP.put (M' := m_seti M a k v) ha rfl ?_ (fun b hb => x_cl_eq rfl rfl (u2_ne _ _ _ hb) rfl rfl) hP.2.2.1 h1 h2) h3 hl
  rw [x_cl_o (show m_k (m_seti M a k v) a = ci from hk) hC.2.2.1, x_fs_seti ht (by decide)]
  show Sum.inr (ci, x_fs _ (u2 (m_i M) a k v a) _) = _
  rw [u2_row]
theorem wp_putz {idx ci k a : Nat} {v : Int32} (hX : Good X own cc d C S) (hf : FP own idx ci k 2) (hd : decode cc pc = .ok (.putfield idx, 3)) (hv : narrow .boolean (.int v) = .int v ∧ fits .boolean (.int v) = true) (ha : a < m_n M) (hk : m_k M a = ci) (kk : WP X cells slots (pc + 3) ls st (m_seti M a k v)) : WP X cells slots pc ls (.int v :: .ref a :: st) M := by
  obtain ⟨⟨p, l, e, R, s, m, args, below, meth, c⟩, Z, A, D, ty, xt, nL, L0⟩ := X
  intro L H locs lc h0 hP hS hl
  obtain ⟨C0, T, N, ty0, hC, hkN, ht, hlink, hfin⟩ := hf
  have hcell := x_ws_at (ty := ty) (xt := xt) (L := L) ha
  rw [x_cl_o hk hC.2.2.1] at hcell
  have hty := x_kt_2 (hC.kt hkN ht)
  have hd1 := hC.2.2.2.2.1 k hkN
  rw [hty] at hd1
  refine va_put hX.1 hX.2.1 hX.2.2.2.2.1 hC.2.2.2.1 ty0 hC.2.2.2.2.1 hC.2.2.2.2.2.1 hX.2.2.2.1 hX.2.2.2.2.2.2.1 hP.2.2.2.1 hP.2.2.2.2 hS a hcell hC.1 k hkN (hX.2.2.2.2.1 _ hlink) (fun _ h9 => h9) hfin (ty := .boolean) (v := .int v) hd1 hv.1 hv.2 (by rw [x_fs_len, hC.2.1]; exact hkN) hd (fun H1 locs1 h1 h2 h3 => ?_)
  refine kk L H1 locs1 lc h0 (hP.put (M' := m_seti M a k v) ha rfl ?_ (fun b hb => x_cl_eq rfl rfl (u2_ne _ _ _ hb) rfl rfl) hP.2.2.1 h1 h2) h3 hl
  rw [x_cl_o (show m_k (m_seti M a k v) a = ci from hk) hC.2.2.1, x_fs_seti ht (by decide)]
  show Sum.inr (ci, x_fs _ (u2 (m_i M) a k v a) _) = _
  rw [u2_row]
theorem x_wf_setr {M : mM} {a k r : Nat} (h : ∀ b j q, b < m_n M → m_r M b j = some q → q < m_n M) (hr : r < m_n M) : ∀ b j q, b < m_n (m_setr M a k (some r)) → m_r (m_setr M a k (some r)) b j = some q → q < m_n (m_setr M a k (some r)) := by
  intro b j q hb hq
  have hq : u2 (m_r M) a k (some r) b j = some q := hq
  show q < m_n M
  unfold u2 at hq
  split at hq
  · split at hq
    · cases hq; exact hr
    · exact h b j q hb hq
  · exact h b j q hb hq
theorem x_fs_setr2 {ts : List Nat} {fi : Nat → Int32} {f : Nat → Nat → Option Nat} {ad : Nat → Nat} {a k r : Nat} (ht : ts[k]? = some 0) : (x_fs ts fi (fun j => va_rf ((f a j).map ad))).set k (Value.ref (ad r)) = x_fs ts fi (fun j => va_rf ((u2 f a k (some r) a j).map ad)) := by
  have e3 : Value.ref (ad r) = (fun j => va_rf ((u2 f a k (some r) a j).map ad)) k := by
    simp [u2, va_rf]
  rw [e3]
  exact x_fs_setr (fr := fun j => va_rf ((f a j).map ad)) (fr2 := fun j => va_rf ((u2 f a k (some r) a j).map ad)) ht (fun j hj => by simp [u2, hj])
theorem wp_putr {idx ci k a r : Nat} (hX : Good X own cc d C S) (hf : FP own idx ci k 0) (hd : decode cc pc = .ok (.putfield idx, 3)) (ha : a < m_n M) (hk : m_k M a = ci) (hr : r < m_n M) (kk : WP X cells slots (pc + 3) ls st (m_setr M a k (some r))) : WP X cells slots pc ls (.ref r :: .ref a :: st) M := by
  obtain ⟨⟨p, l, e, R, s, m, args, below, meth, c⟩, Z, A, D, ty, xt, nL, L0⟩ := X
  intro L H locs lc h0 hP hS hl
  obtain ⟨C0, T, N, ty0, hC, hkN, ht, hlink, hfin⟩ := hf
  have hcell := x_ws_at (ty := ty) (xt := xt) (L := L) ha
  rw [x_cl_o hk hC.2.2.1] at hcell
  have hty := x_kt_0 (hC.kt hkN ht) (x_ad xt L r)
  refine va_put hX.1 hX.2.1 hX.2.2.2.2.1 hC.2.2.2.1 ty0 hC.2.2.2.2.1 hC.2.2.2.2.2.1 hX.2.2.2.1 hX.2.2.2.2.2.2.1 hP.2.2.2.1 hP.2.2.2.2 hS a hcell hC.1 k hkN (hX.2.2.2.2.1 _ hlink) (fun _ h9 => h9) hfin (v := .ref (x_ad xt L r)) (hC.2.2.2.2.1 k hkN) hty.1 hty.2 (by rw [x_fs_len, hC.2.1]; exact hkN) hd (fun H1 locs1 h1 h2 h3 => ?_)
  refine kk L H1 locs1 lc h0 (hP.put (M' := m_setr M a k (some r)) ha rfl ?_ (fun b hb => x_cl_eq rfl rfl rfl rfl (u2_ne _ _ _ hb)) (x_wf_setr hP.2.2.1 hr) h1 h2) h3 hl
  rw [x_cl_o (show m_k (m_setr M a k (some r)) a = ci from hk) hC.2.2.1]
  exact congrArg (fun z => Sum.inr (ci, z)) (x_fs_setr2 ht).symm
theorem wp_putF {idx ci k a r : Nat} (hX : Good X own cc d C S) (hin : x_init X) (hf : FF own idx ci k 0) (hd : decode cc pc = .ok (.putfield idx, 3)) (ha : a < m_n M) (hk : m_k M a = ci) (hr : r < m_n M) (kk : WP X cells slots (pc + 3) ls st (m_setr M a k (some r))) : WP X cells slots pc ls (.ref r :: .ref a :: st) M := by
  obtain ⟨⟨p, l, e, R, s, m, args, below, meth, c⟩, Z, A, D, ty, xt, nL, L0⟩ := X
  intro L H locs lc h0 hP hS hl
  obtain ⟨C0, T, N, ty0, hC, hkN, ht, hlink, hfin, hown2⟩ := hf
  have hcell := x_ws_at (ty := ty) (xt := xt) (L := L) ha
  rw [x_cl_o hk hC.2.2.1] at hcell
  have hty := x_kt_0 (hC.kt hkN ht) (x_ad xt L r)
  refine va_putF hX.1 hX.2.1 hX.2.2.2.2.1 hC.2.2.2.1 ty0 hC.2.2.2.2.1 hC.2.2.2.2.2.1 hX.2.2.2.1 hX.2.2.2.2.2.2.1 hP.2.2.2.1 hP.2.2.2.2 hS a hcell hC.1 k hkN (hX.2.2.2.2.1 _ hlink) (fun _ h9 => h9) hfin hin hown2 (v := .ref (x_ad xt L r)) (hC.2.2.2.2.1 k hkN) hty.1 hty.2 (by rw [x_fs_len, hC.2.1]; exact hkN) hd (fun H1 locs1 h1 h2 h3 => ?_)
  refine kk L H1 locs1 lc h0 (hP.put (M' := m_setr M a k (some r)) ha rfl ?_ (fun b hb => x_cl_eq rfl rfl rfl rfl (u2_ne _ _ _ hb)) (x_wf_setr hP.2.2.1 hr) h1 h2) h3 hl
  rw [x_cl_o (show m_k (m_setr M a k (some r)) a = ci from hk) hC.2.2.1]
  exact congrArg (fun z => Sum.inr (ci, z)) (x_fs_setr2 ht).symm
/-- arrays of ints -/
theorem wp_iald {a : Nat} {i : Int32} (hX : Good X own cc d C S) (hd : decode cc pc = .ok (.iaload, 1)) (ha : a < m_n M) (hk : m_k M a = 12) (hi : vp_in i (m_l M a)) (kk : WP X cells slots (pc + 1) ls (.int (m_i M a i.toNatClampNeg) :: st) M) : WP X cells slots pc ls (.int i :: .ref a :: st) M := by
  obtain ⟨⟨p, l, e, R, s, m, args, below, meth, c⟩, Z, A, D, ty, xt, nL, L0⟩ := X
  intro L H locs lc h0 hP hS hl
  have hcell := x_ws_at (ty := ty) (xt := xt) (L := L) ha
  rw [x_cl_i hk] at hcell
  exact va_iald hX.1 hX.2.1 hX.2.2.2.2.2.2.1 hP.2.2.2.1 a 0 hcell rfl hi hd (kk L H locs lc h0 hP hS hl)
theorem wp_iast {a : Nat} {i v : Int32} (hX : Good X own cc d C S) (hd : decode cc pc = .ok (.iastore, 1)) (ha : a < m_n M) (hk : m_k M a = 12) (hi : vp_in i (m_l M a)) (kk : WP X cells slots (pc + 1) ls st (m_seti M a i.toNatClampNeg v)) : WP X cells slots pc ls (.int v :: .int i :: .ref a :: st) M := by
  obtain ⟨⟨p, l, e, R, s, m, args, below, meth, c⟩, Z, A, D, ty, xt, nL, L0⟩ := X
  intro L H locs lc h0 hP hS hl
  have hcell := x_ws_at (ty := ty) (xt := xt) (L := L) ha
  rw [x_cl_i hk] at hcell
  refine va_iast hX.1 hX.2.1 hX.2.2.2.2.2.2.1 hP.2.2.2.1 hP.2.2.2.2 hS a 0 hcell rfl hi hd (fun H1 locs1 h1 h2 h3 => ?_)
  refine kk L H1 locs1 lc h0 (hP.put (M' := m_seti M a i.toNatClampNeg v) ha rfl ?_ (fun b hb => x_cl_eq rfl rfl (u2_ne _ _ _ hb) rfl rfl) hP.2.2.1 h1 h2) h3 hl
  rw [x_cl_i (show m_k (m_seti M a i.toNatClampNeg v) a = 12 from hk)]
  show Sum.inl (ty 0, m_l M a, Sum.inl (u2 (m_i M) a i.toNatClampNeg v a)) = _
  rw [u2_row]
  rfl
/-- arrays of longs -/
theorem wp_lald {a : Nat} {i : Int32} (hX : Good X own cc d C S) (hd : decode cc pc = .ok (.laload, 1)) (ha : a < m_n M) (hk : m_k M a = 13) (hi : vp_in i (m_l M a)) (kk : WP X cells slots (pc + 1) ls (.long (m_j M a i.toNatClampNeg) :: st) M) : WP X cells slots pc ls (.int i :: .ref a :: st) M := by
  obtain ⟨⟨p, l, e, R, s, m, args, below, meth, c⟩, Z, A, D, ty, xt, nL, L0⟩ := X
  intro L H locs lc h0 hP hS hl
  have hcell := x_ws_at (ty := ty) (xt := xt) (L := L) ha
  rw [x_cl_j hk] at hcell
  exact va_lald hX.1 hX.2.1 hX.2.2.2.2.2.2.1 hP.2.2.2.1 a 1 hcell rfl hi hd (kk L H locs lc h0 hP hS hl)
theorem wp_last {a : Nat} {i : Int32} {v : Int64} (hX : Good X own cc d C S) (hd : decode cc pc = .ok (.lastore, 1)) (ha : a < m_n M) (hk : m_k M a = 13) (hi : vp_in i (m_l M a)) (kk : WP X cells slots (pc + 1) ls st (m_setj M a i.toNatClampNeg v)) : WP X cells slots pc ls (.long v :: .int i :: .ref a :: st) M := by
  obtain ⟨⟨p, l, e, R, s, m, args, below, meth, c⟩, Z, A, D, ty, xt, nL, L0⟩ := X
  intro L H locs lc h0 hP hS hl
  have hcell := x_ws_at (ty := ty) (xt := xt) (L := L) ha
  rw [x_cl_j hk] at hcell
  refine va_last hX.1 hX.2.1 hX.2.2.2.2.2.2.1 hP.2.2.2.1 hP.2.2.2.2 hS a 1 hcell rfl hi hd (fun H1 locs1 h1 h2 h3 => ?_)
  refine kk L H1 locs1 lc h0 (hP.put (M' := m_setj M a i.toNatClampNeg v) ha rfl ?_ (fun b hb => x_cl_eq rfl rfl rfl (u2_ne _ _ _ hb) rfl) hP.2.2.1 h1 h2) h3 hl
  rw [x_cl_j (show m_k (m_setj M a i.toNatClampNeg v) a = 13 from hk)]
  show Sum.inl (ty 1, m_l M a, Sum.inr (Sum.inl (u2 (m_j M) a i.toNatClampNeg v a))) = _
  rw [u2_row]
  rfl
/-- arrays of Forms -/
theorem wp_aald {a r : Nat} {i : Int32} (hX : Good X own cc d C S) (hd : decode cc pc = .ok (.aaload, 1)) (ha : a < m_n M) (hk : m_k M a = 14) (hi : vp_in i (m_l M a)) (hr : m_r M a i.toNatClampNeg = some r) (kk : WP X cells slots (pc + 1) ls (.ref r :: st) M) : WP X cells slots pc ls (.int i :: .ref a :: st) M := by
  obtain ⟨⟨p, l, e, R, s, m, args, below, meth, c⟩, Z, A, D, ty, xt, nL, L0⟩ := X
  intro L H locs lc h0 hP hS hl
  have hcell := x_ws_at (ty := ty) (xt := xt) (L := L) ha
  rw [x_cl_r hk] at hcell
  refine va_aldq hX.1 hX.2.1 hX.2.2.2.2.2.2.1 hP.2.2.2.1 a 2 (C := "CutFromOthers$Form") hcell rfl hi hd ?_
  have e1 : va_rf ((m_r M a i.toNatClampNeg).map (x_ad xt L)) = cv xt L (.ref r) := by rw [hr]; rfl
  rw [e1]
  exact kk L H locs lc h0 hP hS hl
theorem wp_aast {a r : Nat} {i : Int32} (hX : Good X own cc d C S) (hd : decode cc pc = .ok (.aastore, 1)) (ha : a < m_n M) (hk : m_k M a = 14) (hi : vp_in i (m_l M a)) (hr : r < m_n M) (hkr : m_k M r = 1) (kk : WP X cells slots (pc + 1) ls st (m_setr M a i.toNatClampNeg (some r))) : WP X cells slots pc ls (.ref r :: .int i :: .ref a :: st) M := by
  obtain ⟨⟨p, l, e, R, s, m, args, below, meth, c⟩, Z, A, D, ty, xt, nL, L0⟩ := X
  intro L H locs lc h0 hP hS hl
  have hcell := x_ws_at (ty := ty) (xt := xt) (L := L) ha
  rw [x_cl_r hk] at hcell
  have hcv := x_ws_at (ty := ty) (xt := xt) (L := L) hr
  rw [x_cl_o hkr (by decide)] at hcv
  refine va_astq hX.1 hX.2.1 hX.2.2.2.2.2.2.1 hP.2.2.2.1 hP.2.2.2.2 hS a 2 r 1 (r := (RX1, TX1, 6)) hcell rfl hcv rfl hi hd (fun H1 locs1 h1 h2 h3 => ?_)
  refine kk L H1 locs1 lc h0 (hP.put (M' := m_setr M a i.toNatClampNeg (some r)) ha rfl ?_ (fun b hb => x_cl_eq rfl rfl rfl rfl (u2_ne _ _ _ hb)) (x_wf_setr hP.2.2.1 hr) h1 h2) h3 hl
  rw [x_cl_r (show m_k (m_setr M a i.toNatClampNeg (some r)) a = 14 from hk)]
  show Sum.inl (ty 2, m_l M a, Sum.inr (Sum.inr (Sum.inr (Sum.inr (fun j => (u2 (m_r M) a i.toNatClampNeg (some r) a j).map (x_ad xt L)))))) = _
  congr 7
  funext j
  rw [u2_row]
  unfold va_up
  by_cases hj : j = i.toNatClampNeg
  · simp [hj]
  · simp [hj]
end HEAP
end
section
/-! CALLS -/
/-- a method of the tables: n parameters -/
def MF (i : mI) (n : Nat) : Prop := x_cw i ∈ x_tbl ∧ Cond.initialized i.1.cls ∈ x_tbl ∧ (i.1.cls ≠ "java/lang/invoke/MethodHandle" ∧ i.1.cls ≠ "java/lang/invoke/VarHandle" ∧ (parseMethodDescriptor i.1.desc).map (fun d => d.parameters.length) = some n) ∧ i.2.2.1 ≤ 40
/-- the link: the class's own entry, or a nest mate's -/
def ML (own : String) (idx : Nat) (i : mI) : Prop := Cond.methodLink own idx i.1 ∈ x_tbl ∨ ∃ host, (own, idx, i.1, host) ∈ x_nM
theorem x_gd {i : mI} (h : x_cw i ∈ x_tbl) : GoodIn x_tbl (x_cw i :: x_tbl) := x_goodIn (fun w hw => (List.mem_cons.mp hw).elim (fun e => e ▸ h) id)
theorem x_A_sub {ty : Nat → ClassId} {xt : Nat → Nat} {A : Nat → Prop} {L : List Nat} {M : mM} {H0 H : Heap} {locs : List Loc} (hD : va_D A (x_ws ty xt L M)) (hS : va_S A H0 H locs) (hA : ∀ q : Nat, H0.size ≤ q → A q) : ∀ q, va_A (x_ws ty xt L M) H.size q → A q := by
  intro q hq
  rcases hq with ⟨k, e, hk⟩ | hq
  · exact hD.2 k (q, e) hk
  · exact hA q (Nat.le_trans hS.1 hq)
/-- the start of a callee's contract, out of the caller's world -/
theorem x_pre {X : cxT} {own : String} {cc : ByteArray} {d C S : Nat} {p : Program} {l : Launch} {e : Env} {R : Room} {s : State} {m : MethodId} {args : Array Value} {below : List Frame} {meth : Method} {c : Code} {Z : State → Prop} {A : Nat → Prop} {D : va_G} {ty : Nat → ClassId} {xt : Nat → Nat} {nL : Nat} {L0 : List Nat} (hX : Good ((p, l, e, R, s, m, args, below, meth, c), Z, A, D, ty, xt, nL, L0) own cc d C S) {L : List Nat} {M : mM} {H : Heap} {locs : List Loc} (hP : PR D ty xt A L M H) (hS : va_S A s.heap H locs) (av : List Value) :
    PreS s H (va_Pc (av.map (cv xt L)) (fun U => U.heap.size = H.size ∧ PR D ty xt (fun _ => True) L M U.heap ∧ va_K D vwCl (x_ty ty) U ∧ ExH xt (va_A (x_ws ty xt L M) H.size) U U.heap ∧ ExV xt U)) (av.map (cv xt L)) := by
  refine ⟨fun a U g mk q => ?_, fun U hU hW => ?_⟩
  · obtain ⟨q0, q1, q2, q3, q4, q5⟩ := q
    exact ⟨q0, q1, q2, va_K.moved (u := U) (U := U.calling g mk a) (Vm.Alike.refl U.vm) q3, ExH.moved (u := U) (U := U.calling g mk a) (Vm.Alike.refl U.vm) q4, ExV.same (u := U) (U := U.calling g mk a) rfl q5⟩
  · refine ⟨rfl, by rw [hU], by rw [hU]; exact hP.weaken (fun _ _ _ _ => trivial), va_K.moved hW.alike hX.2.2.2.2.2.2.1, ?_, ExV.warm hW hX.2.2.2.2.2.2.2.2.2.1⟩
    rw [hU]
    exact ExH.moved hW.alike ((hX.2.2.2.2.2.2.2.2.1.kept hS.2.1).narrow (x_A_sub hP.2.2.2.2 hS hX.2.2.2.2.2.2.2.1))
/-- the cells of the world behind a call, as the caller names them -/
theorem x_behind {D : va_G} {ty : Nat → ClassId} {xt : Nat → Nat} {A : Nat → Prop} {L L' : List Nat} {M M' : mM} {H H0 H1 : Heap} {locs : List Loc} (hP : PR D ty xt A L M H) (hS : va_S A H0 H locs) (hA : ∀ q : Nat, H0.size ≤ q → A q) (h : PR D ty xt (va_A (x_ws ty xt L M) H.size) L' M' H1) : PR D ty xt A L' M' H1 :=
  h.weaken (fun _ _ _ hq => x_A_sub hP.2.2.2.2 hS hA _ hq)
/-- values that stay the same when cells come -/
def x_old (n : Nat) (v : Value) : Prop := ∀ r, v = .ref r → r < n ∨ 1000 ≤ r
theorem x_pre_get {L L' : List Nat} (h : L <+: L') {k : Nat} (hk : k < L.length) : L'.getD k 0 = L.getD k 0 := by
  obtain ⟨t, rfl⟩ := h
  simp [List.getD_eq_getElem?_getD, List.getElem?_append_left hk]
theorem cv_old {xt : Nat → Nat} {L L' : List Nat} (h : L <+: L') {v : Value} (hv : x_old L.length v) : cv xt L' v = cv xt L v := by
  cases v with
  | ref r =>
    show Value.ref (x_ad xt L' r) = Value.ref (x_ad xt L r)
    unfold x_ad
    rcases hv r rfl with h1 | h1
    · by_cases h2 : r < 1000
      · rw [if_pos h2, if_pos h2, x_pre_get h h1]
      · rw [if_neg h2, if_neg h2]
    · have h3 : ¬ r < 1000 := Nat.not_lt.mpr h1
      rw [if_neg h3, if_neg h3]
  | _ => rfl
section CALLS
variable {X : cxT} {own : String} {cc : ByteArray} {d C S cells slots pc : Nat} {ls : List (Option Value)} {st : List Value} {M : mM}
/-- what goes on behind a call: 'hold' if no cell came, or if all that is held is old -/
theorem x_go {p : Program} {l : Launch} {e : Env} {R : Room} {s : State} {m : MethodId} {args : Array Value} {below : List Frame} {meth : Method} {c : Code} {Z : State → Prop} {A : Nat → Prop} {D : va_G} {ty : Nat → ClassId} {xt : Nat → Nat} {nL : Nat} {L0 : List Nat} (hX : Good ((p, l, e, R, s, m, args, below, meth, c), Z, A, D, ty, xt, nL, L0) own cc d C S) {L : List Nat} {H : Heap} {locs : List Loc} {lc : Array Slot} {Q : Option Value → mM → Prop} {mc ms : Nat} {a0 : Array Value} {st0 : List Value} (h0 : L0 <+: L) (hP : PR D ty xt A L M H) (hS : va_S A s.heap H locs) (hl : LR xt L nL lc ls)
    (hr : va_Run p l e R s m args below meth c H locs cells slots mc ms (F0 m pc lc st0) (st.map (cv xt L)) (QO D ty xt (va_A (x_ws ty xt L M) H.size) L Q a0) (va_A (x_ws ty xt L M) H.size))
    (hold : ∀ M' : mM, (∃ r, Q r M') → (m_n M' = m_n M ∨ ((∀ v ∈ st, x_old (m_n M) v) ∧ ∀ (i : Nat) (v : Value), ls[i]? = some (some v) → x_old (m_n M) v)))
    (kk : ∀ r M', Q r M' → WP ((p, l, e, R, s, m, args, below, meth, c), Z, A, D, ty, xt, nL, L0) (cells + mc) (slots + ms) (pc + 3) ls (r.toList ++ st) M') : W p l e R s m args below meth c H locs cells slots Z (F0 m pc lc st0) := by
  intro T hT X9
  obtain ⟨v, st₀, t, T', Lc, g0, X', hL, e1, e2, ⟨⟨r, M', L', hv, hq, hpre, hP', hK'⟩, hz, hk⟩, stp⟩ := hr T hT X9
  have hv : v = r.map (cv xt L') := by injection hv
  subst hv
  rw [g0] at hz hk
  have hA := hX.2.2.2.2.2.2.2.1
  have hS' : va_S A s.heap T'.heap (locs ++ Lc) := ⟨Nat.le_trans hS.1 (by rw [e1]; exact hz), fun q h1 h2 => by
      rw [e1, hk q (Nat.lt_of_lt_of_le h1 hS.1) (fun z => h2 (x_A_sub hP.2.2.2.2 hS hA q z))]
      exact hS.2.1 q h1 h2, fun q hq => by
      rcases List.mem_append.mp hq with h | h
      · exact hS.2.2 q h
      · exact x_A_sub hP.2.2.2.2 hS hA _ (hL q h)⟩
  have same : (∀ v ∈ st, cv xt L' v = cv xt L v) ∧ ∀ (i : Nat) (v : Value), ls[i]? = some (some v) → cv xt L' v = cv xt L v := by
    rcases hold M' ⟨r, hq⟩ with h | ⟨h1, h2⟩
    · have : L' = L := by
        obtain ⟨t9, ht9⟩ := hpre
        have hz : L'.length = L.length := by rw [hP'.1, hP.1]; exact h
        have : t9 = [] := List.length_eq_zero_iff.mp (by rw [← ht9, List.length_append] at hz; omega)
        rw [← ht9, this, List.append_nil]
      subst this
      exact ⟨fun _ _ => rfl, fun _ _ _ => rfl⟩
    · exact ⟨fun v hv => cv_old hpre (by rw [hP.1]; exact h1 v hv), fun i v hi => cv_old hpre (by rw [hP.1]; exact h2 i v hi)⟩
  have est : (r.toList ++ st).map (cv xt L') = (r.map (cv xt L')).toList ++ st.map (cv xt L) := by
    rw [List.map_append, List.map_congr_left same.1]
    congr 1
    cases r <;> rfl
  have key := kk r M' hq L' T'.heap (locs ++ Lc) lc (h0.trans hpre) (by rw [e1]; exact x_behind hP hS hA hP') hS' ⟨hl.1, hl.2.1, fun i v hi => by rw [same.2 i v hi]; exact hl.2.2 i v hi⟩
  rw [est] at key
  obtain ⟨t2, a1, b1⟩ := key T' rfl X'
  exact ⟨t2, stp t2 a1, b1⟩
theorem x_cats (xt : Nat → Nat) (L : List Nat) (st : List Value) : ((st.map (cv xt L)).map fun v => v.category).sum = (st.map fun v => v.category).sum := by
  rw [List.map_map]
  congr 1
  exact List.map_congr_left (fun v _ => cv_cat xt L v)
/-- a method of an object: any cells may come (mc, ms) -/
theorem wp_invV' {i : mI} {n idx b ci mc ms : Nat} {As : List Value} {C0 : String} {T : u_T} {N : Nat} {Q : Option Value → mM → Prop} (hX : Good X own cc (d + 1) C S) (hm : MF i n) (hl : ML own idx i) (hi : Cond.instanceMethod i.1 ∈ x_tbl) (hsel : Cond.selects i.1.cls i.1 i.1 ∈ x_tbl) (hci : vwCl[ci]? = some (C0, T, N)) (hC0 : C0 = i.1.cls) (hc12 : ci < 12) (hd : decode cc pc = .ok (.invokevirtual idx, 3)) (hb : b < m_n M) (hk : m_k M b = ci) (hn : As.length = n) (hst : (st.map fun v => v.category).sum ≤ 8) (hcells : cells + mc ≤ C) (hslots : slots + ms ≤ S) (hN : x_nl X = ls.length) (hct : CT d mc ms i (.ref b :: As) M Q)
    (hold : ∀ M' : mM, (∃ r, Q r M') → (m_n M' = m_n M ∨ ((∀ v ∈ st, x_old (m_n M) v) ∧ ∀ (i : Nat) (v : Value), ls[i]? = some (some v) → x_old (m_n M) v)))
    (kk : ∀ r M', Q r M' → WP X (cells + mc) (slots + ms) (pc + 3) ls (r.toList ++ st) M') : WP X cells slots pc ls (As.reverse ++ .ref b :: st) M := by
  obtain ⟨⟨p, l, e, R, s, m, args, below, meth, c⟩, Z, A, D, ty, xt, nL, L0⟩ := X
  intro L H locs lc h0 hP hS hlr
  subst hC0
  have hcell := x_ws_at (ty := ty) (xt := xt) (L := L) hb
  rw [x_cl_o hk hc12] at hcell
  have hrecv := va_recv hX.2.2.2.2.2.2.1 hP.2.2.2.1 hci hcell
  have hts := hX.2.2.2.2.1
  obtain ⟨hm1, hm2, hm3, hm4⟩ := hm
  have hR : (x_rm d mc ms).frames + 1 ≤ R.frames ∧ 8 + (i.2.2.1 + 11) + (x_rm d mc ms).locals ≤ R.locals := by
    have h1 := hX.2.2.2.2.2.2.2.2.2.2.1
    have h2 := hX.2.2.2.2.2.2.2.2.2.2.2.1
    exact ⟨h1, by show 8 + (i.2.2.1 + 11) + 64 * d ≤ R.locals; omega⟩
  have hf : cells + mc ≤ R.cells ∧ slots + ms ≤ R.slots := ⟨Nat.le_trans hcells hX.2.2.2.2.2.2.2.2.2.2.2.2.1, Nat.le_trans hslots hX.2.2.2.2.2.2.2.2.2.2.2.2.2⟩
  have hpre := x_pre (X := ((p, l, e, R, s, m, args, below, meth, c), Z, A, D, ty, xt, nL, L0)) hX hP hS (.ref b :: As)
  have est : (As.reverse ++ .ref b :: st).map (cv xt L) = (As.map (cv xt L)).reverse ++ Value.ref (x_ad xt L b) :: st.map (cv xt L) := by
    rw [List.map_append, List.map_reverse]
    rfl
  have hCF : CallFix p m c cc nL s args x_tbl own := ⟨hX.1, hX.2.1, hX.2.2.1, hX.2.2.2.1, hts⟩
  have hst' : 2 * (F0 m pc lc ((As.map (cv xt L)).reverse ++ Value.ref (x_ad xt L b) :: st.map (cv xt L))).monitorRoom + ((st.map (cv xt L)).map fun v => v.category).sum ≤ 8 := lv_room (by rw [x_cats]; exact hst)
  have run : va_Run p l e R s m args below meth c H locs cells slots mc ms (F0 m pc lc ((As.map (cv xt L)).reverse ++ Value.ref (x_ad xt L b) :: st.map (cv xt L))) (st.map (cv xt L)) (QO D ty xt (va_A (x_ws ty xt L M) H.size) L Q (Value.ref (x_ad xt L b) :: As.map (cv xt L)).toArray) (va_A (x_ws ty xt L M) H.size) := by
    rcases hl with hl | ⟨host, hl⟩
    · exact va_runV (C := i.1.cls) (As := As.map (cv xt L)) (rest := st.map (cv xt L)) hCF (hct l D ty xt L H.size) ⟨callB_of n hts (x_gd hm1) rfl rfl rfl (hts _ hm2) (hts _ hl) hm3 hR, hts _ hi, hts _ hsel⟩ ⟨hpre.1, hrecv, hpre.2⟩ rfl (by simpa using hn) hlr.1 rfl hst' hd hf
    · exact va_runVN (C := i.1.cls) (As := As.map (cv xt L)) (rest := st.map (cv xt L)) hCF (hct l D ty xt L H.size) ⟨va_cnB n hts (x_gd hm1) rfl rfl rfl (hX.2.2.2.2.2.2.2.2.2.1.2.2.1 _ hl) (hts _ hm2) hm3 hR, hts _ hi, hts _ hsel⟩ ⟨hpre.1, hrecv, hpre.2⟩ rfl (by simpa using hn) hlr.1 rfl hst' hd hf
  rw [est]
  exact x_go hX h0 hP hS hlr run hold kk
/-- a static method -/
theorem wp_invS' {i : mI} {n idx mc ms : Nat} {As : List Value} {Q : Option Value → mM → Prop} (hX : Good X own cc (d + 1) C S) (hm : MF i n) (hl : ML own idx i) (hi : Cond.static i.1 ∈ x_tbl) (hd : decode cc pc = .ok (.invokestatic idx, 3)) (hn : As.length = n) (hst : (st.map fun v => v.category).sum ≤ 8) (hcells : cells + mc ≤ C) (hslots : slots + ms ≤ S) (hct : CT d mc ms i As M Q)
    (hold : ∀ M' : mM, (∃ r, Q r M') → (m_n M' = m_n M ∨ ((∀ v ∈ st, x_old (m_n M) v) ∧ ∀ (i : Nat) (v : Value), ls[i]? = some (some v) → x_old (m_n M) v)))
    (kk : ∀ r M', Q r M' → WP X (cells + mc) (slots + ms) (pc + 3) ls (r.toList ++ st) M') : WP X cells slots pc ls (As.reverse ++ st) M := by
  obtain ⟨⟨p, l, e, R, s, m, args, below, meth, c⟩, Z, A, D, ty, xt, nL, L0⟩ := X
  intro L H locs lc h0 hP hS hlr
  have hts := hX.2.2.2.2.1
  obtain ⟨hm1, hm2, hm3, hm4⟩ := hm
  have hR : (x_rm d mc ms).frames + 1 ≤ R.frames ∧ 8 + (i.2.2.1 + 11) + (x_rm d mc ms).locals ≤ R.locals := by
    have h1 := hX.2.2.2.2.2.2.2.2.2.2.1
    have h2 := hX.2.2.2.2.2.2.2.2.2.2.2.1
    exact ⟨h1, by show 8 + (i.2.2.1 + 11) + 64 * d ≤ R.locals; omega⟩
  have hf : cells + mc ≤ R.cells ∧ slots + ms ≤ R.slots := ⟨Nat.le_trans hcells hX.2.2.2.2.2.2.2.2.2.2.2.2.1, Nat.le_trans hslots hX.2.2.2.2.2.2.2.2.2.2.2.2.2⟩
  have hpre := x_pre (X := ((p, l, e, R, s, m, args, below, meth, c), Z, A, D, ty, xt, nL, L0)) hX hP hS As
  have est : (As.reverse ++ st).map (cv xt L) = (As.map (cv xt L)).reverse ++ st.map (cv xt L) := by
    rw [List.map_append, List.map_reverse]
  have hCF : CallFix p m c cc nL s args x_tbl own := ⟨hX.1, hX.2.1, hX.2.2.1, hX.2.2.2.1, hts⟩
  have hst' : 2 * (F0 m pc lc ((As.map (cv xt L)).reverse ++ st.map (cv xt L))).monitorRoom + ((st.map (cv xt L)).map fun v => v.category).sum ≤ 8 := lv_room (by rw [x_cats]; exact hst)
  have run : va_Run p l e R s m args below meth c H locs cells slots mc ms (F0 m pc lc ((As.map (cv xt L)).reverse ++ st.map (cv xt L))) (st.map (cv xt L)) (QO D ty xt (va_A (x_ws ty xt L M) H.size) L Q (As.map (cv xt L)).toArray) (va_A (x_ws ty xt L M) H.size) := by
    rcases hl with hl | ⟨host, hl⟩
    · exact va_runS (As := As.map (cv xt L)) (rest := st.map (cv xt L)) hCF (hct l D ty xt L H.size) ⟨callB_of n hts (x_gd hm1) rfl rfl rfl (hts _ hm2) (hts _ hl) hm3 hR, hts _ hi⟩ hpre rfl (by simpa using hn) hlr.1 rfl hst' hd hf
    · exact va_runSN (As := As.map (cv xt L)) (rest := st.map (cv xt L)) hCF (hct l D ty xt L H.size) ⟨va_cnB n hts (x_gd hm1) rfl rfl rfl (hX.2.2.2.2.2.2.2.2.2.1.2.2.1 _ hl) (hts _ hm2) hm3 hR, hts _ hi, trivial⟩ hpre rfl (by simpa using hn) hlr.1 rfl hst' hd hf
  rw [est]
  exact x_go hX h0 hP hS hlr run hold kk
/-- a constructor -/
theorem wp_invI' {i : mI} {n idx b mc ms : Nat} {As : List Value} {Q : Option Value → mM → Prop} (hX : Good X own cc (d + 1) C S) (hm : MF i n) (hl : ML own idx i) (hr0 : i.2.2.2 = none) (hnm : i.1.name = "<init>") (hi : Cond.instanceMethod i.1 ∈ x_tbl) (hd : decode cc pc = .ok (.invokespecial idx, 3)) (hn : As.length = n) (hst : (st.map fun v => v.category).sum ≤ 8) (hcells : cells + mc ≤ C) (hslots : slots + ms ≤ S) (hct : CT d mc ms i (.ref b :: As) M Q)
    (hold : ∀ M' : mM, (∃ r, Q r M') → (m_n M' = m_n M ∨ ((∀ v ∈ st, x_old (m_n M) v) ∧ ∀ (i : Nat) (v : Value), ls[i]? = some (some v) → x_old (m_n M) v)))
    (kk : ∀ r M', Q r M' → WP X (cells + mc) (slots + ms) (pc + 3) ls (r.toList ++ st) M') : WP X cells slots pc ls (As.reverse ++ .ref b :: st) M := by
  obtain ⟨⟨p, l, e, R, s, m, args, below, meth, c⟩, Z, A, D, ty, xt, nL, L0⟩ := X
  intro L H locs lc h0 hP hS hlr
  obtain ⟨y, bytes, maxL, ret⟩ := i
  have hr0 : ret = none := hr0
  subst hr0
  have hts := hX.2.2.2.2.1
  obtain ⟨hm1, hm2, hm3, hm4⟩ := hm
  have hm4 : maxL ≤ 40 := hm4
  have hR : (x_rm d mc ms).frames + 1 ≤ R.frames ∧ 8 + (maxL + 11) + (x_rm d mc ms).locals ≤ R.locals := by
    have h1 := hX.2.2.2.2.2.2.2.2.2.2.1
    have h2 := hX.2.2.2.2.2.2.2.2.2.2.2.1
    exact ⟨h1, by show 8 + (maxL + 11) + 64 * d ≤ R.locals; omega⟩
  have hf : cells + mc ≤ R.cells ∧ slots + ms ≤ R.slots := ⟨Nat.le_trans hcells hX.2.2.2.2.2.2.2.2.2.2.2.2.1, Nat.le_trans hslots hX.2.2.2.2.2.2.2.2.2.2.2.2.2⟩
  have hpre := x_pre (X := ((p, l, e, R, s, m, args, below, meth, c), Z, A, D, ty, xt, nL, L0)) hX hP hS (.ref b :: As)
  have est : (As.reverse ++ .ref b :: st).map (cv xt L) = (As.map (cv xt L)).reverse ++ Value.ref (x_ad xt L b) :: st.map (cv xt L) := by
    rw [List.map_append, List.map_reverse]
    rfl
  have hCF : CallFix p m c cc nL s args x_tbl own := ⟨hX.1, hX.2.1, hX.2.2.1, hX.2.2.2.1, hts⟩
  have hst' : 2 * (F0 m pc lc ((As.map (cv xt L)).reverse ++ Value.ref (x_ad xt L b) :: st.map (cv xt L))).monitorRoom + ((st.map (cv xt L)).map fun v => v.category).sum ≤ 8 := lv_room (by rw [x_cats]; exact hst)
  have run : va_Run p l e R s m args below meth c H locs cells slots mc ms (F0 m pc lc ((As.map (cv xt L)).reverse ++ Value.ref (x_ad xt L b) :: st.map (cv xt L))) (st.map (cv xt L)) (QO D ty xt (va_A (x_ws ty xt L M) H.size) L Q (Value.ref (x_ad xt L b) :: As.map (cv xt L)).toArray) (va_A (x_ws ty xt L M) H.size) := by
    rcases hl with hl | ⟨host, hl⟩
    · exact va_runI (As := As.map (cv xt L)) (rest := st.map (cv xt L)) hCF (hct l D ty xt L H.size) ⟨callB_of n hts (x_gd hm1) rfl rfl rfl (hts _ hm2) (hts _ hl) hm3 hR, hnm, hts _ hi⟩ hpre rfl (by simpa using hn) hlr.1 rfl hst' hd hf
    · exact va_runIN (As := As.map (cv xt L)) (rest := st.map (cv xt L)) hCF (hct l D ty xt L H.size) ⟨va_cnB n hts (x_gd hm1) rfl rfl rfl (hX.2.2.2.2.2.2.2.2.2.1.2.2.1 _ hl) (hts _ hm2) hm3 hR, hnm, hts _ hi⟩ hpre rfl (by simpa using hn) hlr.1 rfl hst' hd hf
  rw [est]
  exact x_go hX h0 hP hS hlr run hold kk
end CALLS
end
section
/-! NEW CELLS, COPIES, TABLES, STRINGS, Math -/
section PRIMS
variable {X : cxT} {own : String} {cc : ByteArray} {d C S cells slots pc : Nat} {ls : List (Option Value)} {st : List Value} {M : mM}
theorem x_olds {xt : Nat → Nat} {L : List Nat} {q : Nat} {st : List Value} (h : ∀ v ∈ st, x_old L.length v) : st.map (cv xt (L ++ [q])) = st.map (cv xt L) := List.map_congr_left (fun v hv => cv_old (List.prefix_append L [q]) (h v hv))
theorem x_ad_new {xt : Nat → Nat} {L : List Nat} {q : Nat} (h : L.length < 1000) : x_ad xt (L ++ [q]) L.length = q := by
  unfold x_ad
  rw [if_pos h]
  simp [List.getD_eq_getElem?_getD]
theorem x_ad_old {xt : Nat → Nat} {L : List Nat} {q k : Nat} (h : k < L.length) (hL : L.length < 1000) : x_ad xt (L ++ [q]) k = x_ad xt L k := by
  unfold x_ad
  rw [if_pos (by omega), if_pos (by omega), x_pre_get (List.prefix_append L [q]) h]
/-- the cells' list when one comes -/
theorem x_ws_new {ty : Nat → ClassId} {xt : Nat → Nat} {L : List Nat} {M : mM} {q k n : Nat} {e : va_E} (hL : L.length = m_n M) (h1 : m_n M < 1000) (hw : ∀ a j r, a < m_n M → m_r M a j = some r → r < m_n M) (he : x_cl ty (x_ad xt (L ++ [q])) (m_new M k n) (m_n M) = e) : x_ws ty xt L M ++ [(q, e)] = x_ws ty xt (L ++ [q]) (m_new M k n) := by
  apply List.ext_getElem?
  intro j
  have hlen : (x_ws ty xt L M).length = M.1 := by simp [x_ws]
  have hL : L.length = M.1 := hL
  have h1 : M.1 < 1000 := h1
  by_cases hj : j < M.1
  · rw [List.getElem?_append_left (by rw [hlen]; exact hj), x_ws_at hj, x_ws_at (show j < m_n (m_new M k n) from Nat.lt_succ_of_lt hj), x_ad_old (by omega) (by omega)]
    congr 2
    unfold x_cl
    have e1 : m_k (m_new M k n) j = m_k M j := by show (if j = M.1 then k else M.2.1 j) = _; rw [if_neg (by omega)]
    have e2 : m_l (m_new M k n) j = m_l M j := by show (if j = M.1 then n else M.2.2.1 j) = _; rw [if_neg (by omega)]
    have e3 : m_i (m_new M k n) j = m_i M j := u1_ne _ _ (by omega)
    have e4 : m_j (m_new M k n) j = m_j M j := u1_ne _ _ (by omega)
    have e5 : m_r (m_new M k n) j = m_r M j := u1_ne _ _ (by omega)
    have e6 : ∀ i, (m_r M j i).map (x_ad xt L) = (m_r M j i).map (x_ad xt (L ++ [q])) := by
      intro i
      cases hr : m_r M j i with
      | none => rfl
      | some r => simp only [Option.map_some]; rw [x_ad_old (by rw [hL]; exact hw j i r hj hr) (by omega)]
    rw [e1, e2, e3, e4, e5]
    simp only [e6]
  · by_cases hj2 : j = M.1
    · subst hj2
      rw [List.getElem?_append_right (by omega), hlen, Nat.sub_self, x_ws_at (show M.1 < m_n (m_new M k n) from Nat.lt_succ_self _)]
      have he : x_cl ty (x_ad xt (L ++ [q])) (m_new M k n) M.1 = e := he
      have e7 := x_ad_new (xt := xt) (q := q) (show L.length < 1000 by omega)
      rw [hL] at e7
      rw [he, e7]
      rfl
    · rw [List.getElem?_eq_none (by simp [hlen]; omega), List.getElem?_eq_none (by simp only [x_ws, List.length_map, List.length_range]; show M.1 + 1 ≤ j; omega)]
theorem PR.new {D : va_G} {ty : Nat → ClassId} {xt : Nat → Nat} {A : Nat → Prop} {L : List Nat} {M : mM} {H H1 : Heap} {q k n : Nat} {e : va_E} (h : PR D ty xt A L M H) (h1 : m_n M < 1000) (he : x_cl ty (x_ad xt (L ++ [q])) (m_new M k n) (m_n M) = e) (h2 : va_P D vwCl (x_ws ty xt L M ++ [(q, e)]) H1) (h3 : va_D A (x_ws ty xt L M ++ [(q, e)])) : PR D ty xt A (L ++ [q]) (m_new M k n) H1 := by
  rw [x_ws_new h.1 h1 h.2.2.1 he] at h2 h3
  have h1 : M.1 < 1000 := h1
  refine ⟨by rw [List.length_append, h.1]; rfl, by show M.1 + 1 ≤ 1000; omega, ?_, h2, h3⟩
  intro a j r ha hr
  have hr : u1 (m_r M) M.1 (fun _ => none) a j = some r := hr
  show r < M.1 + 1
  unfold u1 at hr
  split at hr
  · cases hr
  · next hne =>
    have ha : a < M.1 + 1 := ha
    have := h.2.2.1 a j r (show a < M.1 by omega) hr
    show r < M.1 + 1
    have : r < M.1 := this
    omega
theorem x_lr_new {xt : Nat → Nat} {L : List Nat} {nL q : Nat} {lc : Array Slot} {ls : List (Option Value)} (hl : LR xt L nL lc ls) (h : ∀ (i : Nat) (v : Value), ls[i]? = some (some v) → x_old L.length v) : LR xt (L ++ [q]) nL lc ls :=
  ⟨hl.1, hl.2.1, fun i v hi => by rw [cv_old (List.prefix_append L [q]) (h i v hi)]; exact hl.2.2 i v hi⟩
/-- a new object of class ci -/
theorem wp_new {idx ci N : Nat} {C0 : String} {T : u_T} {ty0 : Nat → FieldType} (hX : Good X own cc d C S) (hc : CF ci C0 T N ty0) (hw : Cond.classLink own idx C0 ∈ x_tbl) (hw2 : Cond.instantiable C0 N ∈ x_tbl) (hw3 : Cond.initialized C0 ∈ x_tbl) (hd : decode cc pc = .ok (.new idx, 3)) (hM : m_n M < 1000) (hcells : cells + 1 ≤ C) (hslots : slots + N ≤ S) (ho1 : ∀ v ∈ st, x_old (m_n M) v) (ho2 : ∀ (i : Nat) (v : Value), ls[i]? = some (some v) → x_old (m_n M) v)
    (kk : WP X (cells + 1) (slots + N) (pc + 3) ls (.ref (m_n M) :: st) (m_new M ci 0)) : WP X cells slots pc ls st M := by
  obtain ⟨⟨p, l, e, R, s, m, args, below, meth, c⟩, Z, A, D, ty, xt, nL, L0⟩ := X
  intro L H locs lc h0 hP hS hl
  have hts := hX.2.2.2.2.1
  have hfs : ∀ j, j < N → defaultValue (ty0 j) = vp_V (x_fs (x_ft.getD ci []) (fun _ => 0) (fun _ => .null)) j := by
    intro j hj
    have hlt : j < (x_ft.getD ci []).length := by rw [hc.2.1]; exact hj
    have ht : (x_ft.getD ci [])[j]? = some ((x_ft.getD ci [])[j]) := List.getElem?_eq_getElem hlt
    have hk := hc.kt hj ht
    unfold vp_V
    rw [List.getD_eq_getElem?_getD, x_fs_at ht, ← hk]
    have hk9 : ∀ q ∈ x_ft, ∀ t ∈ q, t ≤ 2 := by decide
    have h2 : (x_ft.getD ci [])[j] ≤ 2 := by
      refine hk9 (x_ft.getD ci []) ?_ _ (List.getElem_mem hlt)
      rw [List.getD_eq_getElem?_getD, List.getElem?_eq_getElem (show ci < x_ft.length from hc.2.2.1)]
      exact List.getElem_mem _
    rw [← hk] at h2
    generalize ty0 j = t9 at h2 ⊢
    cases t9 <;> first | rfl | (simp [x_kt] at h2)
  refine va_new (c0 := c) (ci := ci) hX.1 hX.2.1 hts hc.2.2.2.1 ty0 hc.2.2.2.2.1 hX.2.2.2.1 (hts _ hw) (hts _ hw2) (hts _ hw3) hX.2.2.2.2.2.2.1 hP.2.2.2.1 hP.2.2.2.2 hS hX.2.2.2.2.2.2.2.1 hc.1 hfs (Nat.le_trans hcells hX.2.2.2.2.2.2.2.2.2.2.2.2.1) (Nat.le_trans hslots hX.2.2.2.2.2.2.2.2.2.2.2.2.2) hd (fun q H1 h1 h2 h3 => ?_)
  have hPn : PR D ty xt A (L ++ [q]) (m_new M ci 0) H1 := hP.new hM (by
    rw [x_cl_o (show m_k (m_new M ci 0) (m_n M) = ci from if_pos rfl) hc.2.2.1]
    show Sum.inr (ci, x_fs _ (u1 _ M.1 (fun _ => 0) M.1) (fun j => va_rf ((u1 (m_r M) M.1 (fun _ => none) M.1 j).map _))) = _
    rw [u1_row, u1_row]
    rfl) h1 h2
  have key := kk (L ++ [q]) H1 locs lc (h0.trans (List.prefix_append L [q])) hPn h3 (x_lr_new hl (fun i v hi => by rw [hP.1]; exact ho2 i v hi))
  have e1 : ((Value.ref (m_n M) :: st).map (cv xt (L ++ [q]))) = Value.ref q :: st.map (cv xt L) := by
    rw [List.map_cons, x_olds (fun v hv => by rw [hP.1]; exact ho1 v hv)]
    congr 1
    show Value.ref (x_ad xt (L ++ [q]) (m_n M)) = _
    rw [← hP.1, x_ad_new (by rw [hP.1]; exact hM)]
  rw [e1] at key
  exact key
theorem x_cA {D : va_G} {tys : List (ClassId × FieldType)} {s : State} {ty : Nat → ClassId} {cA : ClassId} {t : FieldType} {j : Nat} (hK : va_K D vwCl (x_ty ty) s) (hK2 : va_K D vwCl (x_ty ty ++ [(cA, t)]) s) (ht : t = .int ∨ t = .long ∨ t = .object "CutFromOthers$Form") (hj : (x_ty ty)[j]? = some (ty j, t)) : cA = ty j := by
  have h1 := (hK.2 j _ hj).2
  have h2 := (hK2.2 3 (cA, t) rfl).2
  rcases ht with rfl | rfl | rfl
  · have h1 : s.vm.findClass _ = some (ty j) := h1
    have h2 : s.vm.findClass _ = some cA := h2
    rw [h1] at h2
    exact (Option.some.inj h2).symm
  · have h1 : s.vm.findClass _ = some (ty j) := h1
    have h2 : s.vm.findClass _ = some cA := h2
    rw [h1] at h2
    exact (Option.some.inj h2).symm
  · obtain ⟨_, _, _, _, _, h1⟩ := h1
    obtain ⟨_, _, _, _, _, h2⟩ := h2
    rw [h1] at h2
    exact (Option.some.inj h2).symm
/-- a new array of ints -/
theorem wp_newi {n : Int32} {N : Nat} (hX : Good X own cc d C S) (hw : Cond.arrayClass .int ∈ x_tbl) (hd : decode cc pc = .ok (.newarray .int, 2)) (hn : ¬ n < 0) (hN : n.toNatClampNeg = N) (hb : N * 4 ≤ 536870912) (hM : m_n M < 1000) (hcells : cells + 1 ≤ C) (hslots : slots + N ≤ S) (ho1 : ∀ v ∈ st, x_old (m_n M) v) (ho2 : ∀ (i : Nat) (v : Value), ls[i]? = some (some v) → x_old (m_n M) v)
    (kk : WP X (cells + 1) (slots + N) (pc + 2) ls (.ref (m_n M) :: st) (m_new M 12 N)) : WP X cells slots pc ls (.int n :: st) M := by
  obtain ⟨⟨p, l, e, R, s, m, args, below, meth, c⟩, Z, A, D, ty, xt, nL, L0⟩ := X
  intro L H locs lc h0 hP hS hl
  have hts := hX.2.2.2.2.1
  refine va_newa (atype := .int) (ty := .int) hX.1 hX.2.1 (hts _ hw) rfl hX.2.2.2.2.2.2.1 hP.2.2.2.1 hP.2.2.2.2 hS hX.2.2.2.2.2.2.2.1 (a0 := (N, .inl (fun _ => 0))) (fun _ => rfl) hn hN hb (Nat.le_trans hcells hX.2.2.2.2.2.2.2.2.2.2.2.2.1) (Nat.le_trans hslots hX.2.2.2.2.2.2.2.2.2.2.2.2.2) hd (fun q cA H1 hK2 h1 h2 h3 => ?_)
  have hcA := x_cA (tys := []) (j := 0) hX.2.2.2.2.2.2.1 hK2 (Or.inl rfl) rfl
  subst hcA
  have hPn : PR D ty xt A (L ++ [q]) (m_new M 12 N) H1 := hP.new hM (by
    rw [x_cl_i (show m_k (m_new M 12 N) (m_n M) = 12 from if_pos rfl)]
    show Sum.inl (ty 0, (if M.1 = M.1 then N else M.2.2.1 M.1), Sum.inl (u1 _ M.1 (fun _ => 0) M.1)) = _
    rw [u1_row, if_pos rfl]) h1 h2
  have key := kk (L ++ [q]) H1 locs lc (h0.trans (List.prefix_append L [q])) hPn h3 (x_lr_new hl (fun i v hi => by rw [hP.1]; exact ho2 i v hi))
  have e1 : ((Value.ref (m_n M) :: st).map (cv xt (L ++ [q]))) = Value.ref q :: st.map (cv xt L) := by
    rw [List.map_cons, x_olds (fun v hv => by rw [hP.1]; exact ho1 v hv)]
    congr 1
    show Value.ref (x_ad xt (L ++ [q]) (m_n M)) = _
    rw [← hP.1, x_ad_new (by rw [hP.1]; exact hM)]
  rw [e1] at key
  exact key
/-- a new array of longs -/
theorem wp_newl {n : Int32} {N : Nat} (hX : Good X own cc d C S) (hw : Cond.arrayClass .long ∈ x_tbl) (hd : decode cc pc = .ok (.newarray .long, 2)) (hn : ¬ n < 0) (hN : n.toNatClampNeg = N) (hb : N * 8 ≤ 536870912) (hM : m_n M < 1000) (hcells : cells + 1 ≤ C) (hslots : slots + N ≤ S) (ho1 : ∀ v ∈ st, x_old (m_n M) v) (ho2 : ∀ (i : Nat) (v : Value), ls[i]? = some (some v) → x_old (m_n M) v)
    (kk : WP X (cells + 1) (slots + N) (pc + 2) ls (.ref (m_n M) :: st) (m_new M 13 N)) : WP X cells slots pc ls (.int n :: st) M := by
  obtain ⟨⟨p, l, e, R, s, m, args, below, meth, c⟩, Z, A, D, ty, xt, nL, L0⟩ := X
  intro L H locs lc h0 hP hS hl
  have hts := hX.2.2.2.2.1
  refine va_newa (atype := .long) (ty := .long) hX.1 hX.2.1 (hts _ hw) rfl hX.2.2.2.2.2.2.1 hP.2.2.2.1 hP.2.2.2.2 hS hX.2.2.2.2.2.2.2.1 (a0 := (N, .inr (.inl (fun _ => 0)))) (fun _ => rfl) hn hN hb (Nat.le_trans hcells hX.2.2.2.2.2.2.2.2.2.2.2.2.1) (Nat.le_trans hslots hX.2.2.2.2.2.2.2.2.2.2.2.2.2) hd (fun q cA H1 hK2 h1 h2 h3 => ?_)
  have hcA := x_cA (tys := []) (j := 1) hX.2.2.2.2.2.2.1 hK2 (Or.inr (Or.inl rfl)) rfl
  subst hcA
  have hPn : PR D ty xt A (L ++ [q]) (m_new M 13 N) H1 := hP.new hM (by
    rw [x_cl_j (show m_k (m_new M 13 N) (m_n M) = 13 from if_pos rfl)]
    show Sum.inl (ty 1, (if M.1 = M.1 then N else M.2.2.1 M.1), Sum.inr (Sum.inl (u1 _ M.1 (fun _ => 0) M.1))) = _
    rw [u1_row, if_pos rfl]) h1 h2
  have key := kk (L ++ [q]) H1 locs lc (h0.trans (List.prefix_append L [q])) hPn h3 (x_lr_new hl (fun i v hi => by rw [hP.1]; exact ho2 i v hi))
  have e1 : ((Value.ref (m_n M) :: st).map (cv xt (L ++ [q]))) = Value.ref q :: st.map (cv xt L) := by
    rw [List.map_cons, x_olds (fun v hv => by rw [hP.1]; exact ho1 v hv)]
    congr 1
    show Value.ref (x_ad xt (L ++ [q]) (m_n M)) = _
    rw [← hP.1, x_ad_new (by rw [hP.1]; exact hM)]
  rw [e1] at key
  exact key
/-- a new array of Forms -/
theorem wp_newf {n : Int32} {N idx : Nat} (hX : Good X own cc d C S) (hw : Cond.classLink own idx "CutFromOthers$Form" ∈ x_tbl) (hd : decode cc pc = .ok (.anewarray idx, 3)) (hn : ¬ n < 0) (hN : n.toNatClampNeg = N) (hb : N * 4 ≤ 536870912) (hM : m_n M < 1000) (hcells : cells + 1 ≤ C) (hslots : slots + N ≤ S) (ho1 : ∀ v ∈ st, x_old (m_n M) v) (ho2 : ∀ (i : Nat) (v : Value), ls[i]? = some (some v) → x_old (m_n M) v)
    (kk : WP X (cells + 1) (slots + N) (pc + 3) ls (.ref (m_n M) :: st) (m_new M 14 N)) : WP X cells slots pc ls (.int n :: st) M := by
  obtain ⟨⟨p, l, e, R, s, m, args, below, meth, c⟩, Z, A, D, ty, xt, nL, L0⟩ := X
  intro L H locs lc h0 hP hS hl
  have hts := hX.2.2.2.2.1
  refine va_newq hX.1 hX.2.1 hX.2.2.2.1 (hts _ hw) hX.2.2.2.2.2.2.2.2.2.1.2.2.2 hX.2.2.2.2.2.2.1 hP.2.2.2.1 hP.2.2.2.2 hS hX.2.2.2.2.2.2.2.1 hn hN hb (Nat.le_trans hcells hX.2.2.2.2.2.2.2.2.2.2.2.2.1) (Nat.le_trans hslots hX.2.2.2.2.2.2.2.2.2.2.2.2.2) hd (fun q cA H1 hK2 h1 h2 h3 => ?_)
  have hcA := x_cA (tys := []) (j := 2) hX.2.2.2.2.2.2.1 hK2 (Or.inr (Or.inr rfl)) rfl
  subst hcA
  have hPn : PR D ty xt A (L ++ [q]) (m_new M 14 N) H1 := hP.new hM (by
    rw [x_cl_r (show m_k (m_new M 14 N) (m_n M) = 14 from if_pos rfl)]
    show Sum.inl (ty 2, (if M.1 = M.1 then N else M.2.2.1 M.1), Sum.inr (Sum.inr (Sum.inr (Sum.inr (fun j => (u1 (m_r M) M.1 (fun _ => none) M.1 j).map _))))) = _
    rw [u1_row, if_pos rfl]
    rfl) h1 h2
  have key := kk (L ++ [q]) H1 locs lc (h0.trans (List.prefix_append L [q])) hPn h3 (x_lr_new hl (fun i v hi => by rw [hP.1]; exact ho2 i v hi))
  have e1 : ((Value.ref (m_n M) :: st).map (cv xt (L ++ [q]))) = Value.ref q :: st.map (cv xt L) := by
    rw [List.map_cons, x_olds (fun v hv => by rw [hP.1]; exact ho1 v hv)]
    congr 1
    show Value.ref (x_ad xt (L ++ [q]) (m_n M)) = _
    rw [← hP.1, x_ad_new (by rw [hP.1]; exact hM)]
  rw [e1] at key
  exact key
/-- Object() -/
theorem wp_obj {idx a : Nat} (hX : Good X own cc (d + 1) C S) (hw : Cond.methodLink own idx Lib.objectInit ∈ x_tbl) (hw2 : Cond.instanceMethod Lib.objectInit ∈ x_tbl) (hw3 : Cond.code Lib.objectInit ⟨#[0xb1]⟩ 1 none ∈ x_tbl) (hd : decode cc pc = .ok (.invokespecial idx, 3)) (hst : (st.map fun v => v.category).sum ≤ 8) (kk : WP X cells slots (pc + 3) ls st M) : WP X cells slots pc ls (.ref a :: st) M := by
  obtain ⟨⟨p, l, e, R, s, m, args, below, meth, c⟩, Z, A, D, ty, xt, nL, L0⟩ := X
  intro L H locs lc h0 hP hS hl
  have hts := hX.2.2.2.2.1
  have hf := hX.2.2.2.2.2.2.2.2.2.2.1
  have hlo := hX.2.2.2.2.2.2.2.2.2.2.2.1
  refine W.objInit hX.1 hX.2.1 hX.2.2.2.1 (hts _ hw) (hts _ hw2) (hts _ hw3) rfl (by rw [hX.2.2.1]; exact hl.1) rfl hd (by omega) ?_ (kk L H locs lc h0 hP hS hl)
  have h9 : 2 * (F0 m pc lc (Value.ref (x_ad xt L a) :: st.map (cv xt L))).monitorRoom + ((st.map (cv xt L)).map fun v => v.category).sum ≤ 8 := lv_room (by rw [x_cats]; exact hst)
  have h8 : 2 * (F0 m pc lc ((Value.ref a :: st).map (cv xt L))).monitorRoom + ((st.map (cv xt L)).map fun v => v.category).sum ≤ 8 := h9
  omega
/-- Math.max, min, abs -/
theorem wp_max {idx : Nat} {x y : Int32} (hX : Good X own cc (d + 1) C S) (hw : Cond.methodLink own idx Lib.Math.max.name ∈ x_tbl) (hw2 : Cond.static Lib.Math.max.name ∈ x_tbl) (hw3 : Cond.initialized "java/lang/Math" ∈ x_tbl) (hw4 : Cond.code Lib.Math.max.name Lib.Math.max.code 2 (some .int) ∈ x_tbl) (hd : decode cc pc = .ok (.invokestatic idx, 3)) (hst : (st.map fun v => v.category).sum ≤ 8) (hc : cells ≤ C) (hs : slots ≤ S) (kk : WP X cells slots (pc + 3) ls (.int (if x < y then y else x) :: st) M) : WP X cells slots pc ls (.int y :: .int x :: st) M := by
  obtain ⟨⟨p, l, e, R, s, m, args, below, meth, c⟩, Z, A, D, ty, xt, nL, L0⟩ := X
  intro L H locs lc h0 hP hS hl
  have hts := hX.2.2.2.2.1
  have hf := hX.2.2.2.2.2.2.2.2.2.2.1
  have hlo := hX.2.2.2.2.2.2.2.2.2.2.2.1
  exact va_mmax hX.1 hX.2.1 (by rw [hX.2.2.1]; exact hl.1.symm) hX.2.2.2.1 (hts _ hw) (hts _ hw2) (hts _ hw3) (hts _ hw4) (by omega) (by rw [x_cats]; omega) (Nat.le_trans hc hX.2.2.2.2.2.2.2.2.2.2.2.2.1) (Nat.le_trans hs hX.2.2.2.2.2.2.2.2.2.2.2.2.2) hd (kk L H locs lc h0 hP hS hl)
theorem wp_min {idx : Nat} {x y : Int32} (hX : Good X own cc (d + 1) C S) (hw : Cond.methodLink own idx Lib.Math.min.name ∈ x_tbl) (hw2 : Cond.static Lib.Math.min.name ∈ x_tbl) (hw3 : Cond.initialized "java/lang/Math" ∈ x_tbl) (hw4 : Cond.code Lib.Math.min.name Lib.Math.min.code 2 (some .int) ∈ x_tbl) (hd : decode cc pc = .ok (.invokestatic idx, 3)) (hst : (st.map fun v => v.category).sum ≤ 8) (hc : cells ≤ C) (hs : slots ≤ S) (kk : WP X cells slots (pc + 3) ls (.int (if y < x then y else x) :: st) M) : WP X cells slots pc ls (.int y :: .int x :: st) M := by
  obtain ⟨⟨p, l, e, R, s, m, args, below, meth, c⟩, Z, A, D, ty, xt, nL, L0⟩ := X
  intro L H locs lc h0 hP hS hl
  have hts := hX.2.2.2.2.1
  have hf := hX.2.2.2.2.2.2.2.2.2.2.1
  have hlo := hX.2.2.2.2.2.2.2.2.2.2.2.1
  exact va_mmin hX.1 hX.2.1 (by rw [hX.2.2.1]; exact hl.1.symm) hX.2.2.2.1 (hts _ hw) (hts _ hw2) (hts _ hw3) (hts _ hw4) (by omega) (by rw [x_cats]; omega) (Nat.le_trans hc hX.2.2.2.2.2.2.2.2.2.2.2.2.1) (Nat.le_trans hs hX.2.2.2.2.2.2.2.2.2.2.2.2.2) hd (kk L H locs lc h0 hP hS hl)
end PRIMS
end
section
/-! Math.abs, COPIES, TABLES, STRINGS -/
section PRIM2
variable {X : cxT} {own : String} {cc : ByteArray} {d C S cells slots pc : Nat} {ls : List (Option Value)} {st : List Value} {M : mM}
theorem wp_abs {idx : Nat} {x : Int32} (hX : Good X own cc (d + 1) C S) (hw : Cond.methodLink own idx Lib.Math.abs.name ∈ x_tbl) (hw2 : Cond.static Lib.Math.abs.name ∈ x_tbl) (hw3 : Cond.initialized "java/lang/Math" ∈ x_tbl) (hw4 : Cond.code Lib.Math.abs.name Lib.Math.abs.code 1 (some .int) ∈ x_tbl) (hd : decode cc pc = .ok (.invokestatic idx, 3)) (hst : (st.map fun v => v.category).sum ≤ 8) (hc : cells ≤ C) (hs : slots ≤ S) (kk : WP X cells slots (pc + 3) ls (.int (if 0 ≤ x then x else 0 - x) :: st) M) : WP X cells slots pc ls (.int x :: st) M := by
  obtain ⟨⟨p, l, e, R, s, m, args, below, meth, c⟩, Z, A, D, ty, xt, nL, L0⟩ := X
  intro L H locs lc h0 hP hS hl
  have hts := hX.2.2.2.2.1
  have hf := hX.2.2.2.2.2.2.2.2.2.2.1
  have hlo := hX.2.2.2.2.2.2.2.2.2.2.2.1
  exact va_mabs hX.1 hX.2.1 (by rw [hX.2.2.1]; exact hl.1.symm) hX.2.2.2.1 (hts _ hw) (hts _ hw2) (hts _ hw3) (hts _ hw4) (by omega) (by rw [x_cats]; omega) (Nat.le_trans hc hX.2.2.2.2.2.2.2.2.2.2.2.2.1) (Nat.le_trans hs hX.2.2.2.2.2.2.2.2.2.2.2.2.2) hd (kk L H locs lc h0 hP hS hl)
theorem x_native : nativeFrameWords "java/lang/System" "arraycopy" 5 + 11 ≤ 56 := by decide
theorem wp_copyi {idx a b : Nat} {sp dp n : Int32} (hX : Good X own cc (d + 1) C S) (hw : Cond.methodLink own idx arraycopyName ∈ x_tbl) (hw2 : Cond.native arraycopyName ∈ x_tbl) (hw3 : Cond.static arraycopyName ∈ x_tbl) (hw4 : Cond.initialized "java/lang/System" ∈ x_tbl) (hd : decode cc pc = .ok (.invokestatic idx, 3)) (hst : (st.map fun v => v.category).sum ≤ 8) (ha : a < m_n M) (hka : m_k M a = 12) (hb : b < m_n M) (hkb : m_k M b = 12) (h1 : ¬ sp < 0) (h2 : ¬ dp < 0) (h3 : ¬ n < 0) (h4 : sp.toNatClampNeg + n.toNatClampNeg ≤ m_l M a) (h5 : dp.toNatClampNeg + n.toNatClampNeg ≤ m_l M b)
    (kk : WP X cells slots (pc + 3) ls st (m_rowi M b (va_cpy (m_i M a) (m_i M b) sp.toNatClampNeg dp.toNatClampNeg n.toNatClampNeg))) : WP X cells slots pc ls (.int n :: .int dp :: .ref b :: .int sp :: .ref a :: st) M := by
  obtain ⟨⟨p, l, e, R, s, m, args, below, meth, c⟩, Z, A, D, ty, xt, nL, L0⟩ := X
  intro L H locs lc h0 hP hS hl
  have hts := hX.2.2.2.2.1
  have hf := hX.2.2.2.2.2.2.2.2.2.2.1
  have hlo := hX.2.2.2.2.2.2.2.2.2.2.2.1
  have hca := x_ws_at (ty := ty) (xt := xt) (L := L) ha
  have hcb := x_ws_at (ty := ty) (xt := xt) (L := L) hb
  rw [x_cl_i hka] at hca
  rw [x_cl_i hkb] at hcb
  refine va_copyi hX.1 hX.2.1 (by rw [hX.2.2.1]; exact hl.1.symm) hX.2.2.2.1 (hts _ hw) (hts _ hw2) (hts _ hw3) (hts _ hw4) hX.2.2.2.2.2.2.1 hP.2.2.2.1 hP.2.2.2.2 hS a b 0 0 hca hcb rfl rfl rfl h1 h2 h3 h4 h5 (fun _ _ => rfl) (by omega) (by rw [x_cats]; have := x_native; omega) hd (fun H1 locs1 g1 g2 g3 => ?_)
  refine kk L H1 locs1 lc h0 (hP.put (M' := m_rowi M b (va_cpy (m_i M a) (m_i M b) sp.toNatClampNeg dp.toNatClampNeg n.toNatClampNeg)) hb rfl ?_ (fun q hq => x_cl_eq rfl rfl (u1_ne _ _ hq) rfl rfl) hP.2.2.1 g1 g2) g3 hl
  rw [x_cl_i (show m_k (m_rowi M b (va_cpy (m_i M a) (m_i M b) sp.toNatClampNeg dp.toNatClampNeg n.toNatClampNeg)) b = 12 from hkb)]
  show Sum.inl (ty 0, m_l M b, Sum.inl (u1 (m_i M) b _ b)) = _
  rw [u1_row]
theorem wp_copyj {idx a b : Nat} {sp dp n : Int32} (hX : Good X own cc (d + 1) C S) (hw : Cond.methodLink own idx arraycopyName ∈ x_tbl) (hw2 : Cond.native arraycopyName ∈ x_tbl) (hw3 : Cond.static arraycopyName ∈ x_tbl) (hw4 : Cond.initialized "java/lang/System" ∈ x_tbl) (hd : decode cc pc = .ok (.invokestatic idx, 3)) (hst : (st.map fun v => v.category).sum ≤ 8) (ha : a < m_n M) (hka : m_k M a = 13) (hb : b < m_n M) (hkb : m_k M b = 13) (h1 : ¬ sp < 0) (h2 : ¬ dp < 0) (h3 : ¬ n < 0) (h4 : sp.toNatClampNeg + n.toNatClampNeg ≤ m_l M a) (h5 : dp.toNatClampNeg + n.toNatClampNeg ≤ m_l M b)
    (kk : WP X cells slots (pc + 3) ls st (m_rowj M b (va_cpy (m_j M a) (m_j M b) sp.toNatClampNeg dp.toNatClampNeg n.toNatClampNeg))) : WP X cells slots pc ls (.int n :: .int dp :: .ref b :: .int sp :: .ref a :: st) M := by
  obtain ⟨⟨p, l, e, R, s, m, args, below, meth, c⟩, Z, A, D, ty, xt, nL, L0⟩ := X
  intro L H locs lc h0 hP hS hl
  have hts := hX.2.2.2.2.1
  have hf := hX.2.2.2.2.2.2.2.2.2.2.1
  have hlo := hX.2.2.2.2.2.2.2.2.2.2.2.1
  have hca := x_ws_at (ty := ty) (xt := xt) (L := L) ha
  have hcb := x_ws_at (ty := ty) (xt := xt) (L := L) hb
  rw [x_cl_j hka] at hca
  rw [x_cl_j hkb] at hcb
  refine va_copyl hX.1 hX.2.1 (by rw [hX.2.2.1]; exact hl.1.symm) hX.2.2.2.1 (hts _ hw) (hts _ hw2) (hts _ hw3) (hts _ hw4) hX.2.2.2.2.2.2.1 hP.2.2.2.1 hP.2.2.2.2 hS a b 1 1 hca hcb rfl rfl rfl h1 h2 h3 h4 h5 (fun _ _ => rfl) (by omega) (by rw [x_cats]; have := x_native; omega) hd (fun H1 locs1 g1 g2 g3 => ?_)
  refine kk L H1 locs1 lc h0 (hP.put (M' := m_rowj M b (va_cpy (m_j M a) (m_j M b) sp.toNatClampNeg dp.toNatClampNeg n.toNatClampNeg)) hb rfl ?_ (fun q hq => x_cl_eq rfl rfl rfl (u1_ne _ _ hq) rfl) hP.2.2.1 g1 g2) g3 hl
  rw [x_cl_j (show m_k (m_rowj M b (va_cpy (m_j M a) (m_j M b) sp.toNatClampNeg dp.toNatClampNeg n.toNatClampNeg)) b = 13 from hkb)]
  show Sum.inl (ty 1, m_l M b, Sum.inr (Sum.inl (u1 (m_j M) b _ b))) = _
  rw [u1_row]
/-- the three tables: 1001 MOST_OF_TRAIT, 1002 ABOVE, 1003 BODIES -/
theorem wp_most {idx : Nat} (hX : Good X own cc d C S) (hw : Cond.fieldLink own idx "CutFromOthers" "MOST_OF_TRAIT" "[I" ∈ x_tbl) (hd : decode cc pc = .ok (.getstatic idx, 3)) (kk : WP X cells slots (pc + 3) ls (.ref 1001 :: st) M) : WP X cells slots pc ls st M := by
  obtain ⟨⟨p, l, e, R, s, m, args, below, meth, c⟩, Z, A, D, ty, xt, nL, L0⟩ := X
  intro L H locs lc h0 hP hS hl
  exact va_gets hX.1 hX.2.1 hX.2.2.2.2.2.2.2.2.1.1.1 hS hX.2.2.2.1 (hX.2.2.2.2.1 _ hw) (fun _ h => h) hd (kk L H locs lc h0 hP hS hl)
theorem wp_abov {idx : Nat} (hX : Good X own cc d C S) (hw : Cond.fieldLink own idx "CutFromOthers$Stones" "ABOVE" "[I" ∈ x_tbl) (hd : decode cc pc = .ok (.getstatic idx, 3)) (kk : WP X cells slots (pc + 3) ls (.ref 1002 :: st) M) : WP X cells slots pc ls st M := by
  obtain ⟨⟨p, l, e, R, s, m, args, below, meth, c⟩, Z, A, D, ty, xt, nL, L0⟩ := X
  intro L H locs lc h0 hP hS hl
  exact va_gets hX.1 hX.2.1 hX.2.2.2.2.2.2.2.2.1.2.1.1 hS hX.2.2.2.1 (hX.2.2.2.2.1 _ hw) (fun _ h => h) hd (kk L H locs lc h0 hP hS hl)
theorem wp_bods {idx : Nat} (hX : Good X own cc d C S) (hw : Cond.fieldLink own idx "CutFromOthers$Stones" "BODIES" "[I" ∈ x_tbl) (hd : decode cc pc = .ok (.getstatic idx, 3)) (kk : WP X cells slots (pc + 3) ls (.ref 1003 :: st) M) : WP X cells slots pc ls st M := by
  obtain ⟨⟨p, l, e, R, s, m, args, below, meth, c⟩, Z, A, D, ty, xt, nL, L0⟩ := X
  intro L H locs lc h0 hP hS hl
  exact va_gets hX.1 hX.2.1 hX.2.2.2.2.2.2.2.2.1.2.2.1.1 hS hX.2.2.2.1 (hX.2.2.2.2.1 _ hw) (fun _ h => h) hd (kk L H locs lc h0 hP hS hl)
theorem wp_t1 {i : Int32} (hX : Good X own cc d C S) (hd : decode cc pc = .ok (.iaload, 1)) (hi : vp_in i 3) (kk : WP X cells slots (pc + 1) ls (.int (x_most i.toNatClampNeg) :: st) M) : WP X cells slots pc ls (.int i :: .ref 1001 :: st) M := by
  obtain ⟨⟨p, l, e, R, s, m, args, below, meth, c⟩, Z, A, D, ty, xt, nL, L0⟩ := X
  intro L H locs lc h0 hP hS hl
  exact va_ti hX.1 hX.2.1 hX.2.2.2.2.2.2.2.2.1.1.2 hS hi rfl hd (kk L H locs lc h0 hP hS hl)
theorem wp_t2 {i : Int32} (hX : Good X own cc d C S) (hd : decode cc pc = .ok (.iaload, 1)) (hi : vp_in i 8) (kk : WP X cells slots (pc + 1) ls (.int (x_abov i.toNatClampNeg) :: st) M) : WP X cells slots pc ls (.int i :: .ref 1002 :: st) M := by
  obtain ⟨⟨p, l, e, R, s, m, args, below, meth, c⟩, Z, A, D, ty, xt, nL, L0⟩ := X
  intro L H locs lc h0 hP hS hl
  exact va_ti hX.1 hX.2.1 hX.2.2.2.2.2.2.2.2.1.2.1.2 hS hi rfl hd (kk L H locs lc h0 hP hS hl)
theorem wp_t3 {i : Int32} (hX : Good X own cc d C S) (hd : decode cc pc = .ok (.iaload, 1)) (hi : vp_in i 32) (kk : WP X cells slots (pc + 1) ls (.int (x_bods i.toNatClampNeg) :: st) M) : WP X cells slots pc ls (.int i :: .ref 1003 :: st) M := by
  obtain ⟨⟨p, l, e, R, s, m, args, below, meth, c⟩, Z, A, D, ty, xt, nL, L0⟩ := X
  intro L H locs lc h0 hP hS hl
  exact va_ti hX.1 hX.2.1 hX.2.2.2.2.2.2.2.2.1.2.2.1.2 hS hi rfl hd (kk L H locs lc h0 hP hS hl)
/-- a string constant of the tape -/
theorem wp_ldcS {idx i : Nat} {q : Nat × String} (hX : Good X "CutFromOthers$Tape" cc d C S) (hq : x_sr[i]? = some q) (hi : q.1 = idx) (hd : decode cc pc = .ok (.ldc idx, 2)) (kk : WP X cells slots (pc + 2) ls (.ref (1010 + i) :: st) M) : WP X cells slots pc ls st M := by
  obtain ⟨⟨p, l, e, R, s, m, args, below, meth, c⟩, Z, A, D, ty, xt, nL, L0⟩ := X
  intro L H locs lc h0 hP hS hl
  subst hi
  have key := kk L H locs lc h0 hP hS hl
  have e1 : cv xt L (.ref (1010 + i)) = .ref (xt (1010 + i)) := by
    show Value.ref (x_ad xt L (1010 + i)) = _
    unfold x_ad
    rw [if_neg (by omega)]
  rw [List.map_cons, e1] at key
  exact va_ldcS hX.1 hX.2.1 hX.2.2.2.1 (hX.2.2.2.2.2.2.2.2.2.1.1 i q hq) hd key
theorem x_ad_x {xt : Nat → Nat} {L : List Nat} {k : Nat} (h : 1000 ≤ k) : x_ad xt L k = xt k := by
  unfold x_ad
  rw [if_neg (by omega)]
/-- fields of a string constant -/
theorem wp_coder {idx i : Nat} (hX : Good X own cc d C S) (hi : i < 6) (hw : Cond.fieldLink own idx "java/lang/String" "coder" "B" ∈ x_tbl) (hd : decode cc pc = .ok (.getfield idx, 3)) (kk : WP X cells slots (pc + 3) ls (.int 0 :: st) M) : WP X cells slots pc ls (.ref (1010 + i) :: st) M := by
  obtain ⟨⟨p, l, e, R, s, m, args, below, meth, c⟩, Z, A, D, ty, xt, nL, L0⟩ := X
  intro L H locs lc h0 hP hS hl
  rw [List.map_cons, show cv xt L (.ref (1010 + i)) = .ref (xt (1010 + i)) from congrArg Value.ref (x_ad_x (by omega))]
  exact vk_getf hX.1 hX.2.1 (hX.2.2.2.2.2.2.2.2.1.2.2.2.1.1 i hi).2.1 hS hX.2.2.2.1 (hX.2.2.2.2.1 _ hw) (fun _ h => h) hd (kk L H locs lc h0 hP hS hl)
theorem wp_value {idx i : Nat} (hX : Good X own cc d C S) (hi : i < 6) (hw : Cond.fieldLink own idx "java/lang/String" "value" "[B" ∈ x_tbl) (hd : decode cc pc = .ok (.getfield idx, 3)) (kk : WP X cells slots (pc + 3) ls (.ref (1020 + i) :: st) M) : WP X cells slots pc ls (.ref (1010 + i) :: st) M := by
  obtain ⟨⟨p, l, e, R, s, m, args, below, meth, c⟩, Z, A, D, ty, xt, nL, L0⟩ := X
  intro L H locs lc h0 hP hS hl
  rw [List.map_cons, show cv xt L (.ref (1010 + i)) = .ref (xt (1010 + i)) from congrArg Value.ref (x_ad_x (by omega))]
  have key := kk L H locs lc h0 hP hS hl
  rw [List.map_cons, show cv xt L (.ref (1020 + i)) = .ref (xt (1020 + i)) from congrArg Value.ref (x_ad_x (by omega))] at key
  exact vk_getf hX.1 hX.2.1 (hX.2.2.2.2.2.2.2.2.1.2.2.2.1.1 i hi).2.2.1 hS hX.2.2.2.1 (hX.2.2.2.2.1 _ hw) (fun _ h => h) hd key
theorem wp_compact {idx : Nat} (hX : Good X own cc d C S) (hw : Cond.fieldLink own idx "java/lang/String" "COMPACT_STRINGS" "Z" ∈ x_tbl) (hd : decode cc pc = .ok (.getstatic idx, 3)) (kk : WP X cells slots (pc + 3) ls (.int 1 :: st) M) : WP X cells slots pc ls st M := by
  obtain ⟨⟨p, l, e, R, s, m, args, below, meth, c⟩, Z, A, D, ty, xt, nL, L0⟩ := X
  intro L H locs lc h0 hP hS hl
  exact va_gets hX.1 hX.2.1 hX.2.2.2.2.2.2.2.2.1.2.2.2.2 hS hX.2.2.2.1 (hX.2.2.2.2.1 _ hw) (fun _ h => h) hd (kk L H locs lc h0 hP hS hl)
theorem wp_sbyte {i : Nat} {j : Int32} (hX : Good X own cc d C S) (hi : i < 6) (hd : decode cc pc = .ok (.baload, 1)) (hj : vp_in j (x_sl.getD i 0)) (kk : WP X cells slots (pc + 1) ls (.int ((x_sb.getD i []).getD j.toNatClampNeg 0) :: st) M) : WP X cells slots pc ls (.int j :: .ref (1020 + i) :: st) M := by
  obtain ⟨⟨p, l, e, R, s, m, args, below, meth, c⟩, Z, A, D, ty, xt, nL, L0⟩ := X
  intro L H locs lc h0 hP hS hl
  rw [List.map_cons, List.map_cons, show cv xt L (.ref (1020 + i)) = .ref (xt (1020 + i)) from congrArg Value.ref (x_ad_x (by omega))]
  exact va_tb hX.1 hX.2.1 (hX.2.2.2.2.2.2.2.2.1.2.2.2.1.1 i hi).2.2.2 hS hj rfl hd (kk L H locs lc h0 hP hS hl)
theorem wp_slen {i : Nat} (hX : Good X own cc d C S) (hi : i < 6) (hd : decode cc pc = .ok (.arraylength, 1)) (kk : WP X cells slots (pc + 1) ls (.int (Int32.ofNat (x_sl.getD i 0)) :: st) M) : WP X cells slots pc ls (.ref (1020 + i) :: st) M := by
  obtain ⟨⟨p, l, e, R, s, m, args, below, meth, c⟩, Z, A, D, ty, xt, nL, L0⟩ := X
  intro L H locs lc h0 hP hS hl
  rw [List.map_cons, show cv xt L (.ref (1020 + i)) = .ref (xt (1020 + i)) from congrArg Value.ref (x_ad_x (by omega))]
  exact va_tlen hX.1 hX.2.1 (hX.2.2.2.2.2.2.2.2.1.2.2.2.1.1 i hi).2.2.2 hS rfl hd (kk L H locs lc h0 hP hS hl)
/-- a method of a string constant -/
theorem wp_invT' {i : mI} {n idx b : Nat} {As : List Value} {Q : Option Value → mM → Prop} (hX : Good X own cc (d + 1) C S) (hm : MF i n) (hl : Cond.methodLink own idx i.1 ∈ x_tbl) (hi : Cond.instanceMethod i.1 ∈ x_tbl) (hsel : Cond.selects i.1.cls i.1 i.1 ∈ x_tbl) (hC0 : i.1.cls = "java/lang/String") (hb : b < 6) (hd : decode cc pc = .ok (.invokevirtual idx, 3)) (hn : As.length = n) (hst : (st.map fun v => v.category).sum ≤ 8) (hcells : cells ≤ C) (hslots : slots ≤ S) (hct : CT d 0 0 i (.ref (1010 + b) :: As) M Q)
    (hold : ∀ M' : mM, (∃ r, Q r M') → m_n M' = m_n M)
    (kk : ∀ r M', Q r M' → WP X cells slots (pc + 3) ls (r.toList ++ st) M') : WP X cells slots pc ls (As.reverse ++ .ref (1010 + b) :: st) M := by
  obtain ⟨⟨p, l, e, R, s, m, args, below, meth, c⟩, Z, A, D, ty, xt, nL, L0⟩ := X
  intro L H locs lc h0 hP hS hlr
  have hrecv := vk_recv hX.2.2.2.2.2.2.2.2.1.2.2.2.1 hb hS
  have hts := hX.2.2.2.2.1
  obtain ⟨hm1, hm2, hm3, hm4⟩ := hm
  have hR : (x_rm d 0 0).frames + 1 ≤ R.frames ∧ 8 + (i.2.2.1 + 11) + (x_rm d 0 0).locals ≤ R.locals := by
    have h1 := hX.2.2.2.2.2.2.2.2.2.2.1
    have h2 := hX.2.2.2.2.2.2.2.2.2.2.2.1
    exact ⟨h1, by show 8 + (i.2.2.1 + 11) + 64 * d ≤ R.locals; omega⟩
  have hf : cells + 0 ≤ R.cells ∧ slots + 0 ≤ R.slots := ⟨Nat.le_trans hcells hX.2.2.2.2.2.2.2.2.2.2.2.2.1, Nat.le_trans hslots hX.2.2.2.2.2.2.2.2.2.2.2.2.2⟩
  have e0 : x_ad xt L (1010 + b) = xt (1010 + b) := x_ad_x (by omega)
  have hpre := x_pre (X := ((p, l, e, R, s, m, args, below, meth, c), Z, A, D, ty, xt, nL, L0)) hX hP hS (.ref (1010 + b) :: As)
  have est : (As.reverse ++ .ref (1010 + b) :: st).map (cv xt L) = (As.map (cv xt L)).reverse ++ Value.ref (x_ad xt L (1010 + b)) :: st.map (cv xt L) := by
    rw [List.map_append, List.map_reverse]
    rfl
  have hCF : CallFix p m c cc nL s args x_tbl own := ⟨hX.1, hX.2.1, hX.2.2.1, hX.2.2.2.1, hts⟩
  have hst' : 2 * (F0 m pc lc ((As.map (cv xt L)).reverse ++ Value.ref (x_ad xt L (1010 + b)) :: st.map (cv xt L))).monitorRoom + ((st.map (cv xt L)).map fun v => v.category).sum ≤ 8 := lv_room (by rw [x_cats]; exact hst)
  have run : va_Run p l e R s m args below meth c H locs cells slots 0 0 (F0 m pc lc ((As.map (cv xt L)).reverse ++ Value.ref (x_ad xt L (1010 + b)) :: st.map (cv xt L))) (st.map (cv xt L)) (QO D ty xt (va_A (x_ws ty xt L M) H.size) L Q (Value.ref (x_ad xt L (1010 + b)) :: As.map (cv xt L)).toArray) (va_A (x_ws ty xt L M) H.size) :=
    va_runV (C := i.1.cls) (As := As.map (cv xt L)) (rest := st.map (cv xt L)) hCF (hct l D ty xt L H.size) ⟨callB_of n hts (x_gd hm1) rfl rfl rfl (hts _ hm2) (hts _ hl) hm3 hR, hts _ hi, hts _ hsel⟩ ⟨hpre.1, by rw [hC0, e0]; exact hrecv, hpre.2⟩ rfl (by simpa using hn) hlr.1 rfl hst' hd hf
  rw [est]
  exact x_go hX h0 hP hS hlr run (fun M' h => Or.inl (hold M' h)) kk
/-- THE SCRIPT (1000), of L ints xs: the law's own -/
def x_scr : cxT → Nat → (Nat → Int32) → Prop
  | ((_, _, _, _, s, _, _, _, _, _), _, A, _, _, xt, _, _), L, xs => va_X (xt 1000) L xs s s.heap ∧ xt 1000 < s.heap.size ∧ ¬ A (xt 1000)
theorem wp_sld {i : Int32} {n : Nat} {xs : Nat → Int32} (hX : Good X own cc d C S) (hs : x_scr X n xs) (hd : decode cc pc = .ok (.iaload, 1)) (hi : vp_in i n) (kk : WP X cells slots (pc + 1) ls (.int (xs i.toNatClampNeg) :: st) M) : WP X cells slots pc ls (.int i :: .ref 1000 :: st) M := by
  obtain ⟨⟨p, l, e, R, s, m, args, below, meth, c⟩, Z, A, D, ty, xt, nL, L0⟩ := X
  intro L H locs lc h0 hP hS hl
  exact va_sld hX.1 hX.2.1 hs.1 hs.2.1 hs.2.2 hS hi hd (kk L H locs lc h0 hP hS hl)
theorem wp_sln {n : Nat} {xs : Nat → Int32} (hX : Good X own cc d C S) (hs : x_scr X n xs) (hd : decode cc pc = .ok (.arraylength, 1)) (kk : WP X cells slots (pc + 1) ls (.int (nI n) :: st) M) : WP X cells slots pc ls (.ref 1000 :: st) M := by
  obtain ⟨⟨p, l, e, R, s, m, args, below, meth, c⟩, Z, A, D, ty, xt, nL, L0⟩ := X
  intro L H locs lc h0 hP hS hl
  exact va_slen hX.1 hX.2.1 hs.1 hs.2.1 hs.2.2 hS hd (kk L H locs lc h0 hP hS hl)
end PRIM2
end
