section
-- ===== PART A: goes FIRST, ahead of the names: the tables' words, and 'selects' of the private methods out of them =====
/-- a private method of a class that the tables say can be made, by its rows of tables_1 -/
def lw_okq (q : MethodName × Nat) : Prop := (q.1.cls ≠ "java/lang/invoke/MethodHandle" ∧ q.1.cls ≠ "java/lang/invoke/VarHandle") ∧ Cond.instantiable q.1.cls q.2 ∈ tables_1 ∧ Cond.privateMethod q.1 ∈ tables_1 ∧ Cond.instanceMethod q.1 ∈ tables_1
theorem lw_p0 : lw_okq (⟨"ShaftLine", "forgetAnswers", "()V"⟩, 17) := ⟨⟨by decide +kernel, by decide +kernel⟩, List.mem_of_getElem? (i := 14) (by decide +kernel), List.mem_of_getElem? (i := 345) (by decide +kernel), List.mem_of_getElem? (i := 346) (by decide +kernel)⟩
theorem lw_p1 : lw_okq (⟨"ShaftLine$Line", "shift", "(II)V"⟩, 7) := ⟨⟨by decide +kernel, by decide +kernel⟩, List.mem_of_getElem? (i := 22) (by decide +kernel), List.mem_of_getElem? (i := 357) (by decide +kernel), List.mem_of_getElem? (i := 358) (by decide +kernel)⟩
theorem lw_p2 : lw_okq (⟨"ShaftLine", "isBearing", "(I)Z"⟩, 17) := ⟨⟨by decide +kernel, by decide +kernel⟩, List.mem_of_getElem? (i := 14) (by decide +kernel), List.mem_of_getElem? (i := 365) (by decide +kernel), List.mem_of_getElem? (i := 366) (by decide +kernel)⟩
theorem lw_p3 : lw_okq (⟨"ShaftLine$Reader", "readClause", "()Z"⟩, 6) := ⟨⟨by decide +kernel, by decide +kernel⟩, List.mem_of_getElem? (i := 68) (by decide +kernel), List.mem_of_getElem? (i := 433) (by decide +kernel), List.mem_of_getElem? (i := 434) (by decide +kernel)⟩
theorem lw_p4 : lw_okq (⟨"ShaftLine$Reader", "skipBlanks", "()V"⟩, 6) := ⟨⟨by decide +kernel, by decide +kernel⟩, List.mem_of_getElem? (i := 68) (by decide +kernel), List.mem_of_getElem? (i := 437) (by decide +kernel), List.mem_of_getElem? (i := 438) (by decide +kernel)⟩
theorem lw_p5 : lw_okq (⟨"ShaftLine$Reader", "next", "()I"⟩, 6) := ⟨⟨by decide +kernel, by decide +kernel⟩, List.mem_of_getElem? (i := 68) (by decide +kernel), List.mem_of_getElem? (i := 441) (by decide +kernel), List.mem_of_getElem? (i := 442) (by decide +kernel)⟩
theorem lw_p6 : lw_okq (⟨"ShaftLine$Reader", "readBearing", "()Z"⟩, 6) := ⟨⟨by decide +kernel, by decide +kernel⟩, List.mem_of_getElem? (i := 68) (by decide +kernel), List.mem_of_getElem? (i := 445) (by decide +kernel), List.mem_of_getElem? (i := 446) (by decide +kernel)⟩
theorem lw_p7 : lw_okq (⟨"ShaftLine$Reader", "readNumber", "()I"⟩, 6) := ⟨⟨by decide +kernel, by decide +kernel⟩, List.mem_of_getElem? (i := 68) (by decide +kernel), List.mem_of_getElem? (i := 449) (by decide +kernel), List.mem_of_getElem? (i := 450) (by decide +kernel)⟩
theorem lw_p8 : lw_okq (⟨"ShaftLine$Reader", "isDigit", "()Z"⟩, 6) := ⟨⟨by decide +kernel, by decide +kernel⟩, List.mem_of_getElem? (i := 68) (by decide +kernel), List.mem_of_getElem? (i := 453) (by decide +kernel), List.mem_of_getElem? (i := 454) (by decide +kernel)⟩
theorem lw_p9 : lw_okq (⟨"ShaftLine$Reader", "fail", "(I)Z"⟩, 6) := ⟨⟨by decide +kernel, by decide +kernel⟩, List.mem_of_getElem? (i := 68) (by decide +kernel), List.mem_of_getElem? (i := 457) (by decide +kernel), List.mem_of_getElem? (i := 458) (by decide +kernel)⟩
theorem lw_p10 : lw_okq (⟨"ShaftLine$Reader", "steps", "(C)Z"⟩, 6) := ⟨⟨by decide +kernel, by decide +kernel⟩, List.mem_of_getElem? (i := 68) (by decide +kernel), List.mem_of_getElem? (i := 465) (by decide +kernel), List.mem_of_getElem? (i := 466) (by decide +kernel)⟩
theorem lw_p11 : lw_okq (⟨"ShaftLine$Reader", "readWeight", "()Z"⟩, 6) := ⟨⟨by decide +kernel, by decide +kernel⟩, List.mem_of_getElem? (i := 68) (by decide +kernel), List.mem_of_getElem? (i := 470) (by decide +kernel), List.mem_of_getElem? (i := 471) (by decide +kernel)⟩
theorem lw_p12 : lw_okq (⟨"ShaftLine$Reader", "readStiffness", "()Z"⟩, 6) := ⟨⟨by decide +kernel, by decide +kernel⟩, List.mem_of_getElem? (i := 68) (by decide +kernel), List.mem_of_getElem? (i := 474) (by decide +kernel), List.mem_of_getElem? (i := 475) (by decide +kernel)⟩
theorem lw_p13 : lw_okq (⟨"ShaftLine", "comesToRest", "(I)Z"⟩, 17) := ⟨⟨by decide +kernel, by decide +kernel⟩, List.mem_of_getElem? (i := 14) (by decide +kernel), List.mem_of_getElem? (i := 512) (by decide +kernel), List.mem_of_getElem? (i := 513) (by decide +kernel)⟩
theorem lw_p14 : lw_okq (⟨"ShaftLine", "putBearings", "(III)V"⟩, 17) := ⟨⟨by decide +kernel, by decide +kernel⟩, List.mem_of_getElem? (i := 14) (by decide +kernel), List.mem_of_getElem? (i := 530) (by decide +kernel), List.mem_of_getElem? (i := 531) (by decide +kernel)⟩
theorem lw_p15 : lw_okq (⟨"ShaftLine", "standing", "(II)I"⟩, 17) := ⟨⟨by decide +kernel, by decide +kernel⟩, List.mem_of_getElem? (i := 14) (by decide +kernel), List.mem_of_getElem? (i := 534) (by decide +kernel), List.mem_of_getElem? (i := 535) (by decide +kernel)⟩
def lw_privs_1 : List (MethodName × Nat) := [(⟨"ShaftLine", "forgetAnswers", "()V"⟩, 17), (⟨"ShaftLine$Line", "shift", "(II)V"⟩, 7), (⟨"ShaftLine", "isBearing", "(I)Z"⟩, 17), (⟨"ShaftLine$Reader", "readClause", "()Z"⟩, 6), (⟨"ShaftLine$Reader", "skipBlanks", "()V"⟩, 6), (⟨"ShaftLine$Reader", "next", "()I"⟩, 6), (⟨"ShaftLine$Reader", "readBearing", "()Z"⟩, 6), (⟨"ShaftLine$Reader", "readNumber", "()I"⟩, 6), (⟨"ShaftLine$Reader", "isDigit", "()Z"⟩, 6), (⟨"ShaftLine$Reader", "fail", "(I)Z"⟩, 6), (⟨"ShaftLine$Reader", "steps", "(C)Z"⟩, 6), (⟨"ShaftLine$Reader", "readWeight", "()Z"⟩, 6), (⟨"ShaftLine$Reader", "readStiffness", "()Z"⟩, 6), (⟨"ShaftLine", "comesToRest", "(I)Z"⟩, 17), (⟨"ShaftLine", "putBearings", "(III)V"⟩, 17), (⟨"ShaftLine", "standing", "(II)I"⟩, 17)]
theorem lw_r1 : ∀ q ∈ lw_privs_1, lw_okq q := List.forall_mem_cons.mpr ⟨lw_p0, List.forall_mem_cons.mpr ⟨lw_p1, List.forall_mem_cons.mpr ⟨lw_p2, List.forall_mem_cons.mpr ⟨lw_p3, List.forall_mem_cons.mpr ⟨lw_p4, List.forall_mem_cons.mpr ⟨lw_p5, List.forall_mem_cons.mpr ⟨lw_p6, List.forall_mem_cons.mpr ⟨lw_p7, List.forall_mem_cons.mpr ⟨lw_p8, List.forall_mem_cons.mpr ⟨lw_p9, List.forall_mem_cons.mpr ⟨lw_p10, List.forall_mem_cons.mpr ⟨lw_p11, List.forall_mem_cons.mpr ⟨lw_p12, List.forall_mem_cons.mpr ⟨lw_p13, List.forall_mem_cons.mpr ⟨lw_p14, List.forall_mem_cons.mpr ⟨lw_p15, fun _ h => absurd h List.not_mem_nil⟩⟩⟩⟩⟩⟩⟩⟩⟩⟩⟩⟩⟩⟩⟩⟩
theorem lw_p16 : lw_okq (⟨"ShaftLine$Beam", "measure", "()V"⟩, 17) := ⟨⟨by decide +kernel, by decide +kernel⟩, List.mem_of_getElem? (i := 99) (by decide +kernel), List.mem_of_getElem? (i := 564) (by decide +kernel), List.mem_of_getElem? (i := 565) (by decide +kernel)⟩
theorem lw_p17 : lw_okq (⟨"ShaftLine$Beam", "firstPush", "()J"⟩, 17) := ⟨⟨by decide +kernel, by decide +kernel⟩, List.mem_of_getElem? (i := 99) (by decide +kernel), List.mem_of_getElem? (i := 569) (by decide +kernel), List.mem_of_getElem? (i := 570) (by decide +kernel)⟩
theorem lw_p18 : lw_okq (⟨"ShaftLine$Beam", "secondPush", "()J"⟩, 17) := ⟨⟨by decide +kernel, by decide +kernel⟩, List.mem_of_getElem? (i := 99) (by decide +kernel), List.mem_of_getElem? (i := 576) (by decide +kernel), List.mem_of_getElem? (i := 577) (by decide +kernel)⟩
theorem lw_p19 : lw_okq (⟨"ShaftLine$Beam", "findDeterminants", "()V"⟩, 17) := ⟨⟨by decide +kernel, by decide +kernel⟩, List.mem_of_getElem? (i := 99) (by decide +kernel), List.mem_of_getElem? (i := 580) (by decide +kernel), List.mem_of_getElem? (i := 581) (by decide +kernel)⟩
theorem lw_p20 : lw_okq (⟨"ShaftLine$Beam", "findBends", "()V"⟩, 17) := ⟨⟨by decide +kernel, by decide +kernel⟩, List.mem_of_getElem? (i := 99) (by decide +kernel), List.mem_of_getElem? (i := 584) (by decide +kernel), List.mem_of_getElem? (i := 585) (by decide +kernel)⟩
theorem lw_p21 : lw_okq (⟨"ShaftLine$Beam", "findPushes", "()V"⟩, 17) := ⟨⟨by decide +kernel, by decide +kernel⟩, List.mem_of_getElem? (i := 99) (by decide +kernel), List.mem_of_getElem? (i := 591) (by decide +kernel), List.mem_of_getElem? (i := 592) (by decide +kernel)⟩
theorem lw_p22 : lw_okq (⟨"ShaftLine$Rest", "holds", "()Z"⟩, 5) := ⟨⟨by decide +kernel, by decide +kernel⟩, List.mem_of_getElem? (i := 164) (by decide +kernel), List.mem_of_getElem? (i := 595) (by decide +kernel), List.mem_of_getElem? (i := 596) (by decide +kernel)⟩
theorem lw_p23 : lw_okq (⟨"ShaftLine$Beam", "firstLevel", "()J"⟩, 17) := ⟨⟨by decide +kernel, by decide +kernel⟩, List.mem_of_getElem? (i := 99) (by decide +kernel), List.mem_of_getElem? (i := 611) (by decide +kernel), List.mem_of_getElem? (i := 612) (by decide +kernel)⟩
theorem lw_p24 : lw_okq (⟨"ShaftLine$Beam", "secondLevel", "()J"⟩, 17) := ⟨⟨by decide +kernel, by decide +kernel⟩, List.mem_of_getElem? (i := 99) (by decide +kernel), List.mem_of_getElem? (i := 615) (by decide +kernel), List.mem_of_getElem? (i := 616) (by decide +kernel)⟩
theorem lw_p25 : lw_okq (⟨"ShaftLine$Beam", "bulge", "(I)J"⟩, 17) := ⟨⟨by decide +kernel, by decide +kernel⟩, List.mem_of_getElem? (i := 99) (by decide +kernel), List.mem_of_getElem? (i := 619) (by decide +kernel), List.mem_of_getElem? (i := 620) (by decide +kernel)⟩
theorem lw_p26 : lw_okq (⟨"ShaftLine", "goesThrough", "(LShaftLine$Beam;III)Z"⟩, 17) := ⟨⟨by decide +kernel, by decide +kernel⟩, List.mem_of_getElem? (i := 14) (by decide +kernel), List.mem_of_getElem? (i := 657) (by decide +kernel), List.mem_of_getElem? (i := 658) (by decide +kernel)⟩
theorem lw_p27 : lw_okq (⟨"ShaftLine", "isWithinBounds", "()Z"⟩, 17) := ⟨⟨by decide +kernel, by decide +kernel⟩, List.mem_of_getElem? (i := 14) (by decide +kernel), List.mem_of_getElem? (i := 696) (by decide +kernel), List.mem_of_getElem? (i := 697) (by decide +kernel)⟩
theorem lw_p28 : lw_okq (⟨"ShaftLine", "makePlan", "(I)V"⟩, 17) := ⟨⟨by decide +kernel, by decide +kernel⟩, List.mem_of_getElem? (i := 14) (by decide +kernel), List.mem_of_getElem? (i := 704) (by decide +kernel), List.mem_of_getElem? (i := 705) (by decide +kernel)⟩
theorem lw_p29 : lw_okq (⟨"ShaftLine$Planner", "keepMargins", "(LShaftLine$Rest;I[JI)V"⟩, 15) := ⟨⟨by decide +kernel, by decide +kernel⟩, List.mem_of_getElem? (i := 190) (by decide +kernel), List.mem_of_getElem? (i := 724) (by decide +kernel), List.mem_of_getElem? (i := 725) (by decide +kernel)⟩
theorem lw_p30 : lw_okq (⟨"ShaftLine$Planner", "takeMoves", "(I)Z"⟩, 15) := ⟨⟨by decide +kernel, by decide +kernel⟩, List.mem_of_getElem? (i := 190) (by decide +kernel), List.mem_of_getElem? (i := 741) (by decide +kernel), List.mem_of_getElem? (i := 742) (by decide +kernel)⟩
theorem lw_p31 : lw_okq (⟨"ShaftLine$Planner", "fitsInAll", "(I)Z"⟩, 15) := ⟨⟨by decide +kernel, by decide +kernel⟩, List.mem_of_getElem? (i := 190) (by decide +kernel), List.mem_of_getElem? (i := 748) (by decide +kernel), List.mem_of_getElem? (i := 749) (by decide +kernel)⟩
def lw_privs_2 : List (MethodName × Nat) := [(⟨"ShaftLine$Beam", "measure", "()V"⟩, 17), (⟨"ShaftLine$Beam", "firstPush", "()J"⟩, 17), (⟨"ShaftLine$Beam", "secondPush", "()J"⟩, 17), (⟨"ShaftLine$Beam", "findDeterminants", "()V"⟩, 17), (⟨"ShaftLine$Beam", "findBends", "()V"⟩, 17), (⟨"ShaftLine$Beam", "findPushes", "()V"⟩, 17), (⟨"ShaftLine$Rest", "holds", "()Z"⟩, 5), (⟨"ShaftLine$Beam", "firstLevel", "()J"⟩, 17), (⟨"ShaftLine$Beam", "secondLevel", "()J"⟩, 17), (⟨"ShaftLine$Beam", "bulge", "(I)J"⟩, 17), (⟨"ShaftLine", "goesThrough", "(LShaftLine$Beam;III)Z"⟩, 17), (⟨"ShaftLine", "isWithinBounds", "()Z"⟩, 17), (⟨"ShaftLine", "makePlan", "(I)V"⟩, 17), (⟨"ShaftLine$Planner", "keepMargins", "(LShaftLine$Rest;I[JI)V"⟩, 15), (⟨"ShaftLine$Planner", "takeMoves", "(I)Z"⟩, 15), (⟨"ShaftLine$Planner", "fitsInAll", "(I)Z"⟩, 15)]
theorem lw_r2 : ∀ q ∈ lw_privs_2, lw_okq q := List.forall_mem_cons.mpr ⟨lw_p16, List.forall_mem_cons.mpr ⟨lw_p17, List.forall_mem_cons.mpr ⟨lw_p18, List.forall_mem_cons.mpr ⟨lw_p19, List.forall_mem_cons.mpr ⟨lw_p20, List.forall_mem_cons.mpr ⟨lw_p21, List.forall_mem_cons.mpr ⟨lw_p22, List.forall_mem_cons.mpr ⟨lw_p23, List.forall_mem_cons.mpr ⟨lw_p24, List.forall_mem_cons.mpr ⟨lw_p25, List.forall_mem_cons.mpr ⟨lw_p26, List.forall_mem_cons.mpr ⟨lw_p27, List.forall_mem_cons.mpr ⟨lw_p28, List.forall_mem_cons.mpr ⟨lw_p29, List.forall_mem_cons.mpr ⟨lw_p30, List.forall_mem_cons.mpr ⟨lw_p31, fun _ h => absurd h List.not_mem_nil⟩⟩⟩⟩⟩⟩⟩⟩⟩⟩⟩⟩⟩⟩⟩⟩
theorem lw_p32 : lw_okq (⟨"ShaftLine$Planner", "fitsIn", "(I)Z"⟩, 15) := ⟨⟨by decide +kernel, by decide +kernel⟩, List.mem_of_getElem? (i := 190) (by decide +kernel), List.mem_of_getElem? (i := 752) (by decide +kernel), List.mem_of_getElem? (i := 753) (by decide +kernel)⟩
theorem lw_p33 : lw_okq (⟨"ShaftLine$Planner", "holds", "(II)Z"⟩, 15) := ⟨⟨by decide +kernel, by decide +kernel⟩, List.mem_of_getElem? (i := 190) (by decide +kernel), List.mem_of_getElem? (i := 756) (by decide +kernel), List.mem_of_getElem? (i := 757) (by decide +kernel)⟩
theorem lw_p34 : lw_okq (⟨"ShaftLine$Planner", "isWithinBounds", "(I)Z"⟩, 15) := ⟨⟨by decide +kernel, by decide +kernel⟩, List.mem_of_getElem? (i := 190) (by decide +kernel), List.mem_of_getElem? (i := 760) (by decide +kernel), List.mem_of_getElem? (i := 761) (by decide +kernel)⟩
theorem lw_p35 : lw_okq (⟨"ShaftLine$Planner", "keepMoves", "()V"⟩, 15) := ⟨⟨by decide +kernel, by decide +kernel⟩, List.mem_of_getElem? (i := 190) (by decide +kernel), List.mem_of_getElem? (i := 764) (by decide +kernel), List.mem_of_getElem? (i := 765) (by decide +kernel)⟩
theorem lw_p36 : lw_okq (⟨"ShaftLineModel", "bearingAt", "(I)I"⟩, 44) := ⟨⟨by decide +kernel, by decide +kernel⟩, List.mem_of_getElem? (i := 847) (by decide +kernel), List.mem_of_getElem? (i := 999) (by decide +kernel), List.mem_of_getElem? (i := 1000) (by decide +kernel)⟩
theorem lw_p37 : lw_okq (⟨"ShaftLineModel", "puts", "(II)I"⟩, 44) := ⟨⟨by decide +kernel, by decide +kernel⟩, List.mem_of_getElem? (i := 847) (by decide +kernel), List.mem_of_getElem? (i := 1003) (by decide +kernel), List.mem_of_getElem? (i := 1004) (by decide +kernel)⟩
theorem lw_p38 : lw_okq (⟨"ShaftLineModel", "isBearing", "(I)Z"⟩, 44) := ⟨⟨by decide +kernel, by decide +kernel⟩, List.mem_of_getElem? (i := 847) (by decide +kernel), List.mem_of_getElem? (i := 1011) (by decide +kernel), List.mem_of_getElem? (i := 1012) (by decide +kernel)⟩
theorem lw_p39 : lw_okq (⟨"ShaftLineModel", "finds", "(IIII)I"⟩, 44) := ⟨⟨by decide +kernel, by decide +kernel⟩, List.mem_of_getElem? (i := 847) (by decide +kernel), List.mem_of_getElem? (i := 1049) (by decide +kernel), List.mem_of_getElem? (i := 1050) (by decide +kernel)⟩
theorem lw_p40 : lw_okq (⟨"ShaftLineModel", "clause", "()V"⟩, 44) := ⟨⟨by decide +kernel, by decide +kernel⟩, List.mem_of_getElem? (i := 847) (by decide +kernel), List.mem_of_getElem? (i := 1065) (by decide +kernel), List.mem_of_getElem? (i := 1066) (by decide +kernel)⟩
theorem lw_p41 : lw_okq (⟨"ShaftLineModel", "next", "()I"⟩, 44) := ⟨⟨by decide +kernel, by decide +kernel⟩, List.mem_of_getElem? (i := 847) (by decide +kernel), List.mem_of_getElem? (i := 1069) (by decide +kernel), List.mem_of_getElem? (i := 1070) (by decide +kernel)⟩
theorem lw_p42 : lw_okq (⟨"ShaftLineModel", "number", "(II)I"⟩, 44) := ⟨⟨by decide +kernel, by decide +kernel⟩, List.mem_of_getElem? (i := 847) (by decide +kernel), List.mem_of_getElem? (i := 1073) (by decide +kernel), List.mem_of_getElem? (i := 1074) (by decide +kernel)⟩
theorem lw_p43 : lw_okq (⟨"ShaftLineModel", "figure", "(Z)I"⟩, 44) := ⟨⟨by decide +kernel, by decide +kernel⟩, List.mem_of_getElem? (i := 847) (by decide +kernel), List.mem_of_getElem? (i := 1079) (by decide +kernel), List.mem_of_getElem? (i := 1080) (by decide +kernel)⟩
theorem lw_p44 : lw_okq (⟨"ShaftLineModel", "allWeights", "()I"⟩, 44) := ⟨⟨by decide +kernel, by decide +kernel⟩, List.mem_of_getElem? (i := 847) (by decide +kernel), List.mem_of_getElem? (i := 1092) (by decide +kernel), List.mem_of_getElem? (i := 1093) (by decide +kernel)⟩
theorem lw_p45 : lw_okq (⟨"ShaftLineModel", "stands", "(III)V"⟩, 44) := ⟨⟨by decide +kernel, by decide +kernel⟩, List.mem_of_getElem? (i := 847) (by decide +kernel), List.mem_of_getElem? (i := 1101) (by decide +kernel), List.mem_of_getElem? (i := 1102) (by decide +kernel)⟩
theorem lw_p46 : lw_okq (⟨"ShaftLineModel", "rests", "()I"⟩, 44) := ⟨⟨by decide +kernel, by decide +kernel⟩, List.mem_of_getElem? (i := 847) (by decide +kernel), List.mem_of_getElem? (i := 1105) (by decide +kernel), List.mem_of_getElem? (i := 1106) (by decide +kernel)⟩
theorem lw_p47 : lw_okq (⟨"ShaftLineModel", "lies", "(I)Z"⟩, 44) := ⟨⟨by decide +kernel, by decide +kernel⟩, List.mem_of_getElem? (i := 847) (by decide +kernel), List.mem_of_getElem? (i := 1115) (by decide +kernel), List.mem_of_getElem? (i := 1116) (by decide +kernel)⟩
def lw_privs_3 : List (MethodName × Nat) := [(⟨"ShaftLine$Planner", "fitsIn", "(I)Z"⟩, 15), (⟨"ShaftLine$Planner", "holds", "(II)Z"⟩, 15), (⟨"ShaftLine$Planner", "isWithinBounds", "(I)Z"⟩, 15), (⟨"ShaftLine$Planner", "keepMoves", "()V"⟩, 15), (⟨"ShaftLineModel", "bearingAt", "(I)I"⟩, 44), (⟨"ShaftLineModel", "puts", "(II)I"⟩, 44), (⟨"ShaftLineModel", "isBearing", "(I)Z"⟩, 44), (⟨"ShaftLineModel", "finds", "(IIII)I"⟩, 44), (⟨"ShaftLineModel", "clause", "()V"⟩, 44), (⟨"ShaftLineModel", "next", "()I"⟩, 44), (⟨"ShaftLineModel", "number", "(II)I"⟩, 44), (⟨"ShaftLineModel", "figure", "(Z)I"⟩, 44), (⟨"ShaftLineModel", "allWeights", "()I"⟩, 44), (⟨"ShaftLineModel", "stands", "(III)V"⟩, 44), (⟨"ShaftLineModel", "rests", "()I"⟩, 44), (⟨"ShaftLineModel", "lies", "(I)Z"⟩, 44)]
theorem lw_r3 : ∀ q ∈ lw_privs_3, lw_okq q := List.forall_mem_cons.mpr ⟨lw_p32, List.forall_mem_cons.mpr ⟨lw_p33, List.forall_mem_cons.mpr ⟨lw_p34, List.forall_mem_cons.mpr ⟨lw_p35, List.forall_mem_cons.mpr ⟨lw_p36, List.forall_mem_cons.mpr ⟨lw_p37, List.forall_mem_cons.mpr ⟨lw_p38, List.forall_mem_cons.mpr ⟨lw_p39, List.forall_mem_cons.mpr ⟨lw_p40, List.forall_mem_cons.mpr ⟨lw_p41, List.forall_mem_cons.mpr ⟨lw_p42, List.forall_mem_cons.mpr ⟨lw_p43, List.forall_mem_cons.mpr ⟨lw_p44, List.forall_mem_cons.mpr ⟨lw_p45, List.forall_mem_cons.mpr ⟨lw_p46, List.forall_mem_cons.mpr ⟨lw_p47, fun _ h => absurd h List.not_mem_nil⟩⟩⟩⟩⟩⟩⟩⟩⟩⟩⟩⟩⟩⟩⟩⟩
theorem lw_p48 : lw_okq (⟨"ShaftLineModel", "chooses", "(I)V"⟩, 44) := ⟨⟨by decide +kernel, by decide +kernel⟩, List.mem_of_getElem? (i := 847) (by decide +kernel), List.mem_of_getElem? (i := 1119) (by decide +kernel), List.mem_of_getElem? (i := 1120) (by decide +kernel)⟩
theorem lw_p49 : lw_okq (⟨"ShaftLineModel", "goes", "()V"⟩, 44) := ⟨⟨by decide +kernel, by decide +kernel⟩, List.mem_of_getElem? (i := 847) (by decide +kernel), List.mem_of_getElem? (i := 1123) (by decide +kernel), List.mem_of_getElem? (i := 1124) (by decide +kernel)⟩
theorem lw_p50 : lw_okq (⟨"ShaftLineModel", "bends", "()V"⟩, 44) := ⟨⟨by decide +kernel, by decide +kernel⟩, List.mem_of_getElem? (i := 847) (by decide +kernel), List.mem_of_getElem? (i := 1127) (by decide +kernel), List.mem_of_getElem? (i := 1128) (by decide +kernel)⟩
theorem lw_p51 : lw_okq (⟨"ShaftLineModel", "hangs", "(Z)J"⟩, 44) := ⟨⟨by decide +kernel, by decide +kernel⟩, List.mem_of_getElem? (i := 847) (by decide +kernel), List.mem_of_getElem? (i := 1131) (by decide +kernel), List.mem_of_getElem? (i := 1132) (by decide +kernel)⟩
theorem lw_p52 : lw_okq (⟨"ShaftLineModel", "diagonal", "(I)J"⟩, 44) := ⟨⟨by decide +kernel, by decide +kernel⟩, List.mem_of_getElem? (i := 847) (by decide +kernel), List.mem_of_getElem? (i := 1135) (by decide +kernel), List.mem_of_getElem? (i := 1136) (by decide +kernel)⟩
theorem lw_p53 : lw_okq (⟨"ShaftLineModel", "side", "(I)J"⟩, 44) := ⟨⟨by decide +kernel, by decide +kernel⟩, List.mem_of_getElem? (i := 847) (by decide +kernel), List.mem_of_getElem? (i := 1139) (by decide +kernel), List.mem_of_getElem? (i := 1140) (by decide +kernel)⟩
theorem lw_p54 : lw_okq (⟨"ShaftLineModel", "right", "(I)J"⟩, 44) := ⟨⟨by decide +kernel, by decide +kernel⟩, List.mem_of_getElem? (i := 847) (by decide +kernel), List.mem_of_getElem? (i := 1143) (by decide +kernel), List.mem_of_getElem? (i := 1144) (by decide +kernel)⟩
theorem lw_p55 : lw_okq (⟨"ShaftLineModel", "makes", "(JJ)V"⟩, 44) := ⟨⟨by decide +kernel, by decide +kernel⟩, List.mem_of_getElem? (i := 847) (by decide +kernel), List.mem_of_getElem? (i := 1149) (by decide +kernel), List.mem_of_getElem? (i := 1150) (by decide +kernel)⟩
theorem lw_p56 : lw_okq (⟨"ShaftLineModel", "adds", "(JJ)V"⟩, 44) := ⟨⟨by decide +kernel, by decide +kernel⟩, List.mem_of_getElem? (i := 847) (by decide +kernel), List.mem_of_getElem? (i := 1156) (by decide +kernel), List.mem_of_getElem? (i := 1157) (by decide +kernel)⟩
theorem lw_p57 : lw_okq (⟨"ShaftLineModel", "pushes", "(IZJ)V"⟩, 44) := ⟨⟨by decide +kernel, by decide +kernel⟩, List.mem_of_getElem? (i := 847) (by decide +kernel), List.mem_of_getElem? (i := 1160) (by decide +kernel), List.mem_of_getElem? (i := 1161) (by decide +kernel)⟩
theorem lw_p58 : lw_okq (⟨"ShaftLineModel", "height", "(I)V"⟩, 44) := ⟨⟨by decide +kernel, by decide +kernel⟩, List.mem_of_getElem? (i := 847) (by decide +kernel), List.mem_of_getElem? (i := 1165) (by decide +kernel), List.mem_of_getElem? (i := 1166) (by decide +kernel)⟩
theorem lw_p59 : lw_okq (⟨"ShaftLineModel", "tilts", "()V"⟩, 44) := ⟨⟨by decide +kernel, by decide +kernel⟩, List.mem_of_getElem? (i := 847) (by decide +kernel), List.mem_of_getElem? (i := 1169) (by decide +kernel), List.mem_of_getElem? (i := 1170) (by decide +kernel)⟩
theorem lw_p60 : lw_okq (⟨"ShaftLineModel", "sums", "(IZ)V"⟩, 44) := ⟨⟨by decide +kernel, by decide +kernel⟩, List.mem_of_getElem? (i := 847) (by decide +kernel), List.mem_of_getElem? (i := 1173) (by decide +kernel), List.mem_of_getElem? (i := 1174) (by decide +kernel)⟩
theorem lw_p61 : lw_okq (⟨"ShaftLineModel", "loadOf", "(II)V"⟩, 44) := ⟨⟨by decide +kernel, by decide +kernel⟩, List.mem_of_getElem? (i := 847) (by decide +kernel), List.mem_of_getElem? (i := 1181) (by decide +kernel), List.mem_of_getElem? (i := 1182) (by decide +kernel)⟩
theorem lw_p62 : lw_okq (⟨"ShaftLineModel", "part", "(I)J"⟩, 44) := ⟨⟨by decide +kernel, by decide +kernel⟩, List.mem_of_getElem? (i := 847) (by decide +kernel), List.mem_of_getElem? (i := 1185) (by decide +kernel), List.mem_of_getElem? (i := 1186) (by decide +kernel)⟩
theorem lw_p63 : lw_okq (⟨"ShaftLineModel", "isPart", "(IIZ)Z"⟩, 44) := ⟨⟨by decide +kernel, by decide +kernel⟩, List.mem_of_getElem? (i := 847) (by decide +kernel), List.mem_of_getElem? (i := 1209) (by decide +kernel), List.mem_of_getElem? (i := 1210) (by decide +kernel)⟩
def lw_privs_4 : List (MethodName × Nat) := [(⟨"ShaftLineModel", "chooses", "(I)V"⟩, 44), (⟨"ShaftLineModel", "goes", "()V"⟩, 44), (⟨"ShaftLineModel", "bends", "()V"⟩, 44), (⟨"ShaftLineModel", "hangs", "(Z)J"⟩, 44), (⟨"ShaftLineModel", "diagonal", "(I)J"⟩, 44), (⟨"ShaftLineModel", "side", "(I)J"⟩, 44), (⟨"ShaftLineModel", "right", "(I)J"⟩, 44), (⟨"ShaftLineModel", "makes", "(JJ)V"⟩, 44), (⟨"ShaftLineModel", "adds", "(JJ)V"⟩, 44), (⟨"ShaftLineModel", "pushes", "(IZJ)V"⟩, 44), (⟨"ShaftLineModel", "height", "(I)V"⟩, 44), (⟨"ShaftLineModel", "tilts", "()V"⟩, 44), (⟨"ShaftLineModel", "sums", "(IZ)V"⟩, 44), (⟨"ShaftLineModel", "loadOf", "(II)V"⟩, 44), (⟨"ShaftLineModel", "part", "(I)J"⟩, 44), (⟨"ShaftLineModel", "isPart", "(IIZ)Z"⟩, 44)]
theorem lw_r4 : ∀ q ∈ lw_privs_4, lw_okq q := List.forall_mem_cons.mpr ⟨lw_p48, List.forall_mem_cons.mpr ⟨lw_p49, List.forall_mem_cons.mpr ⟨lw_p50, List.forall_mem_cons.mpr ⟨lw_p51, List.forall_mem_cons.mpr ⟨lw_p52, List.forall_mem_cons.mpr ⟨lw_p53, List.forall_mem_cons.mpr ⟨lw_p54, List.forall_mem_cons.mpr ⟨lw_p55, List.forall_mem_cons.mpr ⟨lw_p56, List.forall_mem_cons.mpr ⟨lw_p57, List.forall_mem_cons.mpr ⟨lw_p58, List.forall_mem_cons.mpr ⟨lw_p59, List.forall_mem_cons.mpr ⟨lw_p60, List.forall_mem_cons.mpr ⟨lw_p61, List.forall_mem_cons.mpr ⟨lw_p62, List.forall_mem_cons.mpr ⟨lw_p63, fun _ h => absurd h List.not_mem_nil⟩⟩⟩⟩⟩⟩⟩⟩⟩⟩⟩⟩⟩⟩⟩⟩
theorem lw_p64 : lw_okq (⟨"ShaftLineModel", "endOf", "(II)V"⟩, 44) := ⟨⟨by decide +kernel, by decide +kernel⟩, List.mem_of_getElem? (i := 847) (by decide +kernel), List.mem_of_getElem? (i := 1213) (by decide +kernel), List.mem_of_getElem? (i := 1214) (by decide +kernel)⟩
theorem lw_p65 : lw_okq (⟨"ShaftLineModel", "slope", "(I)V"⟩, 44) := ⟨⟨by decide +kernel, by decide +kernel⟩, List.mem_of_getElem? (i := 847) (by decide +kernel), List.mem_of_getElem? (i := 1217) (by decide +kernel), List.mem_of_getElem? (i := 1218) (by decide +kernel)⟩
theorem lw_p66 : lw_okq (⟨"ShaftLineModel", "isFit", "(I)Z"⟩, 44) := ⟨⟨by decide +kernel, by decide +kernel⟩, List.mem_of_getElem? (i := 847) (by decide +kernel), List.mem_of_getElem? (i := 1238) (by decide +kernel), List.mem_of_getElem? (i := 1239) (by decide +kernel)⟩
theorem lw_p67 : lw_okq (⟨"ShaftLineModel", "plans", "(I)I"⟩, 44) := ⟨⟨by decide +kernel, by decide +kernel⟩, List.mem_of_getElem? (i := 847) (by decide +kernel), List.mem_of_getElem? (i := 1246) (by decide +kernel), List.mem_of_getElem? (i := 1247) (by decide +kernel)⟩
theorem lw_p68 : lw_okq (⟨"ShaftLineModel", "lacks", "(Z)I"⟩, 44) := ⟨⟨by decide +kernel, by decide +kernel⟩, List.mem_of_getElem? (i := 847) (by decide +kernel), List.mem_of_getElem? (i := 1262) (by decide +kernel), List.mem_of_getElem? (i := 1263) (by decide +kernel)⟩
theorem lw_p69 : lw_okq (⟨"ShaftLineModel", "isWrong", "(I)Z"⟩, 44) := ⟨⟨by decide +kernel, by decide +kernel⟩, List.mem_of_getElem? (i := 847) (by decide +kernel), List.mem_of_getElem? (i := 1266) (by decide +kernel), List.mem_of_getElem? (i := 1267) (by decide +kernel)⟩
def lw_privs_5 : List (MethodName × Nat) := [(⟨"ShaftLineModel", "endOf", "(II)V"⟩, 44), (⟨"ShaftLineModel", "slope", "(I)V"⟩, 44), (⟨"ShaftLineModel", "isFit", "(I)Z"⟩, 44), (⟨"ShaftLineModel", "plans", "(I)I"⟩, 44), (⟨"ShaftLineModel", "lacks", "(Z)I"⟩, 44), (⟨"ShaftLineModel", "isWrong", "(I)Z"⟩, 44)]
theorem lw_r5 : ∀ q ∈ lw_privs_5, lw_okq q := List.forall_mem_cons.mpr ⟨lw_p64, List.forall_mem_cons.mpr ⟨lw_p65, List.forall_mem_cons.mpr ⟨lw_p66, List.forall_mem_cons.mpr ⟨lw_p67, List.forall_mem_cons.mpr ⟨lw_p68, List.forall_mem_cons.mpr ⟨lw_p69, fun _ h => absurd h List.not_mem_nil⟩⟩⟩⟩⟩⟩
def lw_privs : List (MethodName × Nat) := lw_privs_1 ++ (lw_privs_2 ++ (lw_privs_3 ++ (lw_privs_4 ++ (lw_privs_5))))
def lw_tbl : List Cond := k2_sels lw_privs ++ tables_1
theorem lw_privs_ok : ∀ q ∈ lw_privs, lw_okq q := by
  show ∀ q ∈ lw_privs_1 ++ (lw_privs_2 ++ (lw_privs_3 ++ (lw_privs_4 ++ (lw_privs_5)))), lw_okq q
  exact List.forall_mem_append.mpr ⟨lw_r1, List.forall_mem_append.mpr ⟨lw_r2, List.forall_mem_append.mpr ⟨lw_r3, List.forall_mem_append.mpr ⟨lw_r4, lw_r5⟩⟩⟩⟩
end
section
/-- the machine has the class of arrays over arrays of t (my own row: va_mna below asks for it) -/
def va_AOA (t : FieldType) (U : State) : Prop := (Cond.arrayOver (.array t)).before #[] U = true
theorem va_AOA.use {t : FieldType} {A : Array Value} {U : State} (h : va_AOA t U) : (Cond.arrayOver (.array t)).before A U = true := h
theorem px_idx_bare (vm : Vm) (comp : ClassId) : (vm.bare.classes.findIdx? fun (x : Class) => match x.kind with | .array component _ => component == comp | _ => false) = (vm.classes.findIdx? fun (x : Class) => match x.kind with | .array component _ => component == comp | _ => false) := by
  simp only [Vm.bare, Array.findIdx?_map]
  rfl
theorem va_AOA.moved {t : FieldType} {u U : State} (hvm : u.vm.Alike U.vm) (h : va_AOA t u) : va_AOA t U := by
  obtain ⟨comp, c, k, h1, h2, h3, h4, h5⟩ := arrayOverA_spec h
  obtain ⟨k', hk', he⟩ := hvm.2.2 _ _ h3
  have hi : (U.vm.classes.findIdx? fun (x : Class) => match x.kind with | .array component _ => component == comp | _ => false) = some c := by
    rw [← px_idx_bare]
    first | rw [hvm.bare_eq] | rw [← hvm.bare_eq]
    rw [px_idx_bare]
    exact h2
  have hkind : k'.kind = .array comp (.array t) := by rw [he]; exact h4
  have f1 : U.vm.findClass (FieldType.array t).toString = some comp := by rw [hvm.findClass]; exact h1
  have f2 : U.vm.findClass ("[" ++ (FieldType.array t).toString) = some c := by rw [hvm.findClass]; exact h5
  unfold va_AOA Cond.before Cond.holds
  simp only [Cond.value]
  first
    | (rw [f1, Option.bind_some]; refine (congrArg (fun o : Option Nat => (o.bind (fun c => (U.vm.classes[c]?).map fun (k : Class) => match k.kind with | .array _ ty => decide (ty = FieldType.array t) && decide (U.vm.findClass ("[" ++ (FieldType.array t).toString) = some c) | _ => false) == some true)) hi).trans ?_; simp [hk', hkind, f2])
    | simp [f1, hi, hk', hkind, f2]

/-! ===== BEGIN words of one list among another's, by their places ===== -/
theorem goodIn_r {big : List Cond} (ws : List Cond) (ps : List Nat) (hp : ws = ps.filterMap (fun i => big[i]?)) (h : ws.all goodWord = true) : GoodIn big ws := by
  intro w hw
  have h1 := List.all_eq_true.mp h w hw
  rw [hp] at hw
  obtain ⟨i, -, hi⟩ := List.mem_filterMap.mp hw
  have hm : w ∈ big := by first | exact List.mem_of_getElem? hi | exact List.getElem?_mem hi
  exact ⟨hm, good_of_word h1⟩
theorem goodIn_app {big a b : List Cond} (ha : GoodIn big a) (hb : GoodIn big b) : GoodIn big (a ++ b) := fun w h => (List.mem_append.mp h).elim (ha w) (hb w)
theorem goodIn_ca {big a b : List Cond} {c : Cond} (ha : GoodIn big (c :: a)) (hb : GoodIn big b) : GoodIn big (c :: (a ++ b)) := fun w h => (List.mem_cons.mp h).elim (fun e => ha w (List.mem_cons.mpr (Or.inl e))) (fun h => (List.mem_append.mp h).elim (fun h => ha w (List.mem_cons.mpr (Or.inr h))) (hb w))
theorem goodIn_sub {big ws : List Cond} (hm : ∀ w ∈ ws, w ∈ big) (h : ws.all goodWord = true) : GoodIn big ws := fun w hw => ⟨hm w hw, good_of_word (List.all_eq_true.mp h w hw)⟩
/-! ===== END ===== -/

/-! ===== BEGIN new T[n][m]: the outer array a place, the inner ones among the pooled ===== -/
/-- f, but v at every address of l -/
def vr_up {α : Type} (f : Nat → α) (l : List Nat) (v : α) : Nat → α := fun a => if a ∈ l then v else f a
theorem vr_up_in {α : Type} {f : Nat → α} {l : List Nat} {v : α} {a : Nat} (h : a ∈ l) : vr_up f l v a = v := if_pos h
theorem vr_up_ne {α : Type} {f : Nat → α} {l : List Nat} {v : α} {a : Nat} (h : a ∉ l) : vr_up f l v a = f a := if_neg h
theorem vr_rows {L l : List Nat} {f : Nat → va_E} {e : va_E} (h : ∀ a, a ∈ l → a ∉ L) : va_pl L f ++ l.map (fun a => (a, e)) = va_pl (L ++ l) (vr_up f l e) := by
  unfold va_pl
  rw [List.map_append]
  congr 1
  · apply List.map_congr_left
    intro a ha
    rw [vr_up_ne (fun q => h a q ha)]
  · apply List.map_congr_left
    intro a ha
    rw [vr_up_in ha]
theorem vr_lay {X rows : va_W} {x : Nat × va_E} {pl : va_W} {D : va_G} {cl : List vw_C} {H : Heap} (hP : va_P D cl (((X ++ pl) ++ [x]) ++ rows) H) : va_P D cl ((X ++ [x]) ++ (pl ++ rows)) H := by
  rw [List.append_assoc (X ++ pl)] at hP
  have h := va_P.swap hP
  rw [← List.append_assoc X] at h
  have h2 := va_P.swap h
  rw [List.append_assoc (X ++ [x])] at h2
  exact h2
theorem vr_layD {X rows : va_W} {x : Nat × va_E} {pl : va_W} {A : Nat → Prop} (hD : va_D A (((X ++ pl) ++ [x]) ++ rows)) : va_D A ((X ++ [x]) ++ (pl ++ rows)) := by
  rw [List.append_assoc (X ++ pl)] at hD
  have h := va_D.swap hD
  rw [← List.append_assoc X] at h
  have h2 := va_D.swap h
  rw [List.append_assoc (X ++ [x])] at h2
  exact h2
theorem vr_outer (c : ClassId) (N h0 : Nat) : ∀ i : Nat, Jvm.Free.Multi.outerC c N h0 i = arrV c N (fun j => va_rf (if j < i then some (h0 + 1 + j) else none))
  | 0 => by
    show ({ cls := c, slots := Array.replicate N .null, vm := .none } : Cell) = _
    rw [arrV_new]
    refine congrArg (arrV c N) (funext fun j => ?_)
    simp [va_rf]
  | i + 1 => by
    show (Jvm.Free.Multi.outerC c N h0 i).setSlot i (.ref (h0 + 1 + i)) = _
    rw [vr_outer c N h0 i, arrV_store]
    refine congrArg (arrV c N) (funext fun j => ?_)
    by_cases e : j = i
    · subst e
      simp [updV, va_rf]
    · by_cases h : j < i
      · simp [updV, e, h, Nat.lt_succ_of_lt h]
      · simp [updV, e, h, show ¬ j < i + 1 by omega]
section VGM
variable {p : Program} {l : Launch} {e : Env} {R : Room} {s : State} {m : MethodId} {args : Array Value} {below : List Frame} {meth : Method} {c : Code} {H : Heap} {locs : List Loc} {cells slots : Nat} {Q : State → Prop}
variable {cc : ByteArray} {pc : Nat} {ls : Array Slot} {rest : List Value} {D : va_G} {cl : List vw_C} {A : Nat → Prop} {a : Nat} {tys : List (ClassId × FieldType)} {ws : va_W} {H0 : Heap}
theorem va_mna {X : va_W} {L : List Nat} {f : Nat → va_E} {cc : ByteArray} (hexec : p.tables.exec = Jvm.exec) (hb : c.code = cc) {own : String} {index : Nat} {ty : FieldType} {cy : ClassId} (hown : s.vm.findClass own = some m.cls) (hclink : (Cond.classLink own index ("[" ++ (FieldType.array ty).toString)).before args s = true) (hover : va_AOA ty s) (harr : (Cond.arrayClass ty).before args s = true) (hcy : s.vm.findClass (FieldType.array ty).toString = some cy)
    (hK : va_K D cl tys s) (hP : va_P D cl (X ++ va_pl L f) H) (hD : va_D A (X ++ va_pl L f)) (hS : va_S A H0 H locs) (hA : ∀ q, H0.size ≤ q → A q) {n k : Int32} {N' K' : Nat} {z : vp_A} (hn : ¬ n < 0) (hk : ¬ k < 0) (hN : n.toNatClampNeg = N') (hM : k.toNatClampNeg = K')
    (hb1 : N' * 4 ≤ 536870912) (hb2 : K' * componentBytes ty ≤ 536870912) (hb3 : K' ≤ 536870912) (hdf : fits ty (defaultValue ty) = true) (hdd : (defaultValue ty).isDefault = true) (hcells : cells + (1 + N') ≤ R.cells) (hslots : slots + (N' + N' * K') ≤ R.slots) (hz : ∀ c : ClassId, Jvm.Free.Multi.innerC c K' (defaultValue ty) = vp_cell c z) (hdg : decode cc pc = .ok (.multianewarray index 2, 4))
    (kk : ∀ (q : Nat) (r : Nat → Nat) (cA : ClassId) (H1 : Heap), (∀ i j : Nat, i < N' → j < N' → r i = r j → i = j) → (∀ i : Nat, i < N' → r i ∉ L) → va_K D cl (tys ++ [(cA, .array ty)]) s →
      va_P D cl ((X ++ [(q, .inl (cA, N', .inr (.inr (.inr (.inr (fun i => if i < N' then some (r i) else none))))))]) ++ va_pl (L ++ (List.range N').map r) (vr_up f ((List.range N').map r) (.inl (cy, z)))) H1 → va_D A ((X ++ [(q, .inl (cA, N', .inr (.inr (.inr (.inr (fun i => if i < N' then some (r i) else none))))))]) ++ va_pl (L ++ (List.range N').map r) (vr_up f ((List.range N').map r) (.inl (cy, z)))) → va_S A H0 H1 locs →
      W p l e R s m args below meth c H1 locs (cells + 1 + N') (slots + N' + N' * K') Q (F0 m (pc + 4) ls (.ref q :: rest))) : W p l e R s m args below meth c H locs cells slots Q (F0 m pc ls (.int k :: .int n :: rest)) := by
  subst hN
  subst hM
  intro T hT Xs
  obtain ⟨vm₁, cA, comp, -, fA, fC, hO, -, X', step⟩ := Xs.multianewarray2F hexec hown hclink (va_AOA.use hover) harr (g := F0 m pc ls (.int k :: .int n :: rest)) rfl (by rw [hb]; exact hdg) rfl hn hk hb1 hb2 hb3 hdf hdd hcells hslots
  have ec : some cy = some comp := hcy.symm.trans fC
  cases ec
  generalize hF : Jvm.Free.Multi.fill (T.setVm vm₁) cA cy n.toNatClampNeg k.toNatClampNeg (defaultValue ty) n.toNatClampNeg = F at X' step
  have hTh : (T.setVm vm₁).heap = H := hT
  obtain ⟨f1, f2, -, -⟩ := Jvm.Free.Multi.fill_facts (T.setVm vm₁) cA cy n.toNatClampNeg k.toNatClampNeg (defaultValue ty) n.toNatClampNeg
  rw [hF, hTh] at f1 f2
  have hold : ∀ x : Nat, x < H.size → F.heap[x]? = H[x]? := fun x hx => by
    have := Jvm.Free.Multi.fill_old (T.setVm vm₁) cA cy n.toNatClampNeg k.toNatClampNeg (defaultValue ty) (a := x) (by rw [hTh]; exact hx) n.toNatClampNeg
    rw [hF, hTh] at this
    exact this
  have hrow : ∀ j : Nat, j < n.toNatClampNeg → F.heap[H.size + 1 + j]? = some (vp_cell cy z) := fun j hj => by
    have := Jvm.Free.Multi.fill_inner (T.setVm vm₁) cA cy n.toNatClampNeg k.toNatClampNeg (defaultValue ty) n.toNatClampNeg j hj
    rw [hF, hTh, hz] at this
    exact this
  have hout : Jvm.Free.Multi.outerC cA n.toNatClampNeg H.size n.toNatClampNeg = vp_cell cA (n.toNatClampNeg, .inr (.inr (.inr (.inr (fun i => if i < n.toNatClampNeg then some (H.size + 1 + i) else none))))) := by
    rw [vp_cell_q]
    exact vr_outer cA n.toNatClampNeg H.size n.toNatClampNeg
  rw [hout] at f2
  have hlt : ∀ a, a ∈ L → a < H.size := fun a ha => by
    obtain ⟨k9, hk9⟩ := va_pl_get (X := X) (f := f) ha
    exact (hP k9 _ hk9).lt
  have hnl : ∀ i : Nat, i < n.toNatClampNeg → H.size + 1 + i ∉ L := fun i _ h => by
    have := hlt _ h
    omega
  have hnm : ∀ a, a ∈ (List.range n.toNatClampNeg).map (fun i => H.size + 1 + i) → a ∉ L := fun a ha h => by
    obtain ⟨i, -, rfl⟩ := List.mem_map.mp ha
    have := hlt _ h
    omega
  have hP0 : va_P D cl (X ++ va_pl L f) F.heap := hP.kept (fun k9 x hx => hold x.1 ((hP k9 x hx).lt))
  have hP1 : va_P D cl ((X ++ va_pl L f) ++ [(H.size, .inl (cA, n.toNatClampNeg, .inr (.inr (.inr (.inr (fun i => if i < n.toNatClampNeg then some (H.size + 1 + i) else none))))))]) F.heap := hP0.app (fun k9 x hx => by
    have h0 : k9 < 1 := (List.getElem?_eq_some_iff.mp hx).1
    rw [show k9 = 0 by omega] at hx
    cases hx
    exact f2)
  have hP2 : va_P D cl (((X ++ va_pl L f) ++ [(H.size, .inl (cA, n.toNatClampNeg, .inr (.inr (.inr (.inr (fun i => if i < n.toNatClampNeg then some (H.size + 1 + i) else none))))))]) ++ ((List.range n.toNatClampNeg).map (fun i => H.size + 1 + i)).map (fun a => (a, .inl (cy, z)))) F.heap := hP1.app (fun k9 x hx => by
    obtain ⟨a, ha, rfl⟩ := List.mem_map.mp (List.mem_of_getElem? hx)
    obtain ⟨i, hi, rfl⟩ := List.mem_map.mp ha
    exact hrow i (List.mem_range.mp hi))
  have hD2 : va_D A (((X ++ va_pl L f) ++ [(H.size, .inl (cA, n.toNatClampNeg, .inr (.inr (.inr (.inr (fun i => if i < n.toNatClampNeg then some (H.size + 1 + i) else none))))))]) ++ ((List.range n.toNatClampNeg).map (fun i => H.size + 1 + i)).map (fun a => (a, .inl (cy, z)))) := by
    have hD1 := hD.push (e := .inl (cA, n.toNatClampNeg, .inr (.inr (.inr (.inr (fun i => if i < n.toNatClampNeg then some (H.size + 1 + i) else none)))))) hP rfl (hA _ hS.1)
    generalize hW1 : (X ++ va_pl L f) ++ [(H.size, .inl (cA, n.toNatClampNeg, .inr (.inr (.inr (.inr (fun i => if i < n.toNatClampNeg then some (H.size + 1 + i) else none))))))] = W1 at hD1 hP1 ⊢
    have hle : ∀ (k9 : Nat) (x : Nat × va_E), W1[k9]? = some x → x.1 ≤ H.size := fun k9 x hx => by
      rw [← hW1] at hx
      by_cases hl : k9 < (X ++ va_pl L f).length
      · rw [List.getElem?_append_left hl] at hx
        exact Nat.le_of_lt ((hP k9 x hx).lt)
      · rw [List.getElem?_append_right (by omega)] at hx
        have h0 : k9 - (X ++ va_pl L f).length < 1 := (List.getElem?_eq_some_iff.mp hx).1
        rw [show k9 - (X ++ va_pl L f).length = 0 by omega] at hx
        cases hx
        exact Nat.le_refl _
    have hr : ∀ (k9 : Nat) (x : Nat × va_E), (((List.range n.toNatClampNeg).map (fun i => H.size + 1 + i)).map (fun a => ((a, .inl (cy, z)) : Nat × va_E)))[k9]? = some x → x.1 = H.size + 1 + k9 := fun k9 x hx => by
      rw [List.getElem?_map, List.getElem?_map] at hx
      by_cases h9 : k9 < n.toNatClampNeg
      · rw [List.getElem?_range h9] at hx
        cases hx
        rfl
      · have hn0 : (List.range n.toNatClampNeg)[k9]? = none := List.getElem?_eq_none (by rw [List.length_range]; omega)
        rw [hn0] at hx
        cases hx
    refine ⟨fun i j x y hi hj hxy => ?_, fun k9 x hx => ?_⟩
    · by_cases h1 : i < W1.length <;> by_cases h2 : j < W1.length
      · rw [List.getElem?_append_left h1] at hi
        rw [List.getElem?_append_left h2] at hj
        exact hD1.1 i j x y hi hj hxy
      · rw [List.getElem?_append_left h1] at hi
        rw [List.getElem?_append_right (by omega)] at hj
        have := hle _ _ hi
        have := hr _ _ hj
        omega
      · rw [List.getElem?_append_right (by omega)] at hi
        rw [List.getElem?_append_left h2] at hj
        have := hle _ _ hj
        have := hr _ _ hi
        omega
      · rw [List.getElem?_append_right (by omega)] at hi hj
        have := hr _ _ hi
        have := hr _ _ hj
        omega
    · by_cases h1 : k9 < W1.length
      · rw [List.getElem?_append_left h1] at hx
        exact hD1.2 k9 x hx
      · rw [List.getElem?_append_right (by omega)] at hx
        have := hr _ _ hx
        exact hA _ (by have := hS.1; omega)
  have hAr : ArrOfT s cA (.array ty) := fun N9 z9 => by
    obtain ⟨-, k9, hk9, cm9, hkk9⟩ := (hO 0 0 0).1
    exact ⟨(fun q hq => by cases hq), k9, hk9, cm9, hkk9⟩
  have hK2 : va_K D cl (tys ++ [(cA, .array ty)]) s := ⟨hK.1, fun k9 x hx => by
    by_cases hl : k9 < tys.length
    · rw [List.getElem?_append_left hl] at hx
      exact hK.2 k9 x hx
    · rw [List.getElem?_append_right (by omega)] at hx
      have h0 : k9 - tys.length < 1 := (List.getElem?_eq_some_iff.mp hx).1
      rw [show k9 - tys.length = 0 by omega] at hx
      cases hx
      exact ⟨hAr, fA⟩⟩
  obtain ⟨t, a1, b1⟩ := kk H.size (fun i => H.size + 1 + i) cA F.heap (fun i j _ _ h => by have h9 : H.size + 1 + i = H.size + 1 + j := h; omega) hnl hK2 (by rw [← vr_rows hnm]; exact vr_lay hP2) (by rw [← vr_rows hnm]; exact vr_layD hD2) ⟨by rw [f1]; have := hS.1; omega, fun x h1 h2 => (hold x (Nat.lt_of_lt_of_le h1 hS.1)).trans (hS.2.1 x h1 h2), hS.2.2⟩ F rfl X'
  refine ⟨t, step t ?_, b1⟩
  have e : T.heap.size = H.size := by rw [hT]
  rw [e]
  exact a1
end VGM
/-! ===== END ===== -/

def RX0 : String := "ShaftLine$Beam"
def TX0 : u_T := fun k => match k with
  | 0 => ("ShaftLine$Beam", "count", "I", false)
  | 1 => ("ShaftLine$Beam", "place", "[I", true)
  | 2 => ("ShaftLine$Beam", "stand", "[I", true)
  | 3 => ("ShaftLine$Beam", "push", "[J", true)
  | 4 => ("ShaftLine$Beam", "below", "J", false)
  | 5 => ("ShaftLine$Beam", "stiff", "J", false)
  | 6 => ("ShaftLine$Beam", "wide", "J", false)
  | 7 => ("ShaftLine$Beam", "all", "J", false)
  | 8 => ("ShaftLine$Beam", "moment", "J", false)
  | 9 => ("ShaftLine$Beam", "squares", "[J", true)
  | 10 => ("ShaftLine$Beam", "cubes", "[J", true)
  | 11 => ("ShaftLine$Beam", "span", "[J", true)
  | 12 => ("ShaftLine$Beam", "lack", "[J", true)
  | 13 => ("ShaftLine$Beam", "turn", "[J", true)
  | 14 => ("ShaftLine$Beam", "bend", "[J", true)
  | 15 => ("ShaftLine$Beam", "ahead", "[J", true)
  | _ => ("ShaftLine$Beam", "behind", "[J", true)
def tyX0 : Nat → FieldType := fun k => match k with
  | 0 => .int
  | 1 => .array .int
  | 2 => .array .int
  | 3 => .array .long
  | 4 => .long
  | 5 => .long
  | 6 => .long
  | 7 => .long
  | 8 => .long
  | 9 => .array .long
  | 10 => .array .long
  | 11 => .array .long
  | 12 => .array .long
  | 13 => .array .long
  | 14 => .array .long
  | 15 => .array .long
  | _ => .array .long
abbrev wsX00 : List Cond := u_ws RX0 TX0 17
theorem nmX0 : ∀ a, a < 17 → ∀ b, b < 17 → a ≠ b → (TX0 a).2.1 ≠ (TX0 b).2.1 := by decide +kernel
theorem tyX0_ok : ∀ k, k < 17 → parseFieldDescriptor (TX0 k).2.2.1 = some (tyX0 k) := by decide +kernel
abbrev cX0_init : ByteArray := prog_2_method_1_code
def yX0_init : MethodName := ⟨RX0, "<init>", "()V"⟩
abbrev cX0_start : ByteArray := prog_2_method_2_code
def yX0_start : MethodName := ⟨RX0, "start", "(I)V"⟩
abbrev cX0_add : ByteArray := prog_2_method_3_code
def yX0_add : MethodName := ⟨RX0, "add", "(II)V"⟩
abbrev cX0_carry : ByteArray := prog_2_method_4_code
def yX0_carry : MethodName := ⟨RX0, "carry", "([III)V"⟩
abbrev cX0_solve : ByteArray := prog_2_method_5_code
def yX0_solve : MethodName := ⟨RX0, "solve", "()V"⟩
abbrev cX0_measure : ByteArray := prog_2_method_6_code
def yX0_measure : MethodName := ⟨RX0, "measure", "()V"⟩
abbrev cX0_firstPush : ByteArray := prog_2_method_7_code
def yX0_firstPush : MethodName := ⟨RX0, "firstPush", "()J"⟩
abbrev cX0_secondPush : ByteArray := prog_2_method_8_code
def yX0_secondPush : MethodName := ⟨RX0, "secondPush", "()J"⟩
abbrev cX0_findDeterminants : ByteArray := prog_2_method_9_code
def yX0_findDeterminants : MethodName := ⟨RX0, "findDeterminants", "()V"⟩
abbrev cX0_findBends : ByteArray := prog_2_method_10_code
def yX0_findBends : MethodName := ⟨RX0, "findBends", "()V"⟩
abbrev cX0_findPushes : ByteArray := prog_2_method_11_code
def yX0_findPushes : MethodName := ⟨RX0, "findPushes", "()V"⟩
abbrev cX0_cubeOf : ByteArray := prog_2_method_12_code
def yX0_cubeOf : MethodName := ⟨RX0, "cubeOf", "(J)J"⟩
abbrev cX0_height : ByteArray := prog_2_method_13_code
def yX0_height : MethodName := ⟨RX0, "height", "(I)J"⟩
abbrev cX0_slope : ByteArray := prog_2_method_14_code
def yX0_slope : MethodName := ⟨RX0, "slope", "(I)J"⟩
abbrev cX0_heightBelow : ByteArray := prog_2_method_15_code
def yX0_heightBelow : MethodName := ⟨RX0, "heightBelow", "()J"⟩
abbrev cX0_bulge : ByteArray := prog_2_method_16_code
def yX0_bulge : MethodName := ⟨RX0, "bulge", "(I)J"⟩
abbrev cX0_firstLevel : ByteArray := prog_2_method_17_code
def yX0_firstLevel : MethodName := ⟨RX0, "firstLevel", "()J"⟩
abbrev cX0_secondLevel : ByteArray := prog_2_method_18_code
def yX0_secondLevel : MethodName := ⟨RX0, "secondLevel", "()J"⟩
def RX1 : String := "ShaftLine$Fraction"
def TX1 : u_T := fun k => match k with
  | 0 => ("ShaftLine$Fraction", "above", "J", false)
  | _ => ("ShaftLine$Fraction", "below", "J", false)
def tyX1 : Nat → FieldType := fun k => match k with
  | 0 => .long
  | _ => .long
abbrev wsX10 : List Cond := u_ws RX1 TX1 2
theorem nmX1 : ∀ a, a < 2 → ∀ b, b < 2 → a ≠ b → (TX1 a).2.1 ≠ (TX1 b).2.1 := by decide +kernel
theorem tyX1_ok : ∀ k, k < 2 → parseFieldDescriptor (TX1 k).2.2.1 = some (tyX1 k) := by decide +kernel
abbrev cX1_init : ByteArray := prog_3_method_1_code
def yX1_init : MethodName := ⟨RX1, "<init>", "()V"⟩
abbrev cX1_become : ByteArray := prog_3_method_2_code
def yX1_become : MethodName := ⟨RX1, "become", "(JJ)V"⟩
abbrev cX1_takeAway : ByteArray := prog_3_method_3_code
def yX1_takeAway : MethodName := ⟨RX1, "takeAway", "(LShaftLine$Fraction;)V"⟩
abbrev cX1_part : ByteArray := prog_3_method_4_code
def yX1_part : MethodName := ⟨RX1, "part", "(I)J"⟩
def RX2 : String := "ShaftLine$Line"
def TX2 : u_T := fun k => match k with
  | 0 => ("ShaftLine$Line", "count", "I", false)
  | 1 => ("ShaftLine$Line", "place", "[I", true)
  | 2 => ("ShaftLine$Line", "offset", "[I", true)
  | 3 => ("ShaftLine$Line", "wear", "[I", true)
  | 4 => ("ShaftLine$Line", "reading", "[I", true)
  | 5 => ("ShaftLine$Line", "weight", "[I", true)
  | _ => ("ShaftLine$Line", "stiffness", "I", false)
def tyX2 : Nat → FieldType := fun k => match k with
  | 0 => .int
  | 1 => .array .int
  | 2 => .array .int
  | 3 => .array .int
  | 4 => .array .int
  | 5 => .array .int
  | _ => .int
abbrev wsX20 : List Cond := u_ws RX2 TX2 7
theorem nmX2 : ∀ a, a < 7 → ∀ b, b < 7 → a ≠ b → (TX2 a).2.1 ≠ (TX2 b).2.1 := by decide +kernel
theorem tyX2_ok : ∀ k, k < 7 → parseFieldDescriptor (TX2 k).2.2.1 = some (tyX2 k) := by decide +kernel
abbrev cX2_init : ByteArray := prog_4_method_1_code
def yX2_init : MethodName := ⟨RX2, "<init>", "()V"⟩
abbrev cX2_clear : ByteArray := prog_4_method_2_code
def yX2_clear : MethodName := ⟨RX2, "clear", "()V"⟩
abbrev cX2_become : ByteArray := prog_4_method_3_code
def yX2_become : MethodName := ⟨RX2, "become", "(LShaftLine$Line;)V"⟩
abbrev cX2_bearingAt : ByteArray := prog_4_method_4_code
def yX2_bearingAt : MethodName := ⟨RX2, "bearingAt", "(I)I"⟩
abbrev cX2_bearingsBelow : ByteArray := prog_4_method_5_code
def yX2_bearingsBelow : MethodName := ⟨RX2, "bearingsBelow", "(I)I"⟩
abbrev cX2_insert : ByteArray := prog_4_method_6_code
def yX2_insert : MethodName := ⟨RX2, "insert", "(II)I"⟩
abbrev cX2_delete : ByteArray := prog_4_method_7_code
def yX2_delete : MethodName := ⟨RX2, "delete", "(I)V"⟩
abbrev cX2_shift : ByteArray := prog_4_method_8_code
def yX2_shift : MethodName := ⟨RX2, "shift", "(II)V"⟩
abbrev cX2_allWeights : ByteArray := prog_4_method_9_code
def yX2_allWeights : MethodName := ⟨RX2, "allWeights", "()I"⟩
abbrev cX2_placesWithWeights : ByteArray := prog_4_method_10_code
def yX2_placesWithWeights : MethodName := ⟨RX2, "placesWithWeights", "()I"⟩
abbrev cX2_missing : ByteArray := prog_4_method_11_code
def yX2_missing : MethodName := ⟨RX2, "missing", "()I"⟩
abbrev cX2_missingMoment : ByteArray := prog_4_method_12_code
def yX2_missingMoment : MethodName := ⟨RX2, "missingMoment", "()I"⟩
abbrev cX2_isWrong : ByteArray := prog_4_method_13_code
def yX2_isWrong : MethodName := ⟨RX2, "isWrong", "(I)Z"⟩
abbrev cX2_wears : ByteArray := prog_4_method_14_code
def yX2_wears : MethodName := ⟨RX2, "wears", "(II)Z"⟩
def RX3 : String := "ShaftLine$Planner"
def TX3 : u_T := fun k => match k with
  | 0 => ("ShaftLine$Planner", "moved", "I", false)
  | 1 => ("ShaftLine$Planner", "best", "[I", true)
  | 2 => ("ShaftLine$Planner", "line", "LShaftLine$Line;", false)
  | 3 => ("ShaftLine$Planner", "low", "J", false)
  | 4 => ("ShaftLine$Planner", "high", "J", false)
  | 5 => ("ShaftLine$Planner", "bestSum", "I", false)
  | 6 => ("ShaftLine$Planner", "sets", "I", false)
  | 7 => ("ShaftLine$Planner", "codes", "[I", true)
  | 8 => ("ShaftLine$Planner", "members", "[I", true)
  | 9 => ("ShaftLine$Planner", "belows", "[J", true)
  | 10 => ("ShaftLine$Planner", "bases", "[J", true)
  | 11 => ("ShaftLine$Planner", "gains", "[J", true)
  | 12 => ("ShaftLine$Planner", "margins", "[J", true)
  | 13 => ("ShaftLine$Planner", "moves", "[I", true)
  | _ => ("ShaftLine$Planner", "noWeights", "[I", true)
def tyX3 : Nat → FieldType := fun k => match k with
  | 0 => .int
  | 1 => .array .int
  | 2 => .object "ShaftLine$Line"
  | 3 => .long
  | 4 => .long
  | 5 => .int
  | 6 => .int
  | 7 => .array .int
  | 8 => .array .int
  | 9 => .array .long
  | 10 => .array .long
  | 11 => .array .long
  | 12 => .array .long
  | 13 => .array .int
  | _ => .array .int
abbrev wsX30 : List Cond := u_ws RX3 TX3 15
theorem nmX3 : ∀ a, a < 15 → ∀ b, b < 15 → a ≠ b → (TX3 a).2.1 ≠ (TX3 b).2.1 := by decide +kernel
theorem tyX3_ok : ∀ k, k < 15 → parseFieldDescriptor (TX3 k).2.2.1 = some (tyX3 k) := by decide +kernel
abbrev cX3_init : ByteArray := prog_5_method_1_code
def yX3_init : MethodName := ⟨RX3, "<init>", "()V"⟩
abbrev cX3_start : ByteArray := prog_5_method_2_code
def yX3_start : MethodName := ⟨RX3, "start", "(LShaftLine$Line;II)V"⟩
abbrev cX3_mayPlan : ByteArray := prog_5_method_3_code
def yX3_mayPlan : MethodName := ⟨RX3, "mayPlan", "()Z"⟩
abbrev cX3_prepareSets : ByteArray := prog_5_method_4_code
def yX3_prepareSets : MethodName := ⟨RX3, "prepareSets", "(LShaftLine$Rest;)V"⟩
abbrev cX3_prepareState : ByteArray := prog_5_method_5_code
def yX3_prepareState : MethodName := ⟨RX3, "prepareState", "(LShaftLine$Rest;[II)V"⟩
abbrev cX3_keepMargins : ByteArray := prog_5_method_6_code
def yX3_keepMargins : MethodName := ⟨RX3, "keepMargins", "(LShaftLine$Rest;I[JI)V"⟩
abbrev cX3_search : ByteArray := prog_5_method_7_code
def yX3_search : MethodName := ⟨RX3, "search", "(I)V"⟩
abbrev cX3_takeMoves : ByteArray := prog_5_method_8_code
def yX3_takeMoves : MethodName := ⟨RX3, "takeMoves", "(I)Z"⟩
abbrev cX3_keepMoves : ByteArray := prog_5_method_9_code
def yX3_keepMoves : MethodName := ⟨RX3, "keepMoves", "()V"⟩
abbrev cX3_fitsInAll : ByteArray := prog_5_method_10_code
def yX3_fitsInAll : MethodName := ⟨RX3, "fitsInAll", "(I)Z"⟩
abbrev cX3_fitsIn : ByteArray := prog_5_method_11_code
def yX3_fitsIn : MethodName := ⟨RX3, "fitsIn", "(I)Z"⟩
abbrev cX3_holds : ByteArray := prog_5_method_12_code
def yX3_holds : MethodName := ⟨RX3, "holds", "(II)Z"⟩
abbrev cX3_isWithinBounds : ByteArray := prog_5_method_13_code
def yX3_isWithinBounds : MethodName := ⟨RX3, "isWithinBounds", "(I)Z"⟩
def RX4 : String := "ShaftLine$Reader"
def TX4 : u_T := fun k => match k with
  | 0 => ("ShaftLine$Reader", "draft", "LShaftLine$Line;", true)
  | 1 => ("ShaftLine$Reader", "text", "[B", false)
  | 2 => ("ShaftLine$Reader", "length", "I", false)
  | 3 => ("ShaftLine$Reader", "at", "I", false)
  | 4 => ("ShaftLine$Reader", "numberAt", "I", false)
  | _ => ("ShaftLine$Reader", "fault", "I", false)
def tyX4 : Nat → FieldType := fun k => match k with
  | 0 => .object "ShaftLine$Line"
  | 1 => .array .byte
  | 2 => .int
  | 3 => .int
  | 4 => .int
  | _ => .int
abbrev wsX40 : List Cond := u_ws RX4 TX4 6
theorem nmX4 : ∀ a, a < 6 → ∀ b, b < 6 → a ≠ b → (TX4 a).2.1 ≠ (TX4 b).2.1 := by decide +kernel
theorem tyX4_ok : ∀ k, k < 6 → parseFieldDescriptor (TX4 k).2.2.1 = some (tyX4 k) := by decide +kernel
abbrev cX4_init : ByteArray := prog_6_method_1_code
def yX4_init : MethodName := ⟨RX4, "<init>", "()V"⟩
abbrev cX4_faultOf : ByteArray := prog_6_method_2_code
def yX4_faultOf : MethodName := ⟨RX4, "faultOf", "([BI)I"⟩
abbrev cX4_readClause : ByteArray := prog_6_method_3_code
def yX4_readClause : MethodName := ⟨RX4, "readClause", "()Z"⟩
abbrev cX4_readBearing : ByteArray := prog_6_method_4_code
def yX4_readBearing : MethodName := ⟨RX4, "readBearing", "()Z"⟩
abbrev cX4_readWeight : ByteArray := prog_6_method_5_code
def yX4_readWeight : MethodName := ⟨RX4, "readWeight", "()Z"⟩
abbrev cX4_readStiffness : ByteArray := prog_6_method_6_code
def yX4_readStiffness : MethodName := ⟨RX4, "readStiffness", "()Z"⟩
abbrev cX4_readNumber : ByteArray := prog_6_method_7_code
def yX4_readNumber : MethodName := ⟨RX4, "readNumber", "()I"⟩
abbrev cX4_isDigit : ByteArray := prog_6_method_8_code
def yX4_isDigit : MethodName := ⟨RX4, "isDigit", "()Z"⟩
abbrev cX4_steps : ByteArray := prog_6_method_9_code
def yX4_steps : MethodName := ⟨RX4, "steps", "(C)Z"⟩
abbrev cX4_skipBlanks : ByteArray := prog_6_method_10_code
def yX4_skipBlanks : MethodName := ⟨RX4, "skipBlanks", "()V"⟩
abbrev cX4_next : ByteArray := prog_6_method_11_code
def yX4_next : MethodName := ⟨RX4, "next", "()I"⟩
abbrev cX4_fail : ByteArray := prog_6_method_12_code
def yX4_fail : MethodName := ⟨RX4, "fail", "(I)Z"⟩
def RX5 : String := "ShaftLine$Rest"
def TX5 : u_T := fun k => match k with
  | 0 => ("ShaftLine$Rest", "beam", "LShaftLine$Beam;", true)
  | 1 => ("ShaftLine$Rest", "count", "I", false)
  | 2 => ("ShaftLine$Rest", "place", "[I", true)
  | 3 => ("ShaftLine$Rest", "stand", "[I", true)
  | _ => ("ShaftLine$Rest", "seat", "[I", true)
def tyX5 : Nat → FieldType := fun k => match k with
  | 0 => .object "ShaftLine$Beam"
  | 1 => .int
  | 2 => .array .int
  | 3 => .array .int
  | _ => .array .int
abbrev wsX50 : List Cond := u_ws RX5 TX5 5
theorem nmX5 : ∀ a, a < 5 → ∀ b, b < 5 → a ≠ b → (TX5 a).2.1 ≠ (TX5 b).2.1 := by decide +kernel
theorem tyX5_ok : ∀ k, k < 5 → parseFieldDescriptor (TX5 k).2.2.1 = some (tyX5 k) := by decide +kernel
abbrev cX5_init : ByteArray := prog_7_method_1_code
def yX5_init : MethodName := ⟨RX5, "<init>", "()V"⟩
abbrev cX5_start : ByteArray := prog_7_method_2_code
def yX5_start : MethodName := ⟨RX5, "start", "(I[I)V"⟩
abbrev cX5_put : ByteArray := prog_7_method_3_code
def yX5_put : MethodName := ⟨RX5, "put", "(II)V"⟩
abbrev cX5_settle : ByteArray := prog_7_method_4_code
def yX5_settle : MethodName := ⟨RX5, "settle", "()Z"⟩
abbrev cX5_lay : ByteArray := prog_7_method_5_code
def yX5_lay : MethodName := ⟨RX5, "lay", "(I)V"⟩
abbrev cX5_holds : ByteArray := prog_7_method_6_code
def yX5_holds : MethodName := ⟨RX5, "holds", "()Z"⟩
abbrev cX5_isMember : ByteArray := prog_7_method_7_code
def yX5_isMember : MethodName := ⟨RX5, "isMember", "(I)Z"⟩
abbrev cX5_pushOf : ByteArray := prog_7_method_8_code
def yX5_pushOf : MethodName := ⟨RX5, "pushOf", "(I)J"⟩
abbrev cX5_marginOf : ByteArray := prog_7_method_9_code
def yX5_marginOf : MethodName := ⟨RX5, "marginOf", "(I)J"⟩
def RX6 : String := "ShaftLine$Sheet"
def TX6 : u_T := fun k => match k with
  | 0 => ("ShaftLine$Sheet", "held", "Z", false)
  | 1 => ("ShaftLine$Sheet", "lane", "I", false)
  | 2 => ("ShaftLine$Sheet", "count", "I", false)
  | _ => ("ShaftLine$Sheet", "items", "[I", true)
def tyX6 : Nat → FieldType := fun k => match k with
  | 0 => .boolean
  | 1 => .int
  | 2 => .int
  | _ => .array .int
abbrev wsX60 : List Cond := u_ws RX6 TX6 4
theorem nmX6 : ∀ a, a < 4 → ∀ b, b < 4 → a ≠ b → (TX6 a).2.1 ≠ (TX6 b).2.1 := by decide +kernel
theorem tyX6_ok : ∀ k, k < 4 → parseFieldDescriptor (TX6 k).2.2.1 = some (tyX6 k) := by decide +kernel
abbrev cX6_init : ByteArray := prog_8_method_1_code
def yX6_init : MethodName := ⟨RX6, "<init>", "()V"⟩
abbrev cX6_begin : ByteArray := prog_8_method_2_code
def yX6_begin : MethodName := ⟨RX6, "begin", "(II)V"⟩
abbrev cX6_has : ByteArray := prog_8_method_3_code
def yX6_has : MethodName := ⟨RX6, "has", "(II)Z"⟩
abbrev cX6_faultOf : ByteArray := prog_8_method_4_code
def yX6_faultOf : MethodName := ⟨RX6, "faultOf", "(III)I"⟩
abbrev cX6_put : ByteArray := prog_8_method_5_code
def yX6_put : MethodName := ⟨RX6, "put", "(II)V"⟩
def RX7 : String := "ShaftLine"
def TX7 : u_T := fun k => match k with
  | 0 => ("ShaftLine", "line", "LShaftLine$Line;", true)
  | 1 => ("ShaftLine", "rises", "[[I", true)
  | 2 => ("ShaftLine", "tape", "[B", true)
  | 3 => ("ShaftLine", "taped", "I", false)
  | 4 => ("ShaftLine", "reader", "LShaftLine$Reader;", true)
  | 5 => ("ShaftLine", "sheets", "[LShaftLine$Sheet;", true)
  | 6 => ("ShaftLine", "beam", "LShaftLine$Beam;", true)
  | 7 => ("ShaftLine", "rightBeam", "LShaftLine$Beam;", true)
  | 8 => ("ShaftLine", "rest", "LShaftLine$Rest;", true)
  | 9 => ("ShaftLine", "restState", "I", false)
  | 10 => ("ShaftLine", "restFalls", "Z", false)
  | 11 => ("ShaftLine", "low", "I", false)
  | 12 => ("ShaftLine", "high", "I", false)
  | 13 => ("ShaftLine", "planner", "LShaftLine$Planner;", true)
  | 14 => ("ShaftLine", "plannedStates", "I", false)
  | 15 => ("ShaftLine", "answer", "LShaftLine$Fraction;", true)
  | _ => ("ShaftLine", "rightAnswer", "LShaftLine$Fraction;", true)
def tyX7 : Nat → FieldType := fun k => match k with
  | 0 => .object "ShaftLine$Line"
  | 1 => .array (.array .int)
  | 2 => .array .byte
  | 3 => .int
  | 4 => .object "ShaftLine$Reader"
  | 5 => .array (.object "ShaftLine$Sheet")
  | 6 => .object "ShaftLine$Beam"
  | 7 => .object "ShaftLine$Beam"
  | 8 => .object "ShaftLine$Rest"
  | 9 => .int
  | 10 => .boolean
  | 11 => .int
  | 12 => .int
  | 13 => .object "ShaftLine$Planner"
  | 14 => .int
  | 15 => .object "ShaftLine$Fraction"
  | _ => .object "ShaftLine$Fraction"
abbrev wsX70 : List Cond := u_ws RX7 TX7 17
theorem nmX7 : ∀ a, a < 17 → ∀ b, b < 17 → a ≠ b → (TX7 a).2.1 ≠ (TX7 b).2.1 := by decide +kernel
theorem tyX7_ok : ∀ k, k < 17 → parseFieldDescriptor (TX7 k).2.2.1 = some (tyX7 k) := by decide +kernel
abbrev cX7_init : ByteArray := prog_1_method_1_code
def yX7_init : MethodName := ⟨RX7, "<init>", "()V"⟩
abbrev cX7_bearing : ByteArray := prog_1_method_2_code
def yX7_bearing : MethodName := ⟨RX7, "bearing", "(II)I"⟩
abbrev cX7_remove : ByteArray := prog_1_method_3_code
def yX7_remove : MethodName := ⟨RX7, "remove", "(I)I"⟩
abbrev cX7_offset : ByteArray := prog_1_method_4_code
def yX7_offset : MethodName := ⟨RX7, "offset", "(II)I"⟩
abbrev cX7_weight : ByteArray := prog_1_method_5_code
def yX7_weight : MethodName := ⟨RX7, "weight", "(II)I"⟩
abbrev cX7_stiffness : ByteArray := prog_1_method_6_code
def yX7_stiffness : MethodName := ⟨RX7, "stiffness", "(I)I"⟩
abbrev cX7_rise : ByteArray := prog_1_method_7_code
def yX7_rise : MethodName := ⟨RX7, "rise", "(III)I"⟩
abbrev cX7_rises : ByteArray := prog_1_method_8_code
def yX7_rises : MethodName := ⟨RX7, "rises", "(IIIII)I"⟩
abbrev cX7_type : ByteArray := prog_1_method_9_code
def yX7_type : MethodName := ⟨RX7, "type", "(JI)I"⟩
abbrev cX7_read : ByteArray := prog_1_method_10_code
def yX7_read : MethodName := ⟨RX7, "read", "()I"⟩
abbrev cX7_told : ByteArray := prog_1_method_11_code
def yX7_told : MethodName := ⟨RX7, "told", "(II)I"⟩
abbrev cX7_count : ByteArray := prog_1_method_12_code
def yX7_count : MethodName := ⟨RX7, "count", "(I)I"⟩
abbrev cX7_load : ByteArray := prog_1_method_13_code
def yX7_load : MethodName := ⟨RX7, "load", "(III)J"⟩
abbrev cX7_lifted : ByteArray := prog_1_method_14_code
def yX7_lifted : MethodName := ⟨RX7, "lifted", "(I)I"⟩
abbrev cX7_high : ByteArray := prog_1_method_15_code
def yX7_high : MethodName := ⟨RX7, "high", "(III)J"⟩
abbrev cX7_through : ByteArray := prog_1_method_16_code
def yX7_through : MethodName := ⟨RX7, "through", "(III)J"⟩
abbrev cX7_table : ByteArray := prog_1_method_17_code
def yX7_table : MethodName := ⟨RX7, "table", "(III)J"⟩
abbrev cX7_coupling : ByteArray := prog_1_method_18_code
def yX7_coupling : MethodName := ⟨RX7, "coupling", "(IIII)J"⟩
abbrev cX7_jack : ByteArray := prog_1_method_19_code
def yX7_jack : MethodName := ⟨RX7, "jack", "(IIII)J"⟩
abbrev cX7_bounds : ByteArray := prog_1_method_20_code
def yX7_bounds : MethodName := ⟨RX7, "bounds", "(II)I"⟩
abbrev cX7_fits : ByteArray := prog_1_method_21_code
def yX7_fits : MethodName := ⟨RX7, "fits", "(I)I"⟩
abbrev cX7_plan : ByteArray := prog_1_method_22_code
def yX7_plan : MethodName := ⟨RX7, "plan", "(I)I"⟩
abbrev cX7_move : ByteArray := prog_1_method_23_code
def yX7_move : MethodName := ⟨RX7, "move", "(II)I"⟩
abbrev cX7_reading : ByteArray := prog_1_method_24_code
def yX7_reading : MethodName := ⟨RX7, "reading", "(II)I"⟩
abbrev cX7_closes : ByteArray := prog_1_method_25_code
def yX7_closes : MethodName := ⟨RX7, "closes", "()I"⟩
abbrev cX7_mended : ByteArray := prog_1_method_26_code
def yX7_mended : MethodName := ⟨RX7, "mended", "(I)I"⟩
abbrev cX7_run : ByteArray := prog_1_method_27_code
def yX7_run : MethodName := ⟨RX7, "run", "(I)I"⟩
abbrev cX7_whirl : ByteArray := prog_1_method_28_code
def yX7_whirl : MethodName := ⟨RX7, "whirl", "()I"⟩
abbrev cX7_sheet : ByteArray := prog_1_method_29_code
def yX7_sheet : MethodName := ⟨RX7, "sheet", "(III)I"⟩
abbrev cX7_drop : ByteArray := prog_1_method_30_code
def yX7_drop : MethodName := ⟨RX7, "drop", "(I)I"⟩
abbrev cX7_item : ByteArray := prog_1_method_31_code
def yX7_item : MethodName := ⟨RX7, "item", "(IIII)I"⟩
abbrev cX7_copy : ByteArray := prog_1_method_32_code
def yX7_copy : MethodName := ⟨RX7, "copy", "(IIIII)I"⟩
abbrev cX7_isWithin : ByteArray := prog_1_method_33_code
def yX7_isWithin : MethodName := ⟨RX7, "isWithin", "(III)Z"⟩
abbrev cX7_isPlace : ByteArray := prog_1_method_34_code
def yX7_isPlace : MethodName := ⟨RX7, "isPlace", "(I)Z"⟩
abbrev cX7_isState : ByteArray := prog_1_method_35_code
def yX7_isState : MethodName := ⟨RX7, "isState", "(I)Z"⟩
abbrev cX7_isRise : ByteArray := prog_1_method_36_code
def yX7_isRise : MethodName := ⟨RX7, "isRise", "(I)Z"⟩
abbrev cX7_isSheet : ByteArray := prog_1_method_37_code
def yX7_isSheet : MethodName := ⟨RX7, "isSheet", "(I)Z"⟩
abbrev cX7_isLane : ByteArray := prog_1_method_38_code
def yX7_isLane : MethodName := ⟨RX7, "isLane", "(I)Z"⟩
abbrev cX7_isPart : ByteArray := prog_1_method_39_code
def yX7_isPart : MethodName := ⟨RX7, "isPart", "(I)Z"⟩
abbrev cX7_isBearing : ByteArray := prog_1_method_40_code
def yX7_isBearing : MethodName := ⟨RX7, "isBearing", "(I)Z"⟩
abbrev cX7_byteOf : ByteArray := prog_1_method_41_code
def yX7_byteOf : MethodName := ⟨RX7, "byteOf", "(JI)I"⟩
abbrev cX7_refusal : ByteArray := prog_1_method_42_code
def yX7_refusal : MethodName := ⟨RX7, "refusal", "(I)J"⟩
abbrev cX7_cut : ByteArray := prog_1_method_43_code
def yX7_cut : MethodName := ⟨RX7, "cut", "(JJ)J"⟩
abbrev cX7_commonDivisor : ByteArray := prog_1_method_44_code
def yX7_commonDivisor : MethodName := ⟨RX7, "commonDivisor", "(JJ)J"⟩
abbrev cX7_forgetAnswers : ByteArray := prog_1_method_45_code
def yX7_forgetAnswers : MethodName := ⟨RX7, "forgetAnswers", "()V"⟩
abbrev cX7_standing : ByteArray := prog_1_method_46_code
def yX7_standing : MethodName := ⟨RX7, "standing", "(II)I"⟩
abbrev cX7_putBearings : ByteArray := prog_1_method_47_code
def yX7_putBearings : MethodName := ⟨RX7, "putBearings", "(III)V"⟩
abbrev cX7_comesToRest : ByteArray := prog_1_method_48_code
def yX7_comesToRest : MethodName := ⟨RX7, "comesToRest", "(I)Z"⟩
abbrev cX7_goesThrough : ByteArray := prog_1_method_49_code
def yX7_goesThrough : MethodName := ⟨RX7, "goesThrough", "(LShaftLine$Beam;III)Z"⟩
abbrev cX7_isWithinBounds : ByteArray := prog_1_method_50_code
def yX7_isWithinBounds : MethodName := ⟨RX7, "isWithinBounds", "()Z"⟩
abbrev cX7_makePlan : ByteArray := prog_1_method_51_code
def yX7_makePlan : MethodName := ⟨RX7, "makePlan", "(I)V"⟩
def RX8 : String := "ShaftLineModel"
def TX8 : u_T := fun k => match k with
  | 0 => ("ShaftLineModel", "n", "I", false)
  | 1 => ("ShaftLineModel", "places", "[I", true)
  | 2 => ("ShaftLineModel", "offsets", "[I", true)
  | 3 => ("ShaftLineModel", "wears", "[I", true)
  | 4 => ("ShaftLineModel", "readings", "[I", true)
  | 5 => ("ShaftLineModel", "weights", "[I", true)
  | 6 => ("ShaftLineModel", "rises", "[I", true)
  | 7 => ("ShaftLineModel", "stiff", "I", false)
  | 8 => ("ShaftLineModel", "tape", "[I", true)
  | 9 => ("ShaftLineModel", "taped", "I", false)
  | 10 => ("ShaftLineModel", "at", "I", false)
  | 11 => ("ShaftLineModel", "wrong", "Z", false)
  | 12 => ("ShaftLineModel", "readMany", "I", false)
  | 13 => ("ShaftLineModel", "readPlace", "[I", true)
  | 14 => ("ShaftLineModel", "readOffset", "[I", true)
  | 15 => ("ShaftLineModel", "readWeight", "[I", true)
  | 16 => ("ShaftLineModel", "readStiff", "I", false)
  | 17 => ("ShaftLineModel", "above", "J", false)
  | 18 => ("ShaftLineModel", "below", "J", false)
  | 19 => ("ShaftLineModel", "many", "I", false)
  | 20 => ("ShaftLineModel", "xs", "[I", true)
  | 21 => ("ShaftLineModel", "hs", "[I", true)
  | 22 => ("ShaftLineModel", "pulls", "[I", true)
  | 23 => ("ShaftLineModel", "loadAbove", "[J", true)
  | 24 => ("ShaftLineModel", "loadBelow", "[J", true)
  | 25 => ("ShaftLineModel", "moments", "[J", true)
  | 26 => ("ShaftLineModel", "rights", "[J", true)
  | 27 => ("ShaftLineModel", "heads", "[J", true)
  | 28 => ("ShaftLineModel", "tails", "[J", true)
  | 29 => ("ShaftLineModel", "determinant", "J", false)
  | 30 => ("ShaftLineModel", "sumAbove", "J", false)
  | 31 => ("ShaftLineModel", "sumBelow", "J", false)
  | 32 => ("ShaftLineModel", "candidates", "I", false)
  | 33 => ("ShaftLineModel", "candidatePlace", "[I", true)
  | 34 => ("ShaftLineModel", "candidateHeight", "[I", true)
  | 35 => ("ShaftLineModel", "moves", "[I", true)
  | 36 => ("ShaftLineModel", "jackNumber", "I", false)
  | 37 => ("ShaftLineModel", "low", "I", false)
  | 38 => ("ShaftLineModel", "high", "I", false)
  | 39 => ("ShaftLineModel", "best", "[I", true)
  | 40 => ("ShaftLineModel", "lanes", "[I", true)
  | 41 => ("ShaftLineModel", "sizes", "[I", true)
  | 42 => ("ShaftLineModel", "items", "[I", true)
  | _ => ("ShaftLineModel", "moved", "[I", true)
def tyX8 : Nat → FieldType := fun k => match k with
  | 0 => .int
  | 1 => .array .int
  | 2 => .array .int
  | 3 => .array .int
  | 4 => .array .int
  | 5 => .array .int
  | 6 => .array .int
  | 7 => .int
  | 8 => .array .int
  | 9 => .int
  | 10 => .int
  | 11 => .boolean
  | 12 => .int
  | 13 => .array .int
  | 14 => .array .int
  | 15 => .array .int
  | 16 => .int
  | 17 => .long
  | 18 => .long
  | 19 => .int
  | 20 => .array .int
  | 21 => .array .int
  | 22 => .array .int
  | 23 => .array .long
  | 24 => .array .long
  | 25 => .array .long
  | 26 => .array .long
  | 27 => .array .long
  | 28 => .array .long
  | 29 => .long
  | 30 => .long
  | 31 => .long
  | 32 => .int
  | 33 => .array .int
  | 34 => .array .int
  | 35 => .array .int
  | 36 => .int
  | 37 => .int
  | 38 => .int
  | 39 => .array .int
  | 40 => .array .int
  | 41 => .array .int
  | 42 => .array .int
  | _ => .array .int
abbrev wsX80 : List Cond := u_ws RX8 TX8 44
theorem nmX8 : ∀ a, a < 44 → ∀ b, b < 44 → a ≠ b → (TX8 a).2.1 ≠ (TX8 b).2.1 := by decide +kernel
theorem tyX8_ok : ∀ k, k < 44 → parseFieldDescriptor (TX8 k).2.2.1 = some (tyX8 k) := by decide +kernel
abbrev cX8_in : ByteArray := prog_10_method_2_code
def yX8_in : MethodName := ⟨RX8, "in", "(JJJ)Z"⟩
abbrev cX8_init : ByteArray := prog_10_method_3_code
def yX8_init : MethodName := ⟨RX8, "<init>", "()V"⟩
abbrev cX8_isPlace : ByteArray := prog_10_method_4_code
def yX8_isPlace : MethodName := ⟨RX8, "isPlace", "(I)Z"⟩
abbrev cX8_isBearing : ByteArray := prog_10_method_5_code
def yX8_isBearing : MethodName := ⟨RX8, "isBearing", "(I)Z"⟩
abbrev cX8_bearingAt : ByteArray := prog_10_method_6_code
def yX8_bearingAt : MethodName := ⟨RX8, "bearingAt", "(I)I"⟩
abbrev cX8_puts : ByteArray := prog_10_method_7_code
def yX8_puts : MethodName := ⟨RX8, "puts", "(II)I"⟩
abbrev cX8_bearing : ByteArray := prog_10_method_8_code
def yX8_bearing : MethodName := ⟨RX8, "bearing", "(II)I"⟩
abbrev cX8_remove : ByteArray := prog_10_method_9_code
def yX8_remove : MethodName := ⟨RX8, "remove", "(I)I"⟩
abbrev cX8_offset : ByteArray := prog_10_method_10_code
def yX8_offset : MethodName := ⟨RX8, "offset", "(II)I"⟩
abbrev cX8_weight : ByteArray := prog_10_method_11_code
def yX8_weight : MethodName := ⟨RX8, "weight", "(II)I"⟩
abbrev cX8_stiffness : ByteArray := prog_10_method_12_code
def yX8_stiffness : MethodName := ⟨RX8, "stiffness", "(I)I"⟩
abbrev cX8_isState : ByteArray := prog_10_method_13_code
def yX8_isState : MethodName := ⟨RX8, "isState", "(I)Z"⟩
abbrev cX8_rise : ByteArray := prog_10_method_14_code
def yX8_rise : MethodName := ⟨RX8, "rise", "(III)I"⟩
abbrev cX8_rises : ByteArray := prog_10_method_15_code
def yX8_rises : MethodName := ⟨RX8, "rises", "(IIIII)I"⟩
abbrev cX8_type : ByteArray := prog_10_method_16_code
def yX8_type : MethodName := ⟨RX8, "type", "(JI)I"⟩
abbrev cX8_next : ByteArray := prog_10_method_17_code
def yX8_next : MethodName := ⟨RX8, "next", "()I"⟩
abbrev cX8_number : ByteArray := prog_10_method_18_code
def yX8_number : MethodName := ⟨RX8, "number", "(II)I"⟩
abbrev cX8_figure : ByteArray := prog_10_method_19_code
def yX8_figure : MethodName := ⟨RX8, "figure", "(Z)I"⟩
abbrev cX8_clause : ByteArray := prog_10_method_20_code
def yX8_clause : MethodName := ⟨RX8, "clause", "()V"⟩
abbrev cX8_read : ByteArray := prog_10_method_21_code
def yX8_read : MethodName := ⟨RX8, "read", "()I"⟩
abbrev cX8_told : ByteArray := prog_10_method_22_code
def yX8_told : MethodName := ⟨RX8, "told", "(II)I"⟩
abbrev cX8_allWeights : ByteArray := prog_10_method_23_code
def yX8_allWeights : MethodName := ⟨RX8, "allWeights", "()I"⟩
abbrev cX8_count : ByteArray := prog_10_method_24_code
def yX8_count : MethodName := ⟨RX8, "count", "(I)I"⟩
abbrev cX8_common : ByteArray := prog_10_method_25_code
def yX8_common : MethodName := ⟨RX8, "common", "(JJ)J"⟩
abbrev cX8_makes : ByteArray := prog_10_method_26_code
def yX8_makes : MethodName := ⟨RX8, "makes", "(JJ)V"⟩
abbrev cX8_adds : ByteArray := prog_10_method_27_code
def yX8_adds : MethodName := ⟨RX8, "adds", "(JJ)V"⟩
abbrev cX8_part : ByteArray := prog_10_method_28_code
def yX8_part : MethodName := ⟨RX8, "part", "(I)J"⟩
abbrev cX8_diagonal : ByteArray := prog_10_method_29_code
def yX8_diagonal : MethodName := ⟨RX8, "diagonal", "(I)J"⟩
abbrev cX8_side : ByteArray := prog_10_method_30_code
def yX8_side : MethodName := ⟨RX8, "side", "(I)J"⟩
abbrev cX8_right : ByteArray := prog_10_method_31_code
def yX8_right : MethodName := ⟨RX8, "right", "(I)J"⟩
abbrev cX8_hangs : ByteArray := prog_10_method_32_code
def yX8_hangs : MethodName := ⟨RX8, "hangs", "(Z)J"⟩
abbrev cX8_bends : ByteArray := prog_10_method_33_code
def yX8_bends : MethodName := ⟨RX8, "bends", "()V"⟩
abbrev cX8_pushes : ByteArray := prog_10_method_34_code
def yX8_pushes : MethodName := ⟨RX8, "pushes", "(IZJ)V"⟩
abbrev cX8_goes : ByteArray := prog_10_method_35_code
def yX8_goes : MethodName := ⟨RX8, "goes", "()V"⟩
abbrev cX8_cube : ByteArray := prog_10_method_36_code
def yX8_cube : MethodName := ⟨RX8, "cube", "(JZ)J"⟩
abbrev cX8_sums : ByteArray := prog_10_method_37_code
def yX8_sums : MethodName := ⟨RX8, "sums", "(IZ)V"⟩
abbrev cX8_tilts : ByteArray := prog_10_method_38_code
def yX8_tilts : MethodName := ⟨RX8, "tilts", "()V"⟩
abbrev cX8_height : ByteArray := prog_10_method_39_code
def yX8_height : MethodName := ⟨RX8, "height", "(I)V"⟩
abbrev cX8_slope : ByteArray := prog_10_method_40_code
def yX8_slope : MethodName := ⟨RX8, "slope", "(I)V"⟩
abbrev cX8_stands : ByteArray := prog_10_method_41_code
def yX8_stands : MethodName := ⟨RX8, "stands", "(III)V"⟩
abbrev cX8_chooses : ByteArray := prog_10_method_42_code
def yX8_chooses : MethodName := ⟨RX8, "chooses", "(I)V"⟩
abbrev cX8_size : ByteArray := prog_10_method_43_code
def yX8_size : MethodName := ⟨RX8, "size", "(I)I"⟩
abbrev cX8_lies : ByteArray := prog_10_method_44_code
def yX8_lies : MethodName := ⟨RX8, "lies", "(I)Z"⟩
abbrev cX8_isAhead : ByteArray := prog_10_method_45_code
def yX8_isAhead : MethodName := ⟨RX8, "isAhead", "(II)Z"⟩
abbrev cX8_rests : ByteArray := prog_10_method_46_code
def yX8_rests : MethodName := ⟨RX8, "rests", "()I"⟩
abbrev cX8_loadOf : ByteArray := prog_10_method_47_code
def yX8_loadOf : MethodName := ⟨RX8, "loadOf", "(II)V"⟩
abbrev cX8_load : ByteArray := prog_10_method_48_code
def yX8_load : MethodName := ⟨RX8, "load", "(III)J"⟩
abbrev cX8_lifted : ByteArray := prog_10_method_49_code
def yX8_lifted : MethodName := ⟨RX8, "lifted", "(I)I"⟩
abbrev cX8_high : ByteArray := prog_10_method_50_code
def yX8_high : MethodName := ⟨RX8, "high", "(III)J"⟩
abbrev cX8_through : ByteArray := prog_10_method_51_code
def yX8_through : MethodName := ⟨RX8, "through", "(III)J"⟩
abbrev cX8_table : ByteArray := prog_10_method_52_code
def yX8_table : MethodName := ⟨RX8, "table", "(III)J"⟩
abbrev cX8_isPart : ByteArray := prog_10_method_53_code
def yX8_isPart : MethodName := ⟨RX8, "isPart", "(IIZ)Z"⟩
abbrev cX8_endOf : ByteArray := prog_10_method_54_code
def yX8_endOf : MethodName := ⟨RX8, "endOf", "(II)V"⟩
abbrev cX8_coupling : ByteArray := prog_10_method_55_code
def yX8_coupling : MethodName := ⟨RX8, "coupling", "(IIII)J"⟩
abbrev cX8_jack : ByteArray := prog_10_method_56_code
def yX8_jack : MethodName := ⟨RX8, "jack", "(IIII)J"⟩
abbrev cX8_bounds : ByteArray := prog_10_method_57_code
def yX8_bounds : MethodName := ⟨RX8, "bounds", "(II)I"⟩
abbrev cX8_isFit : ByteArray := prog_10_method_58_code
def yX8_isFit : MethodName := ⟨RX8, "isFit", "(I)Z"⟩
abbrev cX8_fits : ByteArray := prog_10_method_59_code
def yX8_fits : MethodName := ⟨RX8, "fits", "(I)I"⟩
abbrev cX8_plans : ByteArray := prog_10_method_60_code
def yX8_plans : MethodName := ⟨RX8, "plans", "(I)I"⟩
abbrev cX8_plan : ByteArray := prog_10_method_61_code
def yX8_plan : MethodName := ⟨RX8, "plan", "(I)I"⟩
abbrev cX8_move : ByteArray := prog_10_method_62_code
def yX8_move : MethodName := ⟨RX8, "move", "(II)I"⟩
abbrev cX8_reading : ByteArray := prog_10_method_63_code
def yX8_reading : MethodName := ⟨RX8, "reading", "(II)I"⟩
abbrev cX8_lacks : ByteArray := prog_10_method_64_code
def yX8_lacks : MethodName := ⟨RX8, "lacks", "(Z)I"⟩
abbrev cX8_isWrong : ByteArray := prog_10_method_65_code
def yX8_isWrong : MethodName := ⟨RX8, "isWrong", "(I)Z"⟩
abbrev cX8_closes : ByteArray := prog_10_method_66_code
def yX8_closes : MethodName := ⟨RX8, "closes", "()I"⟩
abbrev cX8_mended : ByteArray := prog_10_method_67_code
def yX8_mended : MethodName := ⟨RX8, "mended", "(I)I"⟩
abbrev cX8_run : ByteArray := prog_10_method_68_code
def yX8_run : MethodName := ⟨RX8, "run", "(I)I"⟩
abbrev cX8_whirl : ByteArray := prog_10_method_69_code
def yX8_whirl : MethodName := ⟨RX8, "whirl", "()I"⟩
abbrev cX8_isSheet : ByteArray := prog_10_method_70_code
def yX8_isSheet : MethodName := ⟨RX8, "isSheet", "(I)Z"⟩
abbrev cX8_isLane : ByteArray := prog_10_method_71_code
def yX8_isLane : MethodName := ⟨RX8, "isLane", "(I)Z"⟩
abbrev cX8_finds : ByteArray := prog_10_method_72_code
def yX8_finds : MethodName := ⟨RX8, "finds", "(IIII)I"⟩
abbrev cX8_sheet : ByteArray := prog_10_method_73_code
def yX8_sheet : MethodName := ⟨RX8, "sheet", "(III)I"⟩
abbrev cX8_drop : ByteArray := prog_10_method_74_code
def yX8_drop : MethodName := ⟨RX8, "drop", "(I)I"⟩
abbrev cX8_item : ByteArray := prog_10_method_75_code
def yX8_item : MethodName := ⟨RX8, "item", "(IIII)I"⟩
abbrev cX8_copy : ByteArray := prog_10_method_76_code
def yX8_copy : MethodName := ⟨RX8, "copy", "(IIIII)I"⟩
def RJ6 : String := "java/lang/Integer"
def TJ6 : u_T := fun k => match k with
  | _ => ("", "", "", false)
def tyJ6 : Nat → FieldType := fun k => match k with
  | _ => .int
abbrev wsJ60 : List Cond := u_ws RJ6 TJ6 0
theorem nmJ6 : ∀ a, a < 0 → ∀ b, b < 0 → a ≠ b → (TJ6 a).2.1 ≠ (TJ6 b).2.1 := by decide +kernel
theorem tyJ6_ok : ∀ k, k < 0 → parseFieldDescriptor (TJ6 k).2.2.1 = some (tyJ6 k) := by decide +kernel
abbrev cJ6_bitCount_0f7a4 : ByteArray := prog_11_method_49_code
def yJ6_bitCount_0f7a4 : MethodName := ⟨RJ6, "bitCount", "(I)I"⟩
def RJ9 : String := "java/lang/Math"
def TJ9 : u_T := fun k => match k with
  | _ => ("", "", "", false)
def tyJ9 : Nat → FieldType := fun k => match k with
  | _ => .int
abbrev wsJ90 : List Cond := u_ws RJ9 TJ9 0
theorem nmJ9 : ∀ a, a < 0 → ∀ b, b < 0 → a ≠ b → (TJ9 a).2.1 ≠ (TJ9 b).2.1 := by decide +kernel
theorem tyJ9_ok : ∀ k, k < 0 → parseFieldDescriptor (TJ9 k).2.2.1 = some (tyJ9 k) := by decide +kernel
abbrev cJ9_abs_0f7a4 : ByteArray := prog_12_method_59_code
def yJ9_abs_0f7a4 : MethodName := ⟨RJ9, "abs", "(I)I"⟩
abbrev cJ9_abs_067f4 : ByteArray := prog_12_method_61_code
def yJ9_abs_067f4 : MethodName := ⟨RJ9, "abs", "(J)J"⟩
abbrev cJ9_max_7cf53 : ByteArray := prog_12_method_65_code
def yJ9_max_7cf53 : MethodName := ⟨RJ9, "max", "(II)I"⟩
abbrev cJ9_min_7cf53 : ByteArray := prog_12_method_69_code
def yJ9_min_7cf53 : MethodName := ⟨RJ9, "min", "(II)I"⟩
def RJ10 : String := "java/lang/System"
def TJ10 : u_T := fun k => match k with
  | _ => ("", "", "", false)
def tyJ10 : Nat → FieldType := fun k => match k with
  | _ => .int
abbrev wsJ100 : List Cond := u_ws RJ10 TJ10 0
theorem nmJ10 : ∀ a, a < 0 → ∀ b, b < 0 → a ≠ b → (TJ10 a).2.1 ≠ (TJ10 b).2.1 := by decide +kernel
theorem tyJ10_ok : ∀ k, k < 0 → parseFieldDescriptor (TJ10 k).2.2.1 = some (tyJ10 k) := by decide +kernel
def RL : String := "ShaftLineLaw"
abbrev cL_law : ByteArray := code
def yL_law : MethodName := ⟨RL, "law", "([I)Z"⟩
abbrev vwCl : List vw_C := [(RX0, TX0, 17), (RX1, TX1, 2), (RX2, TX2, 7), (RX3, TX3, 15), (RX4, TX4, 6), (RX5, TX5, 5), (RX6, TX6, 4), (RX7, TX7, 17), (RX8, TX8, 44)]
/-- the words that a method may need: those of the tables that a call keeps -/
def TW : List Cond := lw_tbl.filter goodWord
theorem TW_good : GoodIn TW TW := fun w hw => ⟨hw, good_of_word (List.mem_filter.mp hw).2⟩
theorem TW_in : ∀ w ∈ TW, w ∈ lw_tbl := fun w hw => (List.mem_filter.mp hw).1
theorem tw_0 {w : Cond} {i : Nat} (h : (k2_sels lw_privs)[i]? = some w) (hg : goodWord w = true) : w ∈ TW := List.mem_filter.mpr ⟨List.mem_append_left _ (List.mem_of_getElem? h), hg⟩
theorem tw_1 {w : Cond} {i : Nat} (h : tables_1_1[i]? = some w) (hg : goodWord w = true) : w ∈ TW := List.mem_filter.mpr ⟨List.mem_append_right _ (List.mem_append_left _ (List.mem_of_getElem? h)), hg⟩
theorem tw_2 {w : Cond} {i : Nat} (h : tables_1_2[i]? = some w) (hg : goodWord w = true) : w ∈ TW := List.mem_filter.mpr ⟨List.mem_append_right _ (List.mem_append_right _ (List.mem_append_left _ (List.mem_of_getElem? h))), hg⟩
theorem tw_3 {w : Cond} {i : Nat} (h : tables_1_3[i]? = some w) (hg : goodWord w = true) : w ∈ TW := List.mem_filter.mpr ⟨List.mem_append_right _ (List.mem_append_right _ (List.mem_append_right _ (List.mem_append_left _ (List.mem_of_getElem? h)))), hg⟩
theorem tw_4 {w : Cond} {i : Nat} (h : tables_1_4[i]? = some w) (hg : goodWord w = true) : w ∈ TW := List.mem_filter.mpr ⟨List.mem_append_right _ (List.mem_append_right _ (List.mem_append_right _ (List.mem_append_right _ (List.mem_append_left _ (List.mem_of_getElem? h))))), hg⟩
theorem tw_5 {w : Cond} {i : Nat} (h : tables_1_5[i]? = some w) (hg : goodWord w = true) : w ∈ TW := List.mem_filter.mpr ⟨List.mem_append_right _ (List.mem_append_right _ (List.mem_append_right _ (List.mem_append_right _ (List.mem_append_right _ (List.mem_append_left _ (List.mem_of_getElem? h)))))), hg⟩
theorem tw_6 {w : Cond} {i : Nat} (h : tables_1_6[i]? = some w) (hg : goodWord w = true) : w ∈ TW := List.mem_filter.mpr ⟨List.mem_append_right _ (List.mem_append_right _ (List.mem_append_right _ (List.mem_append_right _ (List.mem_append_right _ (List.mem_append_right _ (List.mem_of_getElem? h)))))), hg⟩
theorem lay_X0_0 : u_lay RX0 TX0 0 ∈ TW := tw_1 (i := 127) rfl rfl
theorem lay_X0_1 : u_lay RX0 TX0 1 ∈ TW := tw_1 (i := 129) rfl rfl
theorem lay_X0_2 : u_lay RX0 TX0 2 ∈ TW := tw_1 (i := 131) rfl rfl
theorem lay_X0_3 : u_lay RX0 TX0 3 ∈ TW := tw_1 (i := 133) rfl rfl
theorem lay_X0_4 : u_lay RX0 TX0 4 ∈ TW := tw_1 (i := 135) rfl rfl
theorem lay_X0_5 : u_lay RX0 TX0 5 ∈ TW := tw_1 (i := 137) rfl rfl
theorem lay_X0_6 : u_lay RX0 TX0 6 ∈ TW := tw_1 (i := 139) rfl rfl
theorem lay_X0_7 : u_lay RX0 TX0 7 ∈ TW := tw_1 (i := 141) rfl rfl
theorem lay_X0_8 : u_lay RX0 TX0 8 ∈ TW := tw_1 (i := 143) rfl rfl
theorem lay_X0_9 : u_lay RX0 TX0 9 ∈ TW := tw_1 (i := 145) rfl rfl
theorem lay_X0_10 : u_lay RX0 TX0 10 ∈ TW := tw_1 (i := 147) rfl rfl
theorem lay_X0_11 : u_lay RX0 TX0 11 ∈ TW := tw_1 (i := 149) rfl rfl
theorem lay_X0_12 : u_lay RX0 TX0 12 ∈ TW := tw_1 (i := 151) rfl rfl
theorem lay_X0_13 : u_lay RX0 TX0 13 ∈ TW := tw_1 (i := 153) rfl rfl
theorem lay_X0_14 : u_lay RX0 TX0 14 ∈ TW := tw_1 (i := 155) rfl rfl
theorem lay_X0_15 : u_lay RX0 TX0 15 ∈ TW := tw_1 (i := 157) rfl rfl
theorem lay_X0_16 : u_lay RX0 TX0 16 ∈ TW := tw_1 (i := 159) rfl rfl
theorem inlX0 : ∀ w ∈ wsX00, w ∈ TW := by
  intro w hw
  obtain ⟨k, hk, rfl⟩ := List.mem_map.mp hw
  have hk := List.mem_range.mp hk
  match k, hk with
  | 0, _ => exact lay_X0_0
  | 1, _ => exact lay_X0_1
  | 2, _ => exact lay_X0_2
  | 3, _ => exact lay_X0_3
  | 4, _ => exact lay_X0_4
  | 5, _ => exact lay_X0_5
  | 6, _ => exact lay_X0_6
  | 7, _ => exact lay_X0_7
  | 8, _ => exact lay_X0_8
  | 9, _ => exact lay_X0_9
  | 10, _ => exact lay_X0_10
  | 11, _ => exact lay_X0_11
  | 12, _ => exact lay_X0_12
  | 13, _ => exact lay_X0_13
  | 14, _ => exact lay_X0_14
  | 15, _ => exact lay_X0_15
  | 16, _ => exact lay_X0_16
  | k + 17, h => exact absurd h (by omega)
theorem lay_X1_0 : u_lay RX1 TX1 0 ∈ TW := tw_2 (i := 11) rfl rfl
theorem lay_X1_1 : u_lay RX1 TX1 1 ∈ TW := tw_2 (i := 13) rfl rfl
theorem inlX1 : ∀ w ∈ wsX10, w ∈ TW := by
  intro w hw
  obtain ⟨k, hk, rfl⟩ := List.mem_map.mp hw
  have hk := List.mem_range.mp hk
  match k, hk with
  | 0, _ => exact lay_X1_0
  | 1, _ => exact lay_X1_1
  | k + 2, h => exact absurd h (by omega)
theorem lay_X2_0 : u_lay RX2 TX2 0 ∈ TW := tw_1 (i := 49) rfl rfl
theorem lay_X2_1 : u_lay RX2 TX2 1 ∈ TW := tw_1 (i := 51) rfl rfl
theorem lay_X2_2 : u_lay RX2 TX2 2 ∈ TW := tw_1 (i := 53) rfl rfl
theorem lay_X2_3 : u_lay RX2 TX2 3 ∈ TW := tw_1 (i := 55) rfl rfl
theorem lay_X2_4 : u_lay RX2 TX2 4 ∈ TW := tw_1 (i := 57) rfl rfl
theorem lay_X2_5 : u_lay RX2 TX2 5 ∈ TW := tw_1 (i := 59) rfl rfl
theorem lay_X2_6 : u_lay RX2 TX2 6 ∈ TW := tw_1 (i := 61) rfl rfl
theorem inlX2 : ∀ w ∈ wsX20, w ∈ TW := by
  intro w hw
  obtain ⟨k, hk, rfl⟩ := List.mem_map.mp hw
  have hk := List.mem_range.mp hk
  match k, hk with
  | 0, _ => exact lay_X2_0
  | 1, _ => exact lay_X2_1
  | 2, _ => exact lay_X2_2
  | 3, _ => exact lay_X2_3
  | 4, _ => exact lay_X2_4
  | 5, _ => exact lay_X2_5
  | 6, _ => exact lay_X2_6
  | k + 7, h => exact absurd h (by omega)
theorem lay_X3_0 : u_lay RX3 TX3 0 ∈ TW := tw_1 (i := 212) rfl rfl
theorem lay_X3_1 : u_lay RX3 TX3 1 ∈ TW := tw_1 (i := 214) rfl rfl
theorem lay_X3_2 : u_lay RX3 TX3 2 ∈ TW := tw_1 (i := 216) rfl rfl
theorem lay_X3_3 : u_lay RX3 TX3 3 ∈ TW := tw_1 (i := 218) rfl rfl
theorem lay_X3_4 : u_lay RX3 TX3 4 ∈ TW := tw_1 (i := 220) rfl rfl
theorem lay_X3_5 : u_lay RX3 TX3 5 ∈ TW := tw_1 (i := 222) rfl rfl
theorem lay_X3_6 : u_lay RX3 TX3 6 ∈ TW := tw_1 (i := 224) rfl rfl
theorem lay_X3_7 : u_lay RX3 TX3 7 ∈ TW := tw_1 (i := 226) rfl rfl
theorem lay_X3_8 : u_lay RX3 TX3 8 ∈ TW := tw_1 (i := 228) rfl rfl
theorem lay_X3_9 : u_lay RX3 TX3 9 ∈ TW := tw_1 (i := 230) rfl rfl
theorem lay_X3_10 : u_lay RX3 TX3 10 ∈ TW := tw_1 (i := 232) rfl rfl
theorem lay_X3_11 : u_lay RX3 TX3 11 ∈ TW := tw_1 (i := 234) rfl rfl
theorem lay_X3_12 : u_lay RX3 TX3 12 ∈ TW := tw_1 (i := 236) rfl rfl
theorem lay_X3_13 : u_lay RX3 TX3 13 ∈ TW := tw_1 (i := 238) rfl rfl
theorem lay_X3_14 : u_lay RX3 TX3 14 ∈ TW := tw_2 (i := 0) rfl rfl
theorem inlX3 : ∀ w ∈ wsX30, w ∈ TW := by
  intro w hw
  obtain ⟨k, hk, rfl⟩ := List.mem_map.mp hw
  have hk := List.mem_range.mp hk
  match k, hk with
  | 0, _ => exact lay_X3_0
  | 1, _ => exact lay_X3_1
  | 2, _ => exact lay_X3_2
  | 3, _ => exact lay_X3_3
  | 4, _ => exact lay_X3_4
  | 5, _ => exact lay_X3_5
  | 6, _ => exact lay_X3_6
  | 7, _ => exact lay_X3_7
  | 8, _ => exact lay_X3_8
  | 9, _ => exact lay_X3_9
  | 10, _ => exact lay_X3_10
  | 11, _ => exact lay_X3_11
  | 12, _ => exact lay_X3_12
  | 13, _ => exact lay_X3_13
  | 14, _ => exact lay_X3_14
  | k + 15, h => exact absurd h (by omega)
theorem lay_X4_0 : u_lay RX4 TX4 0 ∈ TW := tw_1 (i := 82) rfl rfl
theorem lay_X4_1 : u_lay RX4 TX4 1 ∈ TW := tw_1 (i := 84) rfl rfl
theorem lay_X4_2 : u_lay RX4 TX4 2 ∈ TW := tw_1 (i := 86) rfl rfl
theorem lay_X4_3 : u_lay RX4 TX4 3 ∈ TW := tw_1 (i := 88) rfl rfl
theorem lay_X4_4 : u_lay RX4 TX4 4 ∈ TW := tw_1 (i := 90) rfl rfl
theorem lay_X4_5 : u_lay RX4 TX4 5 ∈ TW := tw_1 (i := 92) rfl rfl
theorem inlX4 : ∀ w ∈ wsX40, w ∈ TW := by
  intro w hw
  obtain ⟨k, hk, rfl⟩ := List.mem_map.mp hw
  have hk := List.mem_range.mp hk
  match k, hk with
  | 0, _ => exact lay_X4_0
  | 1, _ => exact lay_X4_1
  | 2, _ => exact lay_X4_2
  | 3, _ => exact lay_X4_3
  | 4, _ => exact lay_X4_4
  | 5, _ => exact lay_X4_5
  | k + 6, h => exact absurd h (by omega)
theorem lay_X5_0 : u_lay RX5 TX5 0 ∈ TW := tw_1 (i := 178) rfl rfl
theorem lay_X5_1 : u_lay RX5 TX5 1 ∈ TW := tw_1 (i := 180) rfl rfl
theorem lay_X5_2 : u_lay RX5 TX5 2 ∈ TW := tw_1 (i := 182) rfl rfl
theorem lay_X5_3 : u_lay RX5 TX5 3 ∈ TW := tw_1 (i := 184) rfl rfl
theorem lay_X5_4 : u_lay RX5 TX5 4 ∈ TW := tw_1 (i := 186) rfl rfl
theorem inlX5 : ∀ w ∈ wsX50, w ∈ TW := by
  intro w hw
  obtain ⟨k, hk, rfl⟩ := List.mem_map.mp hw
  have hk := List.mem_range.mp hk
  match k, hk with
  | 0, _ => exact lay_X5_0
  | 1, _ => exact lay_X5_1
  | 2, _ => exact lay_X5_2
  | 3, _ => exact lay_X5_3
  | 4, _ => exact lay_X5_4
  | k + 5, h => exact absurd h (by omega)
theorem lay_X6_0 : u_lay RX6 TX6 0 ∈ TW := tw_2 (i := 29) rfl rfl
theorem lay_X6_1 : u_lay RX6 TX6 1 ∈ TW := tw_2 (i := 31) rfl rfl
theorem lay_X6_2 : u_lay RX6 TX6 2 ∈ TW := tw_2 (i := 33) rfl rfl
theorem lay_X6_3 : u_lay RX6 TX6 3 ∈ TW := tw_2 (i := 35) rfl rfl
theorem inlX6 : ∀ w ∈ wsX60, w ∈ TW := by
  intro w hw
  obtain ⟨k, hk, rfl⟩ := List.mem_map.mp hw
  have hk := List.mem_range.mp hk
  match k, hk with
  | 0, _ => exact lay_X6_0
  | 1, _ => exact lay_X6_1
  | 2, _ => exact lay_X6_2
  | 3, _ => exact lay_X6_3
  | k + 4, h => exact absurd h (by omega)
theorem lay_X7_0 : u_lay RX7 TX7 0 ∈ TW := tw_2 (i := 55) rfl rfl
theorem lay_X7_1 : u_lay RX7 TX7 1 ∈ TW := tw_2 (i := 57) rfl rfl
theorem lay_X7_2 : u_lay RX7 TX7 2 ∈ TW := tw_2 (i := 59) rfl rfl
theorem lay_X7_3 : u_lay RX7 TX7 3 ∈ TW := tw_2 (i := 61) rfl rfl
theorem lay_X7_4 : u_lay RX7 TX7 4 ∈ TW := tw_2 (i := 63) rfl rfl
theorem lay_X7_5 : u_lay RX7 TX7 5 ∈ TW := tw_2 (i := 65) rfl rfl
theorem lay_X7_6 : u_lay RX7 TX7 6 ∈ TW := tw_2 (i := 67) rfl rfl
theorem lay_X7_7 : u_lay RX7 TX7 7 ∈ TW := tw_2 (i := 69) rfl rfl
theorem lay_X7_8 : u_lay RX7 TX7 8 ∈ TW := tw_2 (i := 71) rfl rfl
theorem lay_X7_9 : u_lay RX7 TX7 9 ∈ TW := tw_2 (i := 73) rfl rfl
theorem lay_X7_10 : u_lay RX7 TX7 10 ∈ TW := tw_2 (i := 75) rfl rfl
theorem lay_X7_11 : u_lay RX7 TX7 11 ∈ TW := tw_2 (i := 77) rfl rfl
theorem lay_X7_12 : u_lay RX7 TX7 12 ∈ TW := tw_2 (i := 79) rfl rfl
theorem lay_X7_13 : u_lay RX7 TX7 13 ∈ TW := tw_2 (i := 81) rfl rfl
theorem lay_X7_14 : u_lay RX7 TX7 14 ∈ TW := tw_2 (i := 83) rfl rfl
theorem lay_X7_15 : u_lay RX7 TX7 15 ∈ TW := tw_2 (i := 85) rfl rfl
theorem lay_X7_16 : u_lay RX7 TX7 16 ∈ TW := tw_2 (i := 87) rfl rfl
theorem inlX7 : ∀ w ∈ wsX70, w ∈ TW := by
  intro w hw
  obtain ⟨k, hk, rfl⟩ := List.mem_map.mp hw
  have hk := List.mem_range.mp hk
  match k, hk with
  | 0, _ => exact lay_X7_0
  | 1, _ => exact lay_X7_1
  | 2, _ => exact lay_X7_2
  | 3, _ => exact lay_X7_3
  | 4, _ => exact lay_X7_4
  | 5, _ => exact lay_X7_5
  | 6, _ => exact lay_X7_6
  | 7, _ => exact lay_X7_7
  | 8, _ => exact lay_X7_8
  | 9, _ => exact lay_X7_9
  | 10, _ => exact lay_X7_10
  | 11, _ => exact lay_X7_11
  | 12, _ => exact lay_X7_12
  | 13, _ => exact lay_X7_13
  | 14, _ => exact lay_X7_14
  | 15, _ => exact lay_X7_15
  | 16, _ => exact lay_X7_16
  | k + 17, h => exact absurd h (by omega)
theorem lay_X8_0 : u_lay RX8 TX8 0 ∈ TW := tw_4 (i := 176) rfl rfl
theorem lay_X8_1 : u_lay RX8 TX8 1 ∈ TW := tw_4 (i := 178) rfl rfl
theorem lay_X8_2 : u_lay RX8 TX8 2 ∈ TW := tw_4 (i := 180) rfl rfl
theorem lay_X8_3 : u_lay RX8 TX8 3 ∈ TW := tw_4 (i := 182) rfl rfl
theorem lay_X8_4 : u_lay RX8 TX8 4 ∈ TW := tw_4 (i := 184) rfl rfl
theorem lay_X8_5 : u_lay RX8 TX8 5 ∈ TW := tw_4 (i := 186) rfl rfl
theorem lay_X8_6 : u_lay RX8 TX8 6 ∈ TW := tw_4 (i := 188) rfl rfl
theorem lay_X8_7 : u_lay RX8 TX8 7 ∈ TW := tw_4 (i := 190) rfl rfl
theorem lay_X8_8 : u_lay RX8 TX8 8 ∈ TW := tw_4 (i := 192) rfl rfl
theorem lay_X8_9 : u_lay RX8 TX8 9 ∈ TW := tw_4 (i := 194) rfl rfl
theorem lay_X8_10 : u_lay RX8 TX8 10 ∈ TW := tw_4 (i := 196) rfl rfl
theorem lay_X8_11 : u_lay RX8 TX8 11 ∈ TW := tw_4 (i := 198) rfl rfl
theorem lay_X8_12 : u_lay RX8 TX8 12 ∈ TW := tw_4 (i := 200) rfl rfl
theorem lay_X8_13 : u_lay RX8 TX8 13 ∈ TW := tw_4 (i := 202) rfl rfl
theorem lay_X8_14 : u_lay RX8 TX8 14 ∈ TW := tw_4 (i := 204) rfl rfl
theorem lay_X8_15 : u_lay RX8 TX8 15 ∈ TW := tw_4 (i := 206) rfl rfl
theorem lay_X8_16 : u_lay RX8 TX8 16 ∈ TW := tw_4 (i := 208) rfl rfl
theorem lay_X8_17 : u_lay RX8 TX8 17 ∈ TW := tw_4 (i := 210) rfl rfl
theorem lay_X8_18 : u_lay RX8 TX8 18 ∈ TW := tw_4 (i := 212) rfl rfl
theorem lay_X8_19 : u_lay RX8 TX8 19 ∈ TW := tw_4 (i := 214) rfl rfl
theorem lay_X8_20 : u_lay RX8 TX8 20 ∈ TW := tw_4 (i := 216) rfl rfl
theorem lay_X8_21 : u_lay RX8 TX8 21 ∈ TW := tw_4 (i := 218) rfl rfl
theorem lay_X8_22 : u_lay RX8 TX8 22 ∈ TW := tw_4 (i := 220) rfl rfl
theorem lay_X8_23 : u_lay RX8 TX8 23 ∈ TW := tw_4 (i := 222) rfl rfl
theorem lay_X8_24 : u_lay RX8 TX8 24 ∈ TW := tw_4 (i := 224) rfl rfl
theorem lay_X8_25 : u_lay RX8 TX8 25 ∈ TW := tw_4 (i := 226) rfl rfl
theorem lay_X8_26 : u_lay RX8 TX8 26 ∈ TW := tw_4 (i := 228) rfl rfl
theorem lay_X8_27 : u_lay RX8 TX8 27 ∈ TW := tw_4 (i := 230) rfl rfl
theorem lay_X8_28 : u_lay RX8 TX8 28 ∈ TW := tw_4 (i := 232) rfl rfl
theorem lay_X8_29 : u_lay RX8 TX8 29 ∈ TW := tw_4 (i := 234) rfl rfl
theorem lay_X8_30 : u_lay RX8 TX8 30 ∈ TW := tw_4 (i := 236) rfl rfl
theorem lay_X8_31 : u_lay RX8 TX8 31 ∈ TW := tw_4 (i := 238) rfl rfl
theorem lay_X8_32 : u_lay RX8 TX8 32 ∈ TW := tw_5 (i := 0) rfl rfl
theorem lay_X8_33 : u_lay RX8 TX8 33 ∈ TW := tw_5 (i := 2) rfl rfl
theorem lay_X8_34 : u_lay RX8 TX8 34 ∈ TW := tw_5 (i := 4) rfl rfl
theorem lay_X8_35 : u_lay RX8 TX8 35 ∈ TW := tw_5 (i := 6) rfl rfl
theorem lay_X8_36 : u_lay RX8 TX8 36 ∈ TW := tw_5 (i := 8) rfl rfl
theorem lay_X8_37 : u_lay RX8 TX8 37 ∈ TW := tw_5 (i := 10) rfl rfl
theorem lay_X8_38 : u_lay RX8 TX8 38 ∈ TW := tw_5 (i := 12) rfl rfl
theorem lay_X8_39 : u_lay RX8 TX8 39 ∈ TW := tw_5 (i := 14) rfl rfl
theorem lay_X8_40 : u_lay RX8 TX8 40 ∈ TW := tw_5 (i := 16) rfl rfl
theorem lay_X8_41 : u_lay RX8 TX8 41 ∈ TW := tw_5 (i := 18) rfl rfl
theorem lay_X8_42 : u_lay RX8 TX8 42 ∈ TW := tw_5 (i := 20) rfl rfl
theorem lay_X8_43 : u_lay RX8 TX8 43 ∈ TW := tw_5 (i := 22) rfl rfl
theorem inlX8 : ∀ w ∈ wsX80, w ∈ TW := by
  intro w hw
  obtain ⟨k, hk, rfl⟩ := List.mem_map.mp hw
  have hk := List.mem_range.mp hk
  match k, hk with
  | 0, _ => exact lay_X8_0
  | 1, _ => exact lay_X8_1
  | 2, _ => exact lay_X8_2
  | 3, _ => exact lay_X8_3
  | 4, _ => exact lay_X8_4
  | 5, _ => exact lay_X8_5
  | 6, _ => exact lay_X8_6
  | 7, _ => exact lay_X8_7
  | 8, _ => exact lay_X8_8
  | 9, _ => exact lay_X8_9
  | 10, _ => exact lay_X8_10
  | 11, _ => exact lay_X8_11
  | 12, _ => exact lay_X8_12
  | 13, _ => exact lay_X8_13
  | 14, _ => exact lay_X8_14
  | 15, _ => exact lay_X8_15
  | 16, _ => exact lay_X8_16
  | 17, _ => exact lay_X8_17
  | 18, _ => exact lay_X8_18
  | 19, _ => exact lay_X8_19
  | 20, _ => exact lay_X8_20
  | 21, _ => exact lay_X8_21
  | 22, _ => exact lay_X8_22
  | 23, _ => exact lay_X8_23
  | 24, _ => exact lay_X8_24
  | 25, _ => exact lay_X8_25
  | 26, _ => exact lay_X8_26
  | 27, _ => exact lay_X8_27
  | 28, _ => exact lay_X8_28
  | 29, _ => exact lay_X8_29
  | 30, _ => exact lay_X8_30
  | 31, _ => exact lay_X8_31
  | 32, _ => exact lay_X8_32
  | 33, _ => exact lay_X8_33
  | 34, _ => exact lay_X8_34
  | 35, _ => exact lay_X8_35
  | 36, _ => exact lay_X8_36
  | 37, _ => exact lay_X8_37
  | 38, _ => exact lay_X8_38
  | 39, _ => exact lay_X8_39
  | 40, _ => exact lay_X8_40
  | 41, _ => exact lay_X8_41
  | 42, _ => exact lay_X8_42
  | 43, _ => exact lay_X8_43
  | k + 44, h => exact absurd h (by omega)
theorem cl_RL_7 : Cond.classLink RL 7 RX7 ∈ TW := tw_1 (i := 13) rfl rfl
theorem ins_RX7 : Cond.instantiable RX7 17 ∈ TW := tw_1 (i := 14) rfl rfl
theorem ini_RX7 : Cond.initialized RX7 ∈ TW := tw_1 (i := 1) rfl rfl
theorem cl_RL_10 : Cond.classLink RL 10 RX8 ∈ TW := tw_4 (i := 126) rfl rfl
theorem ins_RX8 : Cond.instantiable RX8 44 ∈ TW := tw_4 (i := 127) rfl rfl
theorem ini_RX8 : Cond.initialized RX8 ∈ TW := tw_1 (i := 9) rfl rfl
theorem ck_RL_45 : Cond.constantLong RL 45 (4294967295) ∈ TW := tw_6 (i := 100) rfl rfl
theorem ml_RL_9 : Cond.methodLink RL 9 yX7_init ∈ TW := tw_1 (i := 15) rfl rfl
theorem im_yX7_init : Cond.instanceMethod yX7_init ∈ TW := tw_1 (i := 16) rfl rfl
theorem co_yX7_init : Cond.code yX7_init cX7_init 2 none ∈ TW := tw_1 (i := 17) rfl rfl
theorem ml_RX7_3 : Cond.methodLink RX7 3 objectInit ∈ TW := tw_1 (i := 18) rfl rfl
theorem im_objectInit : Cond.instanceMethod objectInit ∈ TW := tw_1 (i := 19) rfl rfl
theorem co_objectInit : Cond.code objectInit ⟨#[0xb1]⟩ 1 none ∈ TW := tw_1 (i := 20) rfl rfl
theorem cl_RX7_9 : Cond.classLink RX7 9 RX2 ∈ TW := tw_1 (i := 21) rfl rfl
theorem ins_RX2 : Cond.instantiable RX2 7 ∈ TW := tw_1 (i := 22) rfl rfl
theorem ini_RX2 : Cond.initialized RX2 ∈ TW := tw_1 (i := 2) rfl rfl
theorem fl_RX7_12 : Cond.fieldLink RX7 12 "ShaftLine" "line" "LShaftLine$Line;" ∈ TW := tw_2 (i := 38) rfl rfl
theorem cl_RX7_16 : Cond.classLink RX7 16 "[[I" ∈ TW := tw_1 (i := 65) rfl rfl
theorem ac_int : Cond.arrayClass .int ∈ TW := tw_1 (i := 64) rfl rfl
theorem fl_RX7_18 : Cond.fieldLink RX7 18 "ShaftLine" "rises" "[[I" ∈ TW := tw_2 (i := 39) rfl rfl
theorem ac_byte : Cond.arrayClass .byte ∈ TW := tw_1 (i := 95) rfl rfl
theorem fl_RX7_21 : Cond.fieldLink RX7 21 "ShaftLine" "tape" "[B" ∈ TW := tw_2 (i := 40) rfl rfl
theorem fl_RX7_25 : Cond.fieldLink RX7 25 "ShaftLine" "taped" "I" ∈ TW := tw_2 (i := 41) rfl rfl
theorem cl_RX7_29 : Cond.classLink RX7 29 RX4 ∈ TW := tw_1 (i := 67) rfl rfl
theorem ins_RX4 : Cond.instantiable RX4 6 ∈ TW := tw_1 (i := 68) rfl rfl
theorem ini_RX4 : Cond.initialized RX4 ∈ TW := tw_1 (i := 3) rfl rfl
theorem fl_RX7_32 : Cond.fieldLink RX7 32 "ShaftLine" "reader" "LShaftLine$Reader;" ∈ TW := tw_2 (i := 42) rfl rfl
theorem cl_RX7_36 : Cond.classLink RX7 36 RX6 ∈ TW := tw_1 (i := 96) rfl rfl
theorem fl_RX7_38 : Cond.fieldLink RX7 38 "ShaftLine" "sheets" "[LShaftLine$Sheet;" ∈ TW := tw_2 (i := 43) rfl rfl
theorem cl_RX7_42 : Cond.classLink RX7 42 RX0 ∈ TW := tw_1 (i := 98) rfl rfl
theorem ins_RX0 : Cond.instantiable RX0 17 ∈ TW := tw_1 (i := 99) rfl rfl
theorem ini_RX0 : Cond.initialized RX0 ∈ TW := tw_1 (i := 4) rfl rfl
theorem fl_RX7_45 : Cond.fieldLink RX7 45 "ShaftLine" "beam" "LShaftLine$Beam;" ∈ TW := tw_2 (i := 44) rfl rfl
theorem fl_RX7_49 : Cond.fieldLink RX7 49 "ShaftLine" "rightBeam" "LShaftLine$Beam;" ∈ TW := tw_2 (i := 45) rfl rfl
theorem cl_RX7_52 : Cond.classLink RX7 52 RX5 ∈ TW := tw_1 (i := 163) rfl rfl
theorem ins_RX5 : Cond.instantiable RX5 5 ∈ TW := tw_1 (i := 164) rfl rfl
theorem ini_RX5 : Cond.initialized RX5 ∈ TW := tw_1 (i := 5) rfl rfl
theorem fl_RX7_55 : Cond.fieldLink RX7 55 "ShaftLine" "rest" "LShaftLine$Rest;" ∈ TW := tw_2 (i := 46) rfl rfl
theorem fl_RX7_59 : Cond.fieldLink RX7 59 "ShaftLine" "restState" "I" ∈ TW := tw_2 (i := 47) rfl rfl
theorem fl_RX7_62 : Cond.fieldLink RX7 62 "ShaftLine" "restFalls" "Z" ∈ TW := tw_2 (i := 48) rfl rfl
theorem fl_RX7_66 : Cond.fieldLink RX7 66 "ShaftLine" "low" "I" ∈ TW := tw_2 (i := 49) rfl rfl
theorem fl_RX7_69 : Cond.fieldLink RX7 69 "ShaftLine" "high" "I" ∈ TW := tw_2 (i := 50) rfl rfl
theorem cl_RX7_72 : Cond.classLink RX7 72 RX3 ∈ TW := tw_1 (i := 189) rfl rfl
theorem ins_RX3 : Cond.instantiable RX3 15 ∈ TW := tw_1 (i := 190) rfl rfl
theorem ini_RX3 : Cond.initialized RX3 ∈ TW := tw_1 (i := 6) rfl rfl
theorem fl_RX7_75 : Cond.fieldLink RX7 75 "ShaftLine" "planner" "LShaftLine$Planner;" ∈ TW := tw_2 (i := 51) rfl rfl
theorem fl_RX7_79 : Cond.fieldLink RX7 79 "ShaftLine" "plannedStates" "I" ∈ TW := tw_2 (i := 52) rfl rfl
theorem cl_RX7_82 : Cond.classLink RX7 82 RX1 ∈ TW := tw_2 (i := 3) rfl rfl
theorem ins_RX1 : Cond.instantiable RX1 2 ∈ TW := tw_2 (i := 4) rfl rfl
theorem ini_RX1 : Cond.initialized RX1 ∈ TW := tw_1 (i := 7) rfl rfl
theorem fl_RX7_85 : Cond.fieldLink RX7 85 "ShaftLine" "answer" "LShaftLine$Fraction;" ∈ TW := tw_2 (i := 53) rfl rfl
theorem fl_RX7_89 : Cond.fieldLink RX7 89 "ShaftLine" "rightAnswer" "LShaftLine$Fraction;" ∈ TW := tw_2 (i := 54) rfl rfl
theorem ins_RX6 : Cond.instantiable RX6 4 ∈ TW := tw_2 (i := 16) rfl rfl
theorem ini_RX6 : Cond.initialized RX6 ∈ TW := tw_1 (i := 8) rfl rfl
theorem im_yX2_init : Cond.instanceMethod yX2_init ∈ TW := tw_1 (i := 24) rfl rfl
theorem co_yX2_init : Cond.code yX2_init cX2_init 1 none ∈ TW := tw_1 (i := 25) rfl rfl
theorem ml_RX2_3 : Cond.methodLink RX2 3 objectInit ∈ TW := tw_1 (i := 26) rfl rfl
theorem fl_RX2_9 : Cond.fieldLink RX2 9 "ShaftLine$Line" "count" "I" ∈ TW := tw_1 (i := 27) rfl rfl
theorem fl_RX2_15 : Cond.fieldLink RX2 15 "ShaftLine$Line" "place" "[I" ∈ TW := tw_1 (i := 31) rfl rfl
theorem fl_RX2_19 : Cond.fieldLink RX2 19 "ShaftLine$Line" "offset" "[I" ∈ TW := tw_1 (i := 34) rfl rfl
theorem fl_RX2_22 : Cond.fieldLink RX2 22 "ShaftLine$Line" "wear" "[I" ∈ TW := tw_1 (i := 37) rfl rfl
theorem fl_RX2_25 : Cond.fieldLink RX2 25 "ShaftLine$Line" "reading" "[I" ∈ TW := tw_1 (i := 39) rfl rfl
theorem fl_RX2_28 : Cond.fieldLink RX2 28 "ShaftLine$Line" "weight" "[I" ∈ TW := tw_1 (i := 41) rfl rfl
theorem fl_RX2_31 : Cond.fieldLink RX2 31 "ShaftLine$Line" "stiffness" "I" ∈ TW := tw_1 (i := 45) rfl rfl
theorem im_yX4_init : Cond.instanceMethod yX4_init ∈ TW := tw_1 (i := 70) rfl rfl
theorem co_yX4_init : Cond.code yX4_init cX4_init 1 none ∈ TW := tw_1 (i := 71) rfl rfl
theorem ml_RX4_3 : Cond.methodLink RX4 3 objectInit ∈ TW := tw_1 (i := 72) rfl rfl
theorem cl_RX4_9 : Cond.classLink RX4 9 RX2 ∈ TW := tw_1 (i := 73) rfl rfl
theorem fl_RX4_12 : Cond.fieldLink RX4 12 "ShaftLine$Reader" "draft" "LShaftLine$Line;" ∈ TW := tw_1 (i := 75) rfl rfl
theorem fl_RX4_18 : Cond.fieldLink RX4 18 "ShaftLine$Reader" "text" "[B" ∈ TW := tw_1 (i := 77) rfl rfl
theorem fl_RX4_22 : Cond.fieldLink RX4 22 "ShaftLine$Reader" "length" "I" ∈ TW := tw_1 (i := 78) rfl rfl
theorem fl_RX4_26 : Cond.fieldLink RX4 26 "ShaftLine$Reader" "at" "I" ∈ TW := tw_1 (i := 79) rfl rfl
theorem fl_RX4_29 : Cond.fieldLink RX4 29 "ShaftLine$Reader" "numberAt" "I" ∈ TW := tw_1 (i := 80) rfl rfl
theorem fl_RX4_32 : Cond.fieldLink RX4 32 "ShaftLine$Reader" "fault" "I" ∈ TW := tw_1 (i := 81) rfl rfl
theorem im_yX0_init : Cond.instanceMethod yX0_init ∈ TW := tw_1 (i := 101) rfl rfl
theorem co_yX0_init : Cond.code yX0_init cX0_init 1 none ∈ TW := tw_1 (i := 102) rfl rfl
theorem ml_RX0_3 : Cond.methodLink RX0 3 objectInit ∈ TW := tw_1 (i := 103) rfl rfl
theorem fl_RX0_9 : Cond.fieldLink RX0 9 "ShaftLine$Beam" "count" "I" ∈ TW := tw_1 (i := 104) rfl rfl
theorem fl_RX0_15 : Cond.fieldLink RX0 15 "ShaftLine$Beam" "place" "[I" ∈ TW := tw_1 (i := 107) rfl rfl
theorem fl_RX0_19 : Cond.fieldLink RX0 19 "ShaftLine$Beam" "stand" "[I" ∈ TW := tw_1 (i := 108) rfl rfl
theorem ac_long : Cond.arrayClass .long ∈ TW := tw_1 (i := 162) rfl rfl
theorem fl_RX0_22 : Cond.fieldLink RX0 22 "ShaftLine$Beam" "push" "[J" ∈ TW := tw_1 (i := 109) rfl rfl
theorem fl_RX0_26 : Cond.fieldLink RX0 26 "ShaftLine$Beam" "below" "J" ∈ TW := tw_1 (i := 112) rfl rfl
theorem fl_RX0_30 : Cond.fieldLink RX0 30 "ShaftLine$Beam" "stiff" "J" ∈ TW := tw_1 (i := 115) rfl rfl
theorem fl_RX0_33 : Cond.fieldLink RX0 33 "ShaftLine$Beam" "wide" "J" ∈ TW := tw_1 (i := 116) rfl rfl
theorem fl_RX0_36 : Cond.fieldLink RX0 36 "ShaftLine$Beam" "all" "J" ∈ TW := tw_1 (i := 117) rfl rfl
theorem fl_RX0_39 : Cond.fieldLink RX0 39 "ShaftLine$Beam" "moment" "J" ∈ TW := tw_1 (i := 118) rfl rfl
theorem fl_RX0_42 : Cond.fieldLink RX0 42 "ShaftLine$Beam" "squares" "[J" ∈ TW := tw_1 (i := 119) rfl rfl
theorem fl_RX0_45 : Cond.fieldLink RX0 45 "ShaftLine$Beam" "cubes" "[J" ∈ TW := tw_1 (i := 120) rfl rfl
theorem fl_RX0_48 : Cond.fieldLink RX0 48 "ShaftLine$Beam" "span" "[J" ∈ TW := tw_1 (i := 121) rfl rfl
theorem fl_RX0_51 : Cond.fieldLink RX0 51 "ShaftLine$Beam" "lack" "[J" ∈ TW := tw_1 (i := 122) rfl rfl
theorem fl_RX0_54 : Cond.fieldLink RX0 54 "ShaftLine$Beam" "turn" "[J" ∈ TW := tw_1 (i := 123) rfl rfl
theorem fl_RX0_57 : Cond.fieldLink RX0 57 "ShaftLine$Beam" "bend" "[J" ∈ TW := tw_1 (i := 124) rfl rfl
theorem fl_RX0_60 : Cond.fieldLink RX0 60 "ShaftLine$Beam" "ahead" "[J" ∈ TW := tw_1 (i := 125) rfl rfl
theorem fl_RX0_63 : Cond.fieldLink RX0 63 "ShaftLine$Beam" "behind" "[J" ∈ TW := tw_1 (i := 126) rfl rfl
theorem im_yX5_init : Cond.instanceMethod yX5_init ∈ TW := tw_1 (i := 166) rfl rfl
theorem co_yX5_init : Cond.code yX5_init cX5_init 1 none ∈ TW := tw_1 (i := 167) rfl rfl
theorem ml_RX5_3 : Cond.methodLink RX5 3 objectInit ∈ TW := tw_1 (i := 168) rfl rfl
theorem cl_RX5_9 : Cond.classLink RX5 9 RX0 ∈ TW := tw_1 (i := 169) rfl rfl
theorem fl_RX5_12 : Cond.fieldLink RX5 12 "ShaftLine$Rest" "beam" "LShaftLine$Beam;" ∈ TW := tw_1 (i := 171) rfl rfl
theorem fl_RX5_18 : Cond.fieldLink RX5 18 "ShaftLine$Rest" "count" "I" ∈ TW := tw_1 (i := 174) rfl rfl
theorem fl_RX5_22 : Cond.fieldLink RX5 22 "ShaftLine$Rest" "place" "[I" ∈ TW := tw_1 (i := 175) rfl rfl
theorem fl_RX5_26 : Cond.fieldLink RX5 26 "ShaftLine$Rest" "stand" "[I" ∈ TW := tw_1 (i := 176) rfl rfl
theorem fl_RX5_29 : Cond.fieldLink RX5 29 "ShaftLine$Rest" "seat" "[I" ∈ TW := tw_1 (i := 177) rfl rfl
theorem im_yX3_init : Cond.instanceMethod yX3_init ∈ TW := tw_1 (i := 192) rfl rfl
theorem co_yX3_init : Cond.code yX3_init cX3_init 1 none ∈ TW := tw_1 (i := 193) rfl rfl
theorem ml_RX3_3 : Cond.methodLink RX3 3 objectInit ∈ TW := tw_1 (i := 194) rfl rfl
theorem fl_RX3_9 : Cond.fieldLink RX3 9 "ShaftLine$Planner" "moved" "I" ∈ TW := tw_1 (i := 195) rfl rfl
theorem fl_RX3_15 : Cond.fieldLink RX3 15 "ShaftLine$Planner" "best" "[I" ∈ TW := tw_1 (i := 197) rfl rfl
theorem fl_RX3_19 : Cond.fieldLink RX3 19 "ShaftLine$Planner" "line" "LShaftLine$Line;" ∈ TW := tw_1 (i := 199) rfl rfl
theorem fl_RX3_23 : Cond.fieldLink RX3 23 "ShaftLine$Planner" "low" "J" ∈ TW := tw_1 (i := 200) rfl rfl
theorem fl_RX3_27 : Cond.fieldLink RX3 27 "ShaftLine$Planner" "high" "J" ∈ TW := tw_1 (i := 201) rfl rfl
theorem fl_RX3_30 : Cond.fieldLink RX3 30 "ShaftLine$Planner" "bestSum" "I" ∈ TW := tw_1 (i := 202) rfl rfl
theorem fl_RX3_33 : Cond.fieldLink RX3 33 "ShaftLine$Planner" "sets" "I" ∈ TW := tw_1 (i := 203) rfl rfl
theorem fl_RX3_36 : Cond.fieldLink RX3 36 "ShaftLine$Planner" "codes" "[I" ∈ TW := tw_1 (i := 204) rfl rfl
theorem fl_RX3_39 : Cond.fieldLink RX3 39 "ShaftLine$Planner" "members" "[I" ∈ TW := tw_1 (i := 205) rfl rfl
theorem fl_RX3_42 : Cond.fieldLink RX3 42 "ShaftLine$Planner" "belows" "[J" ∈ TW := tw_1 (i := 206) rfl rfl
theorem fl_RX3_46 : Cond.fieldLink RX3 46 "ShaftLine$Planner" "bases" "[J" ∈ TW := tw_1 (i := 207) rfl rfl
theorem fl_RX3_49 : Cond.fieldLink RX3 49 "ShaftLine$Planner" "gains" "[J" ∈ TW := tw_1 (i := 208) rfl rfl
theorem fl_RX3_52 : Cond.fieldLink RX3 52 "ShaftLine$Planner" "margins" "[J" ∈ TW := tw_1 (i := 209) rfl rfl
theorem fl_RX3_55 : Cond.fieldLink RX3 55 "ShaftLine$Planner" "moves" "[I" ∈ TW := tw_1 (i := 210) rfl rfl
theorem fl_RX3_58 : Cond.fieldLink RX3 58 "ShaftLine$Planner" "noWeights" "[I" ∈ TW := tw_1 (i := 211) rfl rfl
theorem im_yX1_init : Cond.instanceMethod yX1_init ∈ TW := tw_2 (i := 6) rfl rfl
theorem co_yX1_init : Cond.code yX1_init cX1_init 1 none ∈ TW := tw_2 (i := 7) rfl rfl
theorem ml_RX1_1 : Cond.methodLink RX1 1 objectInit ∈ TW := tw_2 (i := 8) rfl rfl
theorem fl_RX1_7 : Cond.fieldLink RX1 7 "ShaftLine$Fraction" "above" "J" ∈ TW := tw_2 (i := 9) rfl rfl
theorem fl_RX1_13 : Cond.fieldLink RX1 13 "ShaftLine$Fraction" "below" "J" ∈ TW := tw_2 (i := 10) rfl rfl
theorem im_yX6_init : Cond.instanceMethod yX6_init ∈ TW := tw_2 (i := 18) rfl rfl
theorem co_yX6_init : Cond.code yX6_init cX6_init 1 none ∈ TW := tw_2 (i := 19) rfl rfl
theorem ml_RX6_3 : Cond.methodLink RX6 3 objectInit ∈ TW := tw_2 (i := 20) rfl rfl
theorem fl_RX6_9 : Cond.fieldLink RX6 9 "ShaftLine$Sheet" "held" "Z" ∈ TW := tw_2 (i := 21) rfl rfl
theorem fl_RX6_15 : Cond.fieldLink RX6 15 "ShaftLine$Sheet" "lane" "I" ∈ TW := tw_2 (i := 23) rfl rfl
theorem fl_RX6_19 : Cond.fieldLink RX6 19 "ShaftLine$Sheet" "count" "I" ∈ TW := tw_2 (i := 25) rfl rfl
theorem fl_RX6_22 : Cond.fieldLink RX6 22 "ShaftLine$Sheet" "items" "[I" ∈ TW := tw_2 (i := 27) rfl rfl
theorem ml_RL_12 : Cond.methodLink RL 12 yX8_init ∈ TW := tw_4 (i := 128) rfl rfl
theorem im_yX8_init : Cond.instanceMethod yX8_init ∈ TW := tw_4 (i := 129) rfl rfl
theorem co_yX8_init : Cond.code yX8_init cX8_init 2 none ∈ TW := tw_4 (i := 130) rfl rfl
theorem ml_RX8_1 : Cond.methodLink RX8 1 objectInit ∈ TW := tw_4 (i := 131) rfl rfl
theorem fl_RX8_7 : Cond.fieldLink RX8 7 "ShaftLineModel" "places" "[I" ∈ TW := tw_4 (i := 133) rfl rfl
theorem fl_RX8_13 : Cond.fieldLink RX8 13 "ShaftLineModel" "offsets" "[I" ∈ TW := tw_4 (i := 134) rfl rfl
theorem fl_RX8_16 : Cond.fieldLink RX8 16 "ShaftLineModel" "wears" "[I" ∈ TW := tw_4 (i := 135) rfl rfl
theorem fl_RX8_19 : Cond.fieldLink RX8 19 "ShaftLineModel" "readings" "[I" ∈ TW := tw_4 (i := 136) rfl rfl
theorem fl_RX8_22 : Cond.fieldLink RX8 22 "ShaftLineModel" "weights" "[I" ∈ TW := tw_4 (i := 137) rfl rfl
theorem fl_RX8_25 : Cond.fieldLink RX8 25 "ShaftLineModel" "rises" "[I" ∈ TW := tw_4 (i := 138) rfl rfl
theorem fl_RX8_28 : Cond.fieldLink RX8 28 "ShaftLineModel" "stiff" "I" ∈ TW := tw_4 (i := 139) rfl rfl
theorem fl_RX8_32 : Cond.fieldLink RX8 32 "ShaftLineModel" "tape" "[I" ∈ TW := tw_4 (i := 140) rfl rfl
theorem fl_RX8_35 : Cond.fieldLink RX8 35 "ShaftLineModel" "readPlace" "[I" ∈ TW := tw_4 (i := 145) rfl rfl
theorem fl_RX8_38 : Cond.fieldLink RX8 38 "ShaftLineModel" "readOffset" "[I" ∈ TW := tw_4 (i := 146) rfl rfl
theorem fl_RX8_41 : Cond.fieldLink RX8 41 "ShaftLineModel" "readWeight" "[I" ∈ TW := tw_4 (i := 147) rfl rfl
theorem fl_RX8_44 : Cond.fieldLink RX8 44 "ShaftLineModel" "below" "J" ∈ TW := tw_4 (i := 150) rfl rfl
theorem fl_RX8_48 : Cond.fieldLink RX8 48 "ShaftLineModel" "xs" "[I" ∈ TW := tw_4 (i := 152) rfl rfl
theorem fl_RX8_51 : Cond.fieldLink RX8 51 "ShaftLineModel" "hs" "[I" ∈ TW := tw_4 (i := 153) rfl rfl
theorem fl_RX8_54 : Cond.fieldLink RX8 54 "ShaftLineModel" "pulls" "[I" ∈ TW := tw_4 (i := 154) rfl rfl
theorem fl_RX8_57 : Cond.fieldLink RX8 57 "ShaftLineModel" "loadAbove" "[J" ∈ TW := tw_4 (i := 155) rfl rfl
theorem fl_RX8_61 : Cond.fieldLink RX8 61 "ShaftLineModel" "loadBelow" "[J" ∈ TW := tw_4 (i := 156) rfl rfl
theorem fl_RX8_64 : Cond.fieldLink RX8 64 "ShaftLineModel" "moments" "[J" ∈ TW := tw_4 (i := 157) rfl rfl
theorem fl_RX8_67 : Cond.fieldLink RX8 67 "ShaftLineModel" "rights" "[J" ∈ TW := tw_4 (i := 158) rfl rfl
theorem fl_RX8_70 : Cond.fieldLink RX8 70 "ShaftLineModel" "heads" "[J" ∈ TW := tw_4 (i := 159) rfl rfl
theorem fl_RX8_73 : Cond.fieldLink RX8 73 "ShaftLineModel" "tails" "[J" ∈ TW := tw_4 (i := 160) rfl rfl
theorem fl_RX8_76 : Cond.fieldLink RX8 76 "ShaftLineModel" "candidatePlace" "[I" ∈ TW := tw_4 (i := 165) rfl rfl
theorem fl_RX8_79 : Cond.fieldLink RX8 79 "ShaftLineModel" "candidateHeight" "[I" ∈ TW := tw_4 (i := 166) rfl rfl
theorem fl_RX8_82 : Cond.fieldLink RX8 82 "ShaftLineModel" "moves" "[I" ∈ TW := tw_4 (i := 167) rfl rfl
theorem fl_RX8_85 : Cond.fieldLink RX8 85 "ShaftLineModel" "high" "I" ∈ TW := tw_4 (i := 170) rfl rfl
theorem fl_RX8_88 : Cond.fieldLink RX8 88 "ShaftLineModel" "best" "[I" ∈ TW := tw_4 (i := 171) rfl rfl
theorem fl_RX8_91 : Cond.fieldLink RX8 91 "ShaftLineModel" "lanes" "[I" ∈ TW := tw_4 (i := 172) rfl rfl
theorem fl_RX8_94 : Cond.fieldLink RX8 94 "ShaftLineModel" "sizes" "[I" ∈ TW := tw_4 (i := 173) rfl rfl
theorem fl_RX8_97 : Cond.fieldLink RX8 97 "ShaftLineModel" "items" "[I" ∈ TW := tw_4 (i := 174) rfl rfl
theorem fl_RX8_100 : Cond.fieldLink RX8 100 "ShaftLineModel" "moved" "[I" ∈ TW := tw_4 (i := 175) rfl rfl
theorem ml_RL_13 : Cond.methodLink RL 13 yX7_bearing ∈ TW := tw_2 (i := 90) rfl rfl
theorem im_yX7_bearing : Cond.instanceMethod yX7_bearing ∈ TW := tw_2 (i := 91) rfl rfl
theorem se_X7_bearing : Cond.selects RX7 yX7_bearing yX7_bearing ∈ TW := tw_2 (i := 92) rfl rfl
theorem co_yX7_bearing : Cond.code yX7_bearing cX7_bearing 3 (some .int) ∈ TW := tw_2 (i := 93) rfl rfl
theorem fl_RX7_105 : Cond.fieldLink RX7 105 "ShaftLine$Line" "count" "I" ∈ TW := tw_1 (i := 28) rfl rfl
theorem ml_RX7_93 : Cond.methodLink RX7 93 yX7_isPlace ∈ TW := tw_2 (i := 94) rfl rfl
theorem st_yX7_isPlace : Cond.static yX7_isPlace ∈ TW := tw_2 (i := 95) rfl rfl
theorem co_yX7_isPlace : Cond.code yX7_isPlace cX7_isPlace 1 (some .boolean) ∈ TW := tw_2 (i := 96) rfl rfl
theorem ml_RX7_97 : Cond.methodLink RX7 97 yX7_isWithin ∈ TW := tw_2 (i := 97) rfl rfl
theorem st_yX7_isWithin : Cond.static yX7_isWithin ∈ TW := tw_2 (i := 98) rfl rfl
theorem co_yX7_isWithin : Cond.code yX7_isWithin cX7_isWithin 3 (some .boolean) ∈ TW := tw_2 (i := 99) rfl rfl
theorem ml_RX7_101 : Cond.methodLink RX7 101 yX2_bearingAt ∈ TW := tw_2 (i := 100) rfl rfl
theorem im_yX2_bearingAt : Cond.instanceMethod yX2_bearingAt ∈ TW := tw_2 (i := 101) rfl rfl
theorem se_X2_bearingAt : Cond.selects RX2 yX2_bearingAt yX2_bearingAt ∈ TW := tw_2 (i := 102) rfl rfl
theorem co_yX2_bearingAt : Cond.code yX2_bearingAt cX2_bearingAt 3 (some .int) ∈ TW := tw_2 (i := 103) rfl rfl
theorem ml_RX7_108 : Cond.methodLink RX7 108 yX7_forgetAnswers ∈ TW := tw_2 (i := 104) rfl rfl
theorem im_yX7_forgetAnswers : Cond.instanceMethod yX7_forgetAnswers ∈ TW := tw_2 (i := 106) rfl rfl
theorem se_X7_forgetAnswers : Cond.selects RX7 yX7_forgetAnswers yX7_forgetAnswers ∈ TW := tw_0 (i := 0) rfl rfl
theorem co_yX7_forgetAnswers : Cond.code yX7_forgetAnswers cX7_forgetAnswers 1 none ∈ TW := tw_2 (i := 107) rfl rfl
theorem ml_RX7_111 : Cond.methodLink RX7 111 yX2_insert ∈ TW := tw_2 (i := 108) rfl rfl
theorem im_yX2_insert : Cond.instanceMethod yX2_insert ∈ TW := tw_2 (i := 109) rfl rfl
theorem se_X2_insert : Cond.selects RX2 yX2_insert yX2_insert ∈ TW := tw_2 (i := 110) rfl rfl
theorem co_yX2_insert : Cond.code yX2_insert cX2_insert 5 (some .int) ∈ TW := tw_2 (i := 111) rfl rfl
theorem ml_RX2_41 : Cond.methodLink RX2 41 yX2_bearingsBelow ∈ TW := tw_2 (i := 112) rfl rfl
theorem im_yX2_bearingsBelow : Cond.instanceMethod yX2_bearingsBelow ∈ TW := tw_2 (i := 113) rfl rfl
theorem se_X2_bearingsBelow : Cond.selects RX2 yX2_bearingsBelow yX2_bearingsBelow ∈ TW := tw_2 (i := 114) rfl rfl
theorem co_yX2_bearingsBelow : Cond.code yX2_bearingsBelow cX2_bearingsBelow 4 (some .int) ∈ TW := tw_2 (i := 115) rfl rfl
theorem ml_RX2_45 : Cond.methodLink RX2 45 yX2_shift ∈ TW := tw_2 (i := 116) rfl rfl
theorem im_yX2_shift : Cond.instanceMethod yX2_shift ∈ TW := tw_2 (i := 118) rfl rfl
theorem se_X2_shift : Cond.selects RX2 yX2_shift yX2_shift ∈ TW := tw_0 (i := 1) rfl rfl
theorem co_yX2_shift : Cond.code yX2_shift cX2_shift 3 none ∈ TW := tw_2 (i := 119) rfl rfl
theorem ml_RL_17 : Cond.methodLink RL 17 yX8_bearing ∈ TW := tw_5 (i := 25) rfl rfl
theorem im_yX8_bearing : Cond.instanceMethod yX8_bearing ∈ TW := tw_5 (i := 26) rfl rfl
theorem se_X8_bearing : Cond.selects RX8 yX8_bearing yX8_bearing ∈ TW := tw_5 (i := 27) rfl rfl
theorem co_yX8_bearing : Cond.code yX8_bearing cX8_bearing 3 (some .int) ∈ TW := tw_5 (i := 28) rfl rfl
theorem ck_RX8_116 : Cond.constantLong RX8 116 (-50) ∈ TW := tw_5 (i := 36) rfl rfl
theorem ck_RX8_118 : Cond.constantLong RX8 118 (50) ∈ TW := tw_5 (i := 37) rfl rfl
theorem fl_RX8_109 : Cond.fieldLink RX8 109 "ShaftLineModel" "n" "I" ∈ TW := tw_4 (i := 132) rfl rfl
theorem ml_RX8_112 : Cond.methodLink RX8 112 yX8_isPlace ∈ TW := tw_5 (i := 29) rfl rfl
theorem st_yX8_isPlace : Cond.static yX8_isPlace ∈ TW := tw_5 (i := 30) rfl rfl
theorem co_yX8_isPlace : Cond.code yX8_isPlace cX8_isPlace 1 (some .boolean) ∈ TW := tw_5 (i := 31) rfl rfl
theorem ck_RX8_103 : Cond.constantLong RX8 103 (12) ∈ TW := tw_5 (i := 32) rfl rfl
theorem ml_RX8_105 : Cond.methodLink RX8 105 yX8_in ∈ TW := tw_5 (i := 33) rfl rfl
theorem st_yX8_in : Cond.static yX8_in ∈ TW := tw_5 (i := 34) rfl rfl
theorem co_yX8_in : Cond.code yX8_in cX8_in 6 (some .boolean) ∈ TW := tw_5 (i := 35) rfl rfl
theorem ml_RX8_120 : Cond.methodLink RX8 120 yX8_bearingAt ∈ TW := tw_5 (i := 38) rfl rfl
theorem im_yX8_bearingAt : Cond.instanceMethod yX8_bearingAt ∈ TW := tw_5 (i := 40) rfl rfl
theorem se_X8_bearingAt : Cond.selects RX8 yX8_bearingAt yX8_bearingAt ∈ TW := tw_0 (i := 36) rfl rfl
theorem co_yX8_bearingAt : Cond.code yX8_bearingAt cX8_bearingAt 3 (some .int) ∈ TW := tw_5 (i := 41) rfl rfl
theorem ml_RX8_124 : Cond.methodLink RX8 124 yX8_puts ∈ TW := tw_5 (i := 42) rfl rfl
theorem im_yX8_puts : Cond.instanceMethod yX8_puts ∈ TW := tw_5 (i := 44) rfl rfl
theorem se_X8_puts : Cond.selects RX8 yX8_puts yX8_puts ∈ TW := tw_0 (i := 37) rfl rfl
theorem co_yX8_puts : Cond.code yX8_puts cX8_puts 4 (some .int) ∈ TW := tw_5 (i := 45) rfl rfl
theorem ml_RL_18 : Cond.methodLink RL 18 yX7_remove ∈ TW := tw_2 (i := 120) rfl rfl
theorem im_yX7_remove : Cond.instanceMethod yX7_remove ∈ TW := tw_2 (i := 121) rfl rfl
theorem se_X7_remove : Cond.selects RX7 yX7_remove yX7_remove ∈ TW := tw_2 (i := 122) rfl rfl
theorem co_yX7_remove : Cond.code yX7_remove cX7_remove 2 (some .int) ∈ TW := tw_2 (i := 123) rfl rfl
theorem ml_RX7_115 : Cond.methodLink RX7 115 yX7_isBearing ∈ TW := tw_2 (i := 124) rfl rfl
theorem im_yX7_isBearing : Cond.instanceMethod yX7_isBearing ∈ TW := tw_2 (i := 126) rfl rfl
theorem se_X7_isBearing : Cond.selects RX7 yX7_isBearing yX7_isBearing ∈ TW := tw_0 (i := 2) rfl rfl
theorem co_yX7_isBearing : Cond.code yX7_isBearing cX7_isBearing 2 (some .boolean) ∈ TW := tw_2 (i := 127) rfl rfl
theorem ml_RX7_118 : Cond.methodLink RX7 118 yX2_delete ∈ TW := tw_2 (i := 128) rfl rfl
theorem im_yX2_delete : Cond.instanceMethod yX2_delete ∈ TW := tw_2 (i := 129) rfl rfl
theorem se_X2_delete : Cond.selects RX2 yX2_delete yX2_delete ∈ TW := tw_2 (i := 130) rfl rfl
theorem co_yX2_delete : Cond.code yX2_delete cX2_delete 3 none ∈ TW := tw_2 (i := 131) rfl rfl
theorem ml_RL_22 : Cond.methodLink RL 22 yX8_remove ∈ TW := tw_5 (i := 46) rfl rfl
theorem im_yX8_remove : Cond.instanceMethod yX8_remove ∈ TW := tw_5 (i := 47) rfl rfl
theorem se_X8_remove : Cond.selects RX8 yX8_remove yX8_remove ∈ TW := tw_5 (i := 48) rfl rfl
theorem co_yX8_remove : Cond.code yX8_remove cX8_remove 3 (some .int) ∈ TW := tw_5 (i := 49) rfl rfl
theorem ml_RX8_128 : Cond.methodLink RX8 128 yX8_isBearing ∈ TW := tw_5 (i := 50) rfl rfl
theorem im_yX8_isBearing : Cond.instanceMethod yX8_isBearing ∈ TW := tw_5 (i := 52) rfl rfl
theorem se_X8_isBearing : Cond.selects RX8 yX8_isBearing yX8_isBearing ∈ TW := tw_0 (i := 38) rfl rfl
theorem co_yX8_isBearing : Cond.code yX8_isBearing cX8_isBearing 2 (some .boolean) ∈ TW := tw_5 (i := 53) rfl rfl
theorem ml_RL_23 : Cond.methodLink RL 23 yX7_offset ∈ TW := tw_2 (i := 132) rfl rfl
theorem im_yX7_offset : Cond.instanceMethod yX7_offset ∈ TW := tw_2 (i := 133) rfl rfl
theorem se_X7_offset : Cond.selects RX7 yX7_offset yX7_offset ∈ TW := tw_2 (i := 134) rfl rfl
theorem co_yX7_offset : Cond.code yX7_offset cX7_offset 4 (some .int) ∈ TW := tw_2 (i := 135) rfl rfl
theorem fl_RX7_122 : Cond.fieldLink RX7 122 "ShaftLine$Line" "offset" "[I" ∈ TW := tw_1 (i := 35) rfl rfl
theorem ml_RL_26 : Cond.methodLink RL 26 yX8_offset ∈ TW := tw_5 (i := 54) rfl rfl
theorem im_yX8_offset : Cond.instanceMethod yX8_offset ∈ TW := tw_5 (i := 55) rfl rfl
theorem se_X8_offset : Cond.selects RX8 yX8_offset yX8_offset ∈ TW := tw_5 (i := 56) rfl rfl
theorem co_yX8_offset : Cond.code yX8_offset cX8_offset 4 (some .int) ∈ TW := tw_5 (i := 57) rfl rfl
theorem ml_RL_27 : Cond.methodLink RL 27 yX7_weight ∈ TW := tw_2 (i := 136) rfl rfl
theorem im_yX7_weight : Cond.instanceMethod yX7_weight ∈ TW := tw_2 (i := 137) rfl rfl
theorem se_X7_weight : Cond.selects RX7 yX7_weight yX7_weight ∈ TW := tw_2 (i := 138) rfl rfl
theorem co_yX7_weight : Cond.code yX7_weight cX7_weight 4 (some .int) ∈ TW := tw_2 (i := 139) rfl rfl
theorem fl_RX7_126 : Cond.fieldLink RX7 126 "ShaftLine$Line" "weight" "[I" ∈ TW := tw_1 (i := 43) rfl rfl
theorem ml_RL_30 : Cond.methodLink RL 30 yX8_weight ∈ TW := tw_5 (i := 58) rfl rfl
theorem im_yX8_weight : Cond.instanceMethod yX8_weight ∈ TW := tw_5 (i := 59) rfl rfl
theorem se_X8_weight : Cond.selects RX8 yX8_weight yX8_weight ∈ TW := tw_5 (i := 60) rfl rfl
theorem co_yX8_weight : Cond.code yX8_weight cX8_weight 4 (some .int) ∈ TW := tw_5 (i := 61) rfl rfl
theorem ml_RL_31 : Cond.methodLink RL 31 yX7_stiffness ∈ TW := tw_2 (i := 140) rfl rfl
theorem im_yX7_stiffness : Cond.instanceMethod yX7_stiffness ∈ TW := tw_2 (i := 141) rfl rfl
theorem se_X7_stiffness : Cond.selects RX7 yX7_stiffness yX7_stiffness ∈ TW := tw_2 (i := 142) rfl rfl
theorem co_yX7_stiffness : Cond.code yX7_stiffness cX7_stiffness 3 (some .int) ∈ TW := tw_2 (i := 143) rfl rfl
theorem fl_RX7_129 : Cond.fieldLink RX7 129 "ShaftLine$Line" "stiffness" "I" ∈ TW := tw_1 (i := 48) rfl rfl
theorem ml_RL_34 : Cond.methodLink RL 34 yX8_stiffness ∈ TW := tw_5 (i := 62) rfl rfl
theorem im_yX8_stiffness : Cond.instanceMethod yX8_stiffness ∈ TW := tw_5 (i := 63) rfl rfl
theorem se_X8_stiffness : Cond.selects RX8 yX8_stiffness yX8_stiffness ∈ TW := tw_5 (i := 64) rfl rfl
theorem co_yX8_stiffness : Cond.code yX8_stiffness cX8_stiffness 3 (some .int) ∈ TW := tw_5 (i := 65) rfl rfl
theorem ck_RX8_131 : Cond.constantLong RX8 131 (20) ∈ TW := tw_5 (i := 66) rfl rfl
theorem ml_RL_35 : Cond.methodLink RL 35 yX7_rise ∈ TW := tw_2 (i := 144) rfl rfl
theorem im_yX7_rise : Cond.instanceMethod yX7_rise ∈ TW := tw_2 (i := 145) rfl rfl
theorem se_X7_rise : Cond.selects RX7 yX7_rise yX7_rise ∈ TW := tw_2 (i := 146) rfl rfl
theorem co_yX7_rise : Cond.code yX7_rise cX7_rise 5 (some .int) ∈ TW := tw_2 (i := 147) rfl rfl
theorem ml_RX7_132 : Cond.methodLink RX7 132 yX7_isState ∈ TW := tw_2 (i := 148) rfl rfl
theorem st_yX7_isState : Cond.static yX7_isState ∈ TW := tw_2 (i := 149) rfl rfl
theorem co_yX7_isState : Cond.code yX7_isState cX7_isState 1 (some .boolean) ∈ TW := tw_2 (i := 150) rfl rfl
theorem ml_RX7_135 : Cond.methodLink RX7 135 yX7_isRise ∈ TW := tw_2 (i := 151) rfl rfl
theorem st_yX7_isRise : Cond.static yX7_isRise ∈ TW := tw_2 (i := 152) rfl rfl
theorem co_yX7_isRise : Cond.code yX7_isRise cX7_isRise 1 (some .boolean) ∈ TW := tw_2 (i := 153) rfl rfl
theorem ml_RL_39 : Cond.methodLink RL 39 yX8_rise ∈ TW := tw_5 (i := 67) rfl rfl
theorem im_yX8_rise : Cond.instanceMethod yX8_rise ∈ TW := tw_5 (i := 68) rfl rfl
theorem se_X8_rise : Cond.selects RX8 yX8_rise yX8_rise ∈ TW := tw_5 (i := 69) rfl rfl
theorem co_yX8_rise : Cond.code yX8_rise cX8_rise 5 (some .int) ∈ TW := tw_5 (i := 70) rfl rfl
theorem ck_RX8_138 : Cond.constantLong RX8 138 (-20) ∈ TW := tw_5 (i := 75) rfl rfl
theorem ml_RX8_135 : Cond.methodLink RX8 135 yX8_isState ∈ TW := tw_5 (i := 71) rfl rfl
theorem st_yX8_isState : Cond.static yX8_isState ∈ TW := tw_5 (i := 72) rfl rfl
theorem co_yX8_isState : Cond.code yX8_isState cX8_isState 1 (some .boolean) ∈ TW := tw_5 (i := 73) rfl rfl
theorem ck_RX8_133 : Cond.constantLong RX8 133 (3) ∈ TW := tw_5 (i := 74) rfl rfl
theorem ml_RL_40 : Cond.methodLink RL 40 yX7_rises ∈ TW := tw_2 (i := 154) rfl rfl
theorem im_yX7_rises : Cond.instanceMethod yX7_rises ∈ TW := tw_2 (i := 155) rfl rfl
theorem se_X7_rises : Cond.selects RX7 yX7_rises yX7_rises ∈ TW := tw_2 (i := 156) rfl rfl
theorem co_yX7_rises : Cond.code yX7_rises cX7_rises 9 (some .int) ∈ TW := tw_2 (i := 157) rfl rfl
theorem fl_RX7_148 : Cond.fieldLink RX7 148 "ShaftLine$Sheet" "items" "[I" ∈ TW := tw_2 (i := 28) rfl rfl
theorem ml_RX7_138 : Cond.methodLink RX7 138 yX7_isSheet ∈ TW := tw_2 (i := 158) rfl rfl
theorem st_yX7_isSheet : Cond.static yX7_isSheet ∈ TW := tw_2 (i := 159) rfl rfl
theorem co_yX7_isSheet : Cond.code yX7_isSheet cX7_isSheet 1 (some .boolean) ∈ TW := tw_2 (i := 160) rfl rfl
theorem ml_RX7_141 : Cond.methodLink RX7 141 yX7_isLane ∈ TW := tw_2 (i := 161) rfl rfl
theorem st_yX7_isLane : Cond.static yX7_isLane ∈ TW := tw_2 (i := 162) rfl rfl
theorem co_yX7_isLane : Cond.code yX7_isLane cX7_isLane 1 (some .boolean) ∈ TW := tw_2 (i := 163) rfl rfl
theorem ml_RX7_144 : Cond.methodLink RX7 144 yX6_faultOf ∈ TW := tw_2 (i := 164) rfl rfl
theorem im_yX6_faultOf : Cond.instanceMethod yX6_faultOf ∈ TW := tw_2 (i := 165) rfl rfl
theorem se_X6_faultOf : Cond.selects RX6 yX6_faultOf yX6_faultOf ∈ TW := tw_2 (i := 166) rfl rfl
theorem co_yX6_faultOf : Cond.code yX6_faultOf cX6_faultOf 4 (some .int) ∈ TW := tw_2 (i := 167) rfl rfl
theorem ml_RX6_26 : Cond.methodLink RX6 26 yX6_has ∈ TW := tw_2 (i := 168) rfl rfl
theorem im_yX6_has : Cond.instanceMethod yX6_has ∈ TW := tw_2 (i := 169) rfl rfl
theorem se_X6_has : Cond.selects RX6 yX6_has yX6_has ∈ TW := tw_2 (i := 170) rfl rfl
theorem co_yX6_has : Cond.code yX6_has cX6_has 3 (some .boolean) ∈ TW := tw_2 (i := 171) rfl rfl
theorem ml_RL_44 : Cond.methodLink RL 44 yX8_rises ∈ TW := tw_5 (i := 76) rfl rfl
theorem im_yX8_rises : Cond.instanceMethod yX8_rises ∈ TW := tw_5 (i := 77) rfl rfl
theorem se_X8_rises : Cond.selects RX8 yX8_rises yX8_rises ∈ TW := tw_5 (i := 78) rfl rfl
theorem co_yX8_rises : Cond.code yX8_rises cX8_rises 8 (some .int) ∈ TW := tw_5 (i := 79) rfl rfl
theorem ck_RX8_146 : Cond.constantLong RX8 146 (13) ∈ TW := tw_5 (i := 87) rfl rfl
theorem ml_RX8_140 : Cond.methodLink RX8 140 yX8_isSheet ∈ TW := tw_5 (i := 80) rfl rfl
theorem st_yX8_isSheet : Cond.static yX8_isSheet ∈ TW := tw_5 (i := 81) rfl rfl
theorem co_yX8_isSheet : Cond.code yX8_isSheet cX8_isSheet 1 (some .boolean) ∈ TW := tw_5 (i := 82) rfl rfl
theorem ml_RX8_143 : Cond.methodLink RX8 143 yX8_isLane ∈ TW := tw_5 (i := 83) rfl rfl
theorem st_yX8_isLane : Cond.static yX8_isLane ∈ TW := tw_5 (i := 84) rfl rfl
theorem co_yX8_isLane : Cond.code yX8_isLane cX8_isLane 1 (some .boolean) ∈ TW := tw_5 (i := 85) rfl rfl
theorem ck_RX8_209 : Cond.constantLong RX8 209 (2) ∈ TW := tw_5 (i := 86) rfl rfl
theorem ml_RX8_148 : Cond.methodLink RX8 148 yX8_finds ∈ TW := tw_5 (i := 88) rfl rfl
theorem im_yX8_finds : Cond.instanceMethod yX8_finds ∈ TW := tw_5 (i := 90) rfl rfl
theorem se_X8_finds : Cond.selects RX8 yX8_finds yX8_finds ∈ TW := tw_0 (i := 39) rfl rfl
theorem co_yX8_finds : Cond.code yX8_finds cX8_finds 5 (some .int) ∈ TW := tw_5 (i := 91) rfl rfl
theorem ml_RL_47 : Cond.methodLink RL 47 yX7_type ∈ TW := tw_2 (i := 172) rfl rfl
theorem im_yX7_type : Cond.instanceMethod yX7_type ∈ TW := tw_2 (i := 173) rfl rfl
theorem se_X7_type : Cond.selects RX7 yX7_type yX7_type ∈ TW := tw_2 (i := 174) rfl rfl
theorem co_yX7_type : Cond.code yX7_type cX7_type 5 (some .int) ∈ TW := tw_2 (i := 175) rfl rfl
theorem ml_RX7_151 : Cond.methodLink RX7 151 yX7_byteOf ∈ TW := tw_2 (i := 176) rfl rfl
theorem st_yX7_byteOf : Cond.static yX7_byteOf ∈ TW := tw_2 (i := 177) rfl rfl
theorem co_yX7_byteOf : Cond.code yX7_byteOf cX7_byteOf 3 (some .int) ∈ TW := tw_2 (i := 178) rfl rfl
theorem ck_RX7_314 : Cond.constantLong RX7 314 (255) ∈ TW := tw_2 (i := 179) rfl rfl
theorem ml_RL_51 : Cond.methodLink RL 51 yX8_type ∈ TW := tw_5 (i := 92) rfl rfl
theorem im_yX8_type : Cond.instanceMethod yX8_type ∈ TW := tw_5 (i := 93) rfl rfl
theorem se_X8_type : Cond.selects RX8 yX8_type yX8_type ∈ TW := tw_5 (i := 94) rfl rfl
theorem co_yX8_type : Cond.code yX8_type cX8_type 5 (some .int) ∈ TW := tw_5 (i := 95) rfl rfl
theorem ck_RX8_152 : Cond.constantLong RX8 152 (8) ∈ TW := tw_5 (i := 96) rfl rfl
theorem ck_RX8_154 : Cond.constantLong RX8 154 (255) ∈ TW := tw_5 (i := 97) rfl rfl
theorem ck_RX8_156 : Cond.constantLong RX8 156 (32) ∈ TW := tw_5 (i := 98) rfl rfl
theorem ck_RX8_158 : Cond.constantLong RX8 158 (126) ∈ TW := tw_5 (i := 99) rfl rfl
theorem fl_RX8_160 : Cond.fieldLink RX8 160 "ShaftLineModel" "taped" "I" ∈ TW := tw_4 (i := 141) rfl rfl
theorem ml_RL_52 : Cond.methodLink RL 52 yX7_read ∈ TW := tw_2 (i := 180) rfl rfl
theorem im_yX7_read : Cond.instanceMethod yX7_read ∈ TW := tw_2 (i := 181) rfl rfl
theorem se_X7_read : Cond.selects RX7 yX7_read yX7_read ∈ TW := tw_2 (i := 182) rfl rfl
theorem co_yX7_read : Cond.code yX7_read cX7_read 2 (some .int) ∈ TW := tw_2 (i := 183) rfl rfl
theorem fl_RX7_158 : Cond.fieldLink RX7 158 "ShaftLine$Reader" "draft" "LShaftLine$Line;" ∈ TW := tw_1 (i := 76) rfl rfl
theorem ml_RX7_155 : Cond.methodLink RX7 155 yX4_faultOf ∈ TW := tw_2 (i := 184) rfl rfl
theorem im_yX4_faultOf : Cond.instanceMethod yX4_faultOf ∈ TW := tw_2 (i := 185) rfl rfl
theorem se_X4_faultOf : Cond.selects RX4 yX4_faultOf yX4_faultOf ∈ TW := tw_2 (i := 186) rfl rfl
theorem co_yX4_faultOf : Cond.code yX4_faultOf cX4_faultOf 4 (some .int) ∈ TW := tw_2 (i := 187) rfl rfl
theorem fl_RX4_38 : Cond.fieldLink RX4 38 "ShaftLine$Line" "stiffness" "I" ∈ TW := tw_1 (i := 46) rfl rfl
theorem ml_RX4_35 : Cond.methodLink RX4 35 yX2_clear ∈ TW := tw_2 (i := 188) rfl rfl
theorem im_yX2_clear : Cond.instanceMethod yX2_clear ∈ TW := tw_2 (i := 189) rfl rfl
theorem se_X2_clear : Cond.selects RX2 yX2_clear yX2_clear ∈ TW := tw_2 (i := 190) rfl rfl
theorem co_yX2_clear : Cond.code yX2_clear cX2_clear 2 none ∈ TW := tw_2 (i := 191) rfl rfl
theorem ml_RX4_41 : Cond.methodLink RX4 41 yX4_readClause ∈ TW := tw_2 (i := 192) rfl rfl
theorem im_yX4_readClause : Cond.instanceMethod yX4_readClause ∈ TW := tw_2 (i := 194) rfl rfl
theorem se_X4_readClause : Cond.selects RX4 yX4_readClause yX4_readClause ∈ TW := tw_0 (i := 3) rfl rfl
theorem co_yX4_readClause : Cond.code yX4_readClause cX4_readClause 1 (some .boolean) ∈ TW := tw_2 (i := 195) rfl rfl
theorem fl_RX4_52 : Cond.fieldLink RX4 52 "ShaftLine$Line" "count" "I" ∈ TW := tw_1 (i := 30) rfl rfl
theorem ml_RX4_45 : Cond.methodLink RX4 45 yX4_skipBlanks ∈ TW := tw_2 (i := 196) rfl rfl
theorem im_yX4_skipBlanks : Cond.instanceMethod yX4_skipBlanks ∈ TW := tw_2 (i := 198) rfl rfl
theorem se_X4_skipBlanks : Cond.selects RX4 yX4_skipBlanks yX4_skipBlanks ∈ TW := tw_0 (i := 4) rfl rfl
theorem co_yX4_skipBlanks : Cond.code yX4_skipBlanks cX4_skipBlanks 1 none ∈ TW := tw_2 (i := 199) rfl rfl
theorem ml_RX4_48 : Cond.methodLink RX4 48 yX4_next ∈ TW := tw_2 (i := 200) rfl rfl
theorem im_yX4_next : Cond.instanceMethod yX4_next ∈ TW := tw_2 (i := 202) rfl rfl
theorem se_X4_next : Cond.selects RX4 yX4_next yX4_next ∈ TW := tw_0 (i := 5) rfl rfl
theorem co_yX4_next : Cond.code yX4_next cX4_next 1 (some .int) ∈ TW := tw_2 (i := 203) rfl rfl
theorem ml_RX4_55 : Cond.methodLink RX4 55 yX4_readBearing ∈ TW := tw_2 (i := 204) rfl rfl
theorem im_yX4_readBearing : Cond.instanceMethod yX4_readBearing ∈ TW := tw_2 (i := 206) rfl rfl
theorem se_X4_readBearing : Cond.selects RX4 yX4_readBearing yX4_readBearing ∈ TW := tw_0 (i := 6) rfl rfl
theorem co_yX4_readBearing : Cond.code yX4_readBearing cX4_readBearing 4 (some .boolean) ∈ TW := tw_2 (i := 207) rfl rfl
theorem ml_RX4_68 : Cond.methodLink RX4 68 yX4_readNumber ∈ TW := tw_2 (i := 208) rfl rfl
theorem im_yX4_readNumber : Cond.instanceMethod yX4_readNumber ∈ TW := tw_2 (i := 210) rfl rfl
theorem se_X4_readNumber : Cond.selects RX4 yX4_readNumber yX4_readNumber ∈ TW := tw_0 (i := 7) rfl rfl
theorem co_yX4_readNumber : Cond.code yX4_readNumber cX4_readNumber 2 (some .int) ∈ TW := tw_2 (i := 211) rfl rfl
theorem ml_RX4_90 : Cond.methodLink RX4 90 Lib.Math.min.name ∈ TW := tw_2 (i := 220) rfl rfl
theorem st_Lib_Math_min_name : Cond.static Lib.Math.min.name ∈ TW := tw_2 (i := 221) rfl rfl
theorem ini__java_lang_Math_ : Cond.initialized "java/lang/Math" ∈ TW := tw_1 (i := 10) rfl rfl
theorem co_Lib_Math_min_name : Cond.code Lib.Math.min.name Lib.Math.min.code 2 (some .int) ∈ TW := tw_2 (i := 222) rfl rfl
theorem ml_RX4_87 : Cond.methodLink RX4 87 yX4_isDigit ∈ TW := tw_2 (i := 212) rfl rfl
theorem im_yX4_isDigit : Cond.instanceMethod yX4_isDigit ∈ TW := tw_2 (i := 214) rfl rfl
theorem se_X4_isDigit : Cond.selects RX4 yX4_isDigit yX4_isDigit ∈ TW := tw_0 (i := 8) rfl rfl
theorem co_yX4_isDigit : Cond.code yX4_isDigit cX4_isDigit 2 (some .boolean) ∈ TW := tw_2 (i := 215) rfl rfl
theorem ml_RX4_58 : Cond.methodLink RX4 58 yX4_fail ∈ TW := tw_2 (i := 216) rfl rfl
theorem im_yX4_fail : Cond.instanceMethod yX4_fail ∈ TW := tw_2 (i := 218) rfl rfl
theorem se_X4_fail : Cond.selects RX4 yX4_fail yX4_fail ∈ TW := tw_0 (i := 9) rfl rfl
theorem co_yX4_fail : Cond.code yX4_fail cX4_fail 2 (some .boolean) ∈ TW := tw_2 (i := 219) rfl rfl
theorem ml_RX4_71 : Cond.methodLink RX4 71 yX2_bearingAt ∈ TW := tw_2 (i := 223) rfl rfl
theorem ml_RX4_75 : Cond.methodLink RX4 75 yX4_steps ∈ TW := tw_2 (i := 224) rfl rfl
theorem im_yX4_steps : Cond.instanceMethod yX4_steps ∈ TW := tw_2 (i := 226) rfl rfl
theorem se_X4_steps : Cond.selects RX4 yX4_steps yX4_steps ∈ TW := tw_0 (i := 10) rfl rfl
theorem co_yX4_steps : Cond.code yX4_steps cX4_steps 2 (some .boolean) ∈ TW := tw_2 (i := 227) rfl rfl
theorem ml_RX4_79 : Cond.methodLink RX4 79 yX2_insert ∈ TW := tw_2 (i := 228) rfl rfl
theorem ml_RX4_62 : Cond.methodLink RX4 62 yX4_readWeight ∈ TW := tw_2 (i := 229) rfl rfl
theorem im_yX4_readWeight : Cond.instanceMethod yX4_readWeight ∈ TW := tw_2 (i := 231) rfl rfl
theorem se_X4_readWeight : Cond.selects RX4 yX4_readWeight yX4_readWeight ∈ TW := tw_0 (i := 11) rfl rfl
theorem co_yX4_readWeight : Cond.code yX4_readWeight cX4_readWeight 3 (some .boolean) ∈ TW := tw_2 (i := 232) rfl rfl
theorem fl_RX4_83 : Cond.fieldLink RX4 83 "ShaftLine$Line" "weight" "[I" ∈ TW := tw_1 (i := 44) rfl rfl
theorem ml_RX4_65 : Cond.methodLink RX4 65 yX4_readStiffness ∈ TW := tw_2 (i := 233) rfl rfl
theorem im_yX4_readStiffness : Cond.instanceMethod yX4_readStiffness ∈ TW := tw_2 (i := 235) rfl rfl
theorem se_X4_readStiffness : Cond.selects RX4 yX4_readStiffness yX4_readStiffness ∈ TW := tw_0 (i := 12) rfl rfl
theorem co_yX4_readStiffness : Cond.code yX4_readStiffness cX4_readStiffness 2 (some .boolean) ∈ TW := tw_2 (i := 236) rfl rfl
theorem ml_RX7_161 : Cond.methodLink RX7 161 yX2_become ∈ TW := tw_2 (i := 237) rfl rfl
theorem im_yX2_become : Cond.instanceMethod yX2_become ∈ TW := tw_2 (i := 238) rfl rfl
theorem se_X2_become : Cond.selects RX2 yX2_become yX2_become ∈ TW := tw_2 (i := 239) rfl rfl
theorem co_yX2_become : Cond.code yX2_become cX2_become 3 none ∈ TW := tw_3 (i := 0) rfl rfl
theorem ml_RX2_34 : Cond.methodLink RX2 34 yX2_clear ∈ TW := tw_3 (i := 1) rfl rfl
theorem ml_RX2_37 : Cond.methodLink RX2 37 yX2_insert ∈ TW := tw_3 (i := 2) rfl rfl
theorem ml_RL_56 : Cond.methodLink RL 56 yX8_read ∈ TW := tw_5 (i := 100) rfl rfl
theorem im_yX8_read : Cond.instanceMethod yX8_read ∈ TW := tw_5 (i := 101) rfl rfl
theorem se_X8_read : Cond.selects RX8 yX8_read yX8_read ∈ TW := tw_5 (i := 102) rfl rfl
theorem co_yX8_read : Cond.code yX8_read cX8_read 4 (some .int) ∈ TW := tw_5 (i := 103) rfl rfl
theorem fl_RX8_163 : Cond.fieldLink RX8 163 "ShaftLineModel" "at" "I" ∈ TW := tw_4 (i := 142) rfl rfl
theorem fl_RX8_166 : Cond.fieldLink RX8 166 "ShaftLineModel" "wrong" "Z" ∈ TW := tw_4 (i := 143) rfl rfl
theorem fl_RX8_181 : Cond.fieldLink RX8 181 "ShaftLineModel" "readMany" "I" ∈ TW := tw_4 (i := 144) rfl rfl
theorem fl_RX8_184 : Cond.fieldLink RX8 184 "ShaftLineModel" "readStiff" "I" ∈ TW := tw_4 (i := 148) rfl rfl
theorem ml_RX8_191 : Cond.methodLink RX8 191 yX8_clause ∈ TW := tw_5 (i := 104) rfl rfl
theorem im_yX8_clause : Cond.instanceMethod yX8_clause ∈ TW := tw_5 (i := 106) rfl rfl
theorem se_X8_clause : Cond.selects RX8 yX8_clause yX8_clause ∈ TW := tw_0 (i := 40) rfl rfl
theorem co_yX8_clause : Cond.code yX8_clause cX8_clause 7 none ∈ TW := tw_5 (i := 107) rfl rfl
theorem ml_RX8_170 : Cond.methodLink RX8 170 yX8_next ∈ TW := tw_5 (i := 108) rfl rfl
theorem im_yX8_next : Cond.instanceMethod yX8_next ∈ TW := tw_5 (i := 110) rfl rfl
theorem se_X8_next : Cond.selects RX8 yX8_next yX8_next ∈ TW := tw_0 (i := 41) rfl rfl
theorem co_yX8_next : Cond.code yX8_next cX8_next 1 (some .int) ∈ TW := tw_5 (i := 111) rfl rfl
theorem ml_RX8_178 : Cond.methodLink RX8 178 yX8_number ∈ TW := tw_5 (i := 112) rfl rfl
theorem im_yX8_number : Cond.instanceMethod yX8_number ∈ TW := tw_5 (i := 114) rfl rfl
theorem se_X8_number : Cond.selects RX8 yX8_number yX8_number ∈ TW := tw_0 (i := 42) rfl rfl
theorem co_yX8_number : Cond.code yX8_number cX8_number 5 (some .int) ∈ TW := tw_5 (i := 115) rfl rfl
theorem ck_RX8_174 : Cond.constantLong RX8 174 (48) ∈ TW := tw_5 (i := 116) rfl rfl
theorem ck_RX8_176 : Cond.constantLong RX8 176 (57) ∈ TW := tw_5 (i := 117) rfl rfl
theorem ml_RX8_187 : Cond.methodLink RX8 187 yX8_figure ∈ TW := tw_5 (i := 118) rfl rfl
theorem im_yX8_figure : Cond.instanceMethod yX8_figure ∈ TW := tw_5 (i := 120) rfl rfl
theorem se_X8_figure : Cond.selects RX8 yX8_figure yX8_figure ∈ TW := tw_0 (i := 43) rfl rfl
theorem co_yX8_figure : Cond.code yX8_figure cX8_figure 6 (some .int) ∈ TW := tw_5 (i := 121) rfl rfl
theorem ml_RL_57 : Cond.methodLink RL 57 yX7_told ∈ TW := tw_3 (i := 3) rfl rfl
theorem im_yX7_told : Cond.instanceMethod yX7_told ∈ TW := tw_3 (i := 4) rfl rfl
theorem se_X7_told : Cond.selects RX7 yX7_told yX7_told ∈ TW := tw_3 (i := 5) rfl rfl
theorem co_yX7_told : Cond.code yX7_told cX7_told 3 (some .int) ∈ TW := tw_3 (i := 6) rfl rfl
theorem ck_RX7_165 : Cond.constant RX7 165 (-100001) ∈ TW := tw_3 (i := 7) rfl rfl
theorem fl_RX7_166 : Cond.fieldLink RX7 166 "ShaftLine$Line" "place" "[I" ∈ TW := tw_1 (i := 33) rfl rfl
theorem fl_RX7_169 : Cond.fieldLink RX7 169 "ShaftLine$Line" "wear" "[I" ∈ TW := tw_1 (i := 38) rfl rfl
theorem fl_RX7_172 : Cond.fieldLink RX7 172 "ShaftLine$Line" "reading" "[I" ∈ TW := tw_1 (i := 40) rfl rfl
theorem ml_RL_60 : Cond.methodLink RL 60 yX8_told ∈ TW := tw_5 (i := 122) rfl rfl
theorem im_yX8_told : Cond.instanceMethod yX8_told ∈ TW := tw_5 (i := 123) rfl rfl
theorem se_X8_told : Cond.selects RX8 yX8_told yX8_told ∈ TW := tw_5 (i := 124) rfl rfl
theorem co_yX8_told : Cond.code yX8_told cX8_told 3 (some .int) ∈ TW := tw_5 (i := 125) rfl rfl
theorem ck_RX8_194 : Cond.constant RX8 194 (-100001) ∈ TW := tw_5 (i := 126) rfl rfl
theorem ml_RL_61 : Cond.methodLink RL 61 yX7_count ∈ TW := tw_3 (i := 8) rfl rfl
theorem im_yX7_count : Cond.instanceMethod yX7_count ∈ TW := tw_3 (i := 9) rfl rfl
theorem se_X7_count : Cond.selects RX7 yX7_count yX7_count ∈ TW := tw_3 (i := 10) rfl rfl
theorem co_yX7_count : Cond.code yX7_count cX7_count 2 (some .int) ∈ TW := tw_3 (i := 11) rfl rfl
theorem ml_RX7_175 : Cond.methodLink RX7 175 yX2_allWeights ∈ TW := tw_3 (i := 12) rfl rfl
theorem im_yX2_allWeights : Cond.instanceMethod yX2_allWeights ∈ TW := tw_3 (i := 13) rfl rfl
theorem se_X2_allWeights : Cond.selects RX2 yX2_allWeights yX2_allWeights ∈ TW := tw_3 (i := 14) rfl rfl
theorem co_yX2_allWeights : Cond.code yX2_allWeights cX2_allWeights 3 (some .int) ∈ TW := tw_3 (i := 15) rfl rfl
theorem ml_RX7_179 : Cond.methodLink RX7 179 yX2_placesWithWeights ∈ TW := tw_3 (i := 16) rfl rfl
theorem im_yX2_placesWithWeights : Cond.instanceMethod yX2_placesWithWeights ∈ TW := tw_3 (i := 17) rfl rfl
theorem se_X2_placesWithWeights : Cond.selects RX2 yX2_placesWithWeights yX2_placesWithWeights ∈ TW := tw_3 (i := 18) rfl rfl
theorem co_yX2_placesWithWeights : Cond.code yX2_placesWithWeights cX2_placesWithWeights 3 (some .int) ∈ TW := tw_3 (i := 19) rfl rfl
theorem ml_RL_64 : Cond.methodLink RL 64 yX8_count ∈ TW := tw_5 (i := 127) rfl rfl
theorem im_yX8_count : Cond.instanceMethod yX8_count ∈ TW := tw_5 (i := 128) rfl rfl
theorem se_X8_count : Cond.selects RX8 yX8_count yX8_count ∈ TW := tw_5 (i := 129) rfl rfl
theorem co_yX8_count : Cond.code yX8_count cX8_count 4 (some .int) ∈ TW := tw_5 (i := 130) rfl rfl
theorem ml_RX8_195 : Cond.methodLink RX8 195 yX8_allWeights ∈ TW := tw_5 (i := 131) rfl rfl
theorem im_yX8_allWeights : Cond.instanceMethod yX8_allWeights ∈ TW := tw_5 (i := 133) rfl rfl
theorem se_X8_allWeights : Cond.selects RX8 yX8_allWeights yX8_allWeights ∈ TW := tw_0 (i := 44) rfl rfl
theorem co_yX8_allWeights : Cond.code yX8_allWeights cX8_allWeights 3 (some .int) ∈ TW := tw_5 (i := 134) rfl rfl
theorem ml_RL_65 : Cond.methodLink RL 65 yX7_load ∈ TW := tw_3 (i := 20) rfl rfl
theorem im_yX7_load : Cond.instanceMethod yX7_load ∈ TW := tw_3 (i := 21) rfl rfl
theorem se_X7_load : Cond.selects RX7 yX7_load yX7_load ∈ TW := tw_3 (i := 22) rfl rfl
theorem co_yX7_load : Cond.code yX7_load cX7_load 4 (some .long) ∈ TW := tw_3 (i := 23) rfl rfl
theorem fl_RX7_195 : Cond.fieldLink RX7 195 "ShaftLine$Rest" "beam" "LShaftLine$Beam;" ∈ TW := tw_1 (i := 173) rfl rfl
theorem fl_RX7_196 : Cond.fieldLink RX7 196 "ShaftLine$Beam" "below" "J" ∈ TW := tw_1 (i := 114) rfl rfl
theorem ml_RX7_182 : Cond.methodLink RX7 182 yX7_isPart ∈ TW := tw_3 (i := 24) rfl rfl
theorem st_yX7_isPart : Cond.static yX7_isPart ∈ TW := tw_3 (i := 25) rfl rfl
theorem co_yX7_isPart : Cond.code yX7_isPart cX7_isPart 1 (some .boolean) ∈ TW := tw_3 (i := 26) rfl rfl
theorem ml_RX7_185 : Cond.methodLink RX7 185 yX7_refusal ∈ TW := tw_3 (i := 27) rfl rfl
theorem st_yX7_refusal : Cond.static yX7_refusal ∈ TW := tw_3 (i := 28) rfl rfl
theorem co_yX7_refusal : Cond.code yX7_refusal cX7_refusal 1 (some .long) ∈ TW := tw_3 (i := 29) rfl rfl
theorem ck_RX7_316 : Cond.constantLong RX7 316 (1099511627776) ∈ TW := tw_3 (i := 30) rfl rfl
theorem ml_RX7_189 : Cond.methodLink RX7 189 yX7_comesToRest ∈ TW := tw_3 (i := 31) rfl rfl
theorem im_yX7_comesToRest : Cond.instanceMethod yX7_comesToRest ∈ TW := tw_3 (i := 33) rfl rfl
theorem se_X7_comesToRest : Cond.selects RX7 yX7_comesToRest yX7_comesToRest ∈ TW := tw_0 (i := 13) rfl rfl
theorem co_yX7_comesToRest : Cond.code yX7_comesToRest cX7_comesToRest 2 (some .boolean) ∈ TW := tw_3 (i := 34) rfl rfl
theorem ml_RX7_247 : Cond.methodLink RX7 247 yX5_start ∈ TW := tw_3 (i := 35) rfl rfl
theorem im_yX5_start : Cond.instanceMethod yX5_start ∈ TW := tw_3 (i := 36) rfl rfl
theorem se_X5_start : Cond.selects RX5 yX5_start yX5_start ∈ TW := tw_3 (i := 37) rfl rfl
theorem co_yX5_start : Cond.code yX5_start cX5_start 3 none ∈ TW := tw_3 (i := 38) rfl rfl
theorem ml_RX5_32 : Cond.methodLink RX5 32 yX0_start ∈ TW := tw_3 (i := 39) rfl rfl
theorem im_yX0_start : Cond.instanceMethod yX0_start ∈ TW := tw_3 (i := 40) rfl rfl
theorem se_X0_start : Cond.selects RX0 yX0_start yX0_start ∈ TW := tw_3 (i := 41) rfl rfl
theorem co_yX0_start : Cond.code yX0_start cX0_start 2 none ∈ TW := tw_3 (i := 42) rfl rfl
theorem ml_RX5_36 : Cond.methodLink RX5 36 yX0_carry ∈ TW := tw_3 (i := 43) rfl rfl
theorem im_yX0_carry : Cond.instanceMethod yX0_carry ∈ TW := tw_3 (i := 44) rfl rfl
theorem se_X0_carry : Cond.selects RX0 yX0_carry yX0_carry ∈ TW := tw_3 (i := 45) rfl rfl
theorem co_yX0_carry : Cond.code yX0_carry cX0_carry 11 none ∈ TW := tw_3 (i := 46) rfl rfl
theorem ck_RX0_66 : Cond.constantLong RX0 66 (3) ∈ TW := tw_3 (i := 47) rfl rfl
theorem ck_RX0_68 : Cond.constantLong RX0 68 (2) ∈ TW := tw_3 (i := 48) rfl rfl
theorem ml_RX7_250 : Cond.methodLink RX7 250 yX7_putBearings ∈ TW := tw_3 (i := 49) rfl rfl
theorem im_yX7_putBearings : Cond.instanceMethod yX7_putBearings ∈ TW := tw_3 (i := 51) rfl rfl
theorem se_X7_putBearings : Cond.selects RX7 yX7_putBearings yX7_putBearings ∈ TW := tw_0 (i := 14) rfl rfl
theorem co_yX7_putBearings : Cond.code yX7_putBearings cX7_putBearings 5 none ∈ TW := tw_3 (i := 52) rfl rfl
theorem ml_RX7_324 : Cond.methodLink RX7 324 yX7_standing ∈ TW := tw_3 (i := 53) rfl rfl
theorem im_yX7_standing : Cond.instanceMethod yX7_standing ∈ TW := tw_3 (i := 55) rfl rfl
theorem se_X7_standing : Cond.selects RX7 yX7_standing yX7_standing ∈ TW := tw_0 (i := 15) rfl rfl
theorem co_yX7_standing : Cond.code yX7_standing cX7_standing 3 (some .int) ∈ TW := tw_3 (i := 56) rfl rfl
theorem ml_RX7_254 : Cond.methodLink RX7 254 yX5_put ∈ TW := tw_3 (i := 57) rfl rfl
theorem im_yX5_put : Cond.instanceMethod yX5_put ∈ TW := tw_3 (i := 58) rfl rfl
theorem se_X5_put : Cond.selects RX5 yX5_put yX5_put ∈ TW := tw_3 (i := 59) rfl rfl
theorem co_yX5_put : Cond.code yX5_put cX5_put 3 none ∈ TW := tw_3 (i := 60) rfl rfl
theorem ml_RX7_257 : Cond.methodLink RX7 257 yX5_settle ∈ TW := tw_3 (i := 61) rfl rfl
theorem im_yX5_settle : Cond.instanceMethod yX5_settle ∈ TW := tw_3 (i := 62) rfl rfl
theorem se_X5_settle : Cond.selects RX5 yX5_settle yX5_settle ∈ TW := tw_3 (i := 63) rfl rfl
theorem co_yX5_settle : Cond.code yX5_settle cX5_settle 3 (some .boolean) ∈ TW := tw_3 (i := 64) rfl rfl
theorem ml_RX5_40 : Cond.methodLink RX5 40 yJ6_bitCount_0f7a4 ∈ TW := tw_3 (i := 65) rfl rfl
theorem st_yJ6_bitCount_0f7a4 : Cond.static yJ6_bitCount_0f7a4 ∈ TW := tw_3 (i := 66) rfl rfl
theorem ini_RJ6 : Cond.initialized RJ6 ∈ TW := tw_1 (i := 11) rfl rfl
theorem co_yJ6_bitCount_0f7a4 : Cond.code yJ6_bitCount_0f7a4 cJ6_bitCount_0f7a4 1 (some .int) ∈ TW := tw_3 (i := 67) rfl rfl
theorem ck_RJ6_265 : Cond.constant RJ6 265 (1431655765) ∈ TW := tw_3 (i := 68) rfl rfl
theorem ck_RJ6_266 : Cond.constant RJ6 266 (858993459) ∈ TW := tw_3 (i := 69) rfl rfl
theorem ck_RJ6_267 : Cond.constant RJ6 267 (252645135) ∈ TW := tw_3 (i := 70) rfl rfl
theorem ml_RX5_46 : Cond.methodLink RX5 46 yX5_lay ∈ TW := tw_3 (i := 71) rfl rfl
theorem im_yX5_lay : Cond.instanceMethod yX5_lay ∈ TW := tw_3 (i := 72) rfl rfl
theorem se_X5_lay : Cond.selects RX5 yX5_lay yX5_lay ∈ TW := tw_3 (i := 73) rfl rfl
theorem co_yX5_lay : Cond.code yX5_lay cX5_lay 3 none ∈ TW := tw_3 (i := 74) rfl rfl
theorem fl_RX5_53 : Cond.fieldLink RX5 53 "ShaftLine$Beam" "count" "I" ∈ TW := tw_1 (i := 105) rfl rfl
theorem ml_RX5_54 : Cond.methodLink RX5 54 yX0_add ∈ TW := tw_3 (i := 75) rfl rfl
theorem im_yX0_add : Cond.instanceMethod yX0_add ∈ TW := tw_3 (i := 76) rfl rfl
theorem se_X0_add : Cond.selects RX0 yX0_add yX0_add ∈ TW := tw_3 (i := 77) rfl rfl
theorem co_yX0_add : Cond.code yX0_add cX0_add 3 none ∈ TW := tw_3 (i := 78) rfl rfl
theorem ml_RX5_58 : Cond.methodLink RX5 58 yX0_solve ∈ TW := tw_3 (i := 79) rfl rfl
theorem im_yX0_solve : Cond.instanceMethod yX0_solve ∈ TW := tw_3 (i := 80) rfl rfl
theorem se_X0_solve : Cond.selects RX0 yX0_solve yX0_solve ∈ TW := tw_3 (i := 81) rfl rfl
theorem co_yX0_solve : Cond.code yX0_solve cX0_solve 1 none ∈ TW := tw_3 (i := 82) rfl rfl
theorem ml_RX0_70 : Cond.methodLink RX0 70 yX0_measure ∈ TW := tw_3 (i := 83) rfl rfl
theorem im_yX0_measure : Cond.instanceMethod yX0_measure ∈ TW := tw_3 (i := 85) rfl rfl
theorem se_X0_measure : Cond.selects RX0 yX0_measure yX0_measure ∈ TW := tw_0 (i := 16) rfl rfl
theorem co_yX0_measure : Cond.code yX0_measure cX0_measure 2 none ∈ TW := tw_3 (i := 86) rfl rfl
theorem ck_RX0_82 : Cond.constantLong RX0 82 (6) ∈ TW := tw_3 (i := 87) rfl rfl
theorem ml_RX0_84 : Cond.methodLink RX0 84 yX0_firstPush ∈ TW := tw_3 (i := 88) rfl rfl
theorem im_yX0_firstPush : Cond.instanceMethod yX0_firstPush ∈ TW := tw_3 (i := 90) rfl rfl
theorem se_X0_firstPush : Cond.selects RX0 yX0_firstPush yX0_firstPush ∈ TW := tw_0 (i := 17) rfl rfl
theorem co_yX0_firstPush : Cond.code yX0_firstPush cX0_firstPush 1 (some .long) ∈ TW := tw_3 (i := 91) rfl rfl
theorem ml_RX0_88 : Cond.methodLink RX0 88 yX0_cubeOf ∈ TW := tw_3 (i := 92) rfl rfl
theorem st_yX0_cubeOf : Cond.static yX0_cubeOf ∈ TW := tw_3 (i := 93) rfl rfl
theorem co_yX0_cubeOf : Cond.code yX0_cubeOf cX0_cubeOf 2 (some .long) ∈ TW := tw_3 (i := 94) rfl rfl
theorem ml_RX0_92 : Cond.methodLink RX0 92 yX0_secondPush ∈ TW := tw_3 (i := 95) rfl rfl
theorem im_yX0_secondPush : Cond.instanceMethod yX0_secondPush ∈ TW := tw_3 (i := 97) rfl rfl
theorem se_X0_secondPush : Cond.selects RX0 yX0_secondPush yX0_secondPush ∈ TW := tw_0 (i := 18) rfl rfl
theorem co_yX0_secondPush : Cond.code yX0_secondPush cX0_secondPush 1 (some .long) ∈ TW := tw_3 (i := 98) rfl rfl
theorem ml_RX0_73 : Cond.methodLink RX0 73 yX0_findDeterminants ∈ TW := tw_3 (i := 99) rfl rfl
theorem im_yX0_findDeterminants : Cond.instanceMethod yX0_findDeterminants ∈ TW := tw_3 (i := 101) rfl rfl
theorem se_X0_findDeterminants : Cond.selects RX0 yX0_findDeterminants yX0_findDeterminants ∈ TW := tw_0 (i := 19) rfl rfl
theorem co_yX0_findDeterminants : Cond.code yX0_findDeterminants cX0_findDeterminants 3 none ∈ TW := tw_3 (i := 102) rfl rfl
theorem ml_RX0_76 : Cond.methodLink RX0 76 yX0_findBends ∈ TW := tw_3 (i := 103) rfl rfl
theorem im_yX0_findBends : Cond.instanceMethod yX0_findBends ∈ TW := tw_3 (i := 105) rfl rfl
theorem se_X0_findBends : Cond.selects RX0 yX0_findBends yX0_findBends ∈ TW := tw_0 (i := 20) rfl rfl
theorem co_yX0_findBends : Cond.code yX0_findBends cX0_findBends 8 none ∈ TW := tw_3 (i := 106) rfl rfl
theorem st_yX7_cut : Cond.static yX7_cut ∈ TW := tw_3 (i := 108) rfl rfl
theorem co_yX7_cut : Cond.code yX7_cut cX7_cut 4 (some .long) ∈ TW := tw_3 (i := 109) rfl rfl
theorem ml_RX0_79 : Cond.methodLink RX0 79 yX0_findPushes ∈ TW := tw_3 (i := 110) rfl rfl
theorem im_yX0_findPushes : Cond.instanceMethod yX0_findPushes ∈ TW := tw_3 (i := 112) rfl rfl
theorem se_X0_findPushes : Cond.selects RX0 yX0_findPushes yX0_findPushes ∈ TW := tw_0 (i := 21) rfl rfl
theorem co_yX0_findPushes : Cond.code yX0_findPushes cX0_findPushes 9 none ∈ TW := tw_3 (i := 113) rfl rfl
theorem ml_RX5_49 : Cond.methodLink RX5 49 yX5_holds ∈ TW := tw_3 (i := 114) rfl rfl
theorem im_yX5_holds : Cond.instanceMethod yX5_holds ∈ TW := tw_3 (i := 116) rfl rfl
theorem se_X5_holds : Cond.selects RX5 yX5_holds yX5_holds ∈ TW := tw_0 (i := 22) rfl rfl
theorem co_yX5_holds : Cond.code yX5_holds cX5_holds 2 (some .boolean) ∈ TW := tw_3 (i := 117) rfl rfl
theorem fl_RX5_61 : Cond.fieldLink RX5 61 "ShaftLine$Beam" "push" "[J" ∈ TW := tw_1 (i := 110) rfl rfl
theorem ml_RX5_65 : Cond.methodLink RX5 65 yX5_marginOf ∈ TW := tw_3 (i := 118) rfl rfl
theorem im_yX5_marginOf : Cond.instanceMethod yX5_marginOf ∈ TW := tw_3 (i := 119) rfl rfl
theorem se_X5_marginOf : Cond.selects RX5 yX5_marginOf yX5_marginOf ∈ TW := tw_3 (i := 120) rfl rfl
theorem co_yX5_marginOf : Cond.code yX5_marginOf cX5_marginOf 2 (some .long) ∈ TW := tw_3 (i := 121) rfl rfl
theorem ml_RX5_69 : Cond.methodLink RX5 69 yX5_pushOf ∈ TW := tw_3 (i := 122) rfl rfl
theorem im_yX5_pushOf : Cond.instanceMethod yX5_pushOf ∈ TW := tw_3 (i := 123) rfl rfl
theorem se_X5_pushOf : Cond.selects RX5 yX5_pushOf yX5_pushOf ∈ TW := tw_3 (i := 124) rfl rfl
theorem co_yX5_pushOf : Cond.code yX5_pushOf cX5_pushOf 2 (some .long) ∈ TW := tw_3 (i := 125) rfl rfl
theorem ml_RX5_72 : Cond.methodLink RX5 72 yX0_height ∈ TW := tw_3 (i := 126) rfl rfl
theorem im_yX0_height : Cond.instanceMethod yX0_height ∈ TW := tw_3 (i := 127) rfl rfl
theorem se_X0_height : Cond.selects RX0 yX0_height yX0_height ∈ TW := tw_3 (i := 128) rfl rfl
theorem co_yX0_height : Cond.code yX0_height cX0_height 2 (some .long) ∈ TW := tw_3 (i := 129) rfl rfl
theorem ml_RX0_99 : Cond.methodLink RX0 99 yX0_firstLevel ∈ TW := tw_3 (i := 130) rfl rfl
theorem im_yX0_firstLevel : Cond.instanceMethod yX0_firstLevel ∈ TW := tw_3 (i := 132) rfl rfl
theorem se_X0_firstLevel : Cond.selects RX0 yX0_firstLevel yX0_firstLevel ∈ TW := tw_0 (i := 23) rfl rfl
theorem co_yX0_firstLevel : Cond.code yX0_firstLevel cX0_firstLevel 1 (some .long) ∈ TW := tw_3 (i := 133) rfl rfl
theorem ml_RX0_102 : Cond.methodLink RX0 102 yX0_secondLevel ∈ TW := tw_3 (i := 134) rfl rfl
theorem im_yX0_secondLevel : Cond.instanceMethod yX0_secondLevel ∈ TW := tw_3 (i := 136) rfl rfl
theorem se_X0_secondLevel : Cond.selects RX0 yX0_secondLevel yX0_secondLevel ∈ TW := tw_0 (i := 24) rfl rfl
theorem co_yX0_secondLevel : Cond.code yX0_secondLevel cX0_secondLevel 1 (some .long) ∈ TW := tw_3 (i := 137) rfl rfl
theorem ml_RX0_105 : Cond.methodLink RX0 105 yX0_bulge ∈ TW := tw_3 (i := 138) rfl rfl
theorem im_yX0_bulge : Cond.instanceMethod yX0_bulge ∈ TW := tw_3 (i := 140) rfl rfl
theorem se_X0_bulge : Cond.selects RX0 yX0_bulge yX0_bulge ∈ TW := tw_0 (i := 25) rfl rfl
theorem co_yX0_bulge : Cond.code yX0_bulge cX0_bulge 7 (some .long) ∈ TW := tw_3 (i := 141) rfl rfl
theorem ml_RX5_75 : Cond.methodLink RX5 75 yX0_heightBelow ∈ TW := tw_3 (i := 142) rfl rfl
theorem im_yX0_heightBelow : Cond.instanceMethod yX0_heightBelow ∈ TW := tw_3 (i := 143) rfl rfl
theorem se_X0_heightBelow : Cond.selects RX0 yX0_heightBelow yX0_heightBelow ∈ TW := tw_3 (i := 144) rfl rfl
theorem co_yX0_heightBelow : Cond.code yX0_heightBelow cX0_heightBelow 1 (some .long) ∈ TW := tw_3 (i := 145) rfl rfl
theorem ml_RX7_192 : Cond.methodLink RX7 192 yX5_pushOf ∈ TW := tw_3 (i := 146) rfl rfl
theorem ml_RX7_200 : Cond.methodLink RX7 200 yX1_become ∈ TW := tw_3 (i := 147) rfl rfl
theorem im_yX1_become : Cond.instanceMethod yX1_become ∈ TW := tw_3 (i := 148) rfl rfl
theorem se_X1_become : Cond.selects RX1 yX1_become yX1_become ∈ TW := tw_3 (i := 149) rfl rfl
theorem co_yX1_become : Cond.code yX1_become cX1_become 7 none ∈ TW := tw_3 (i := 150) rfl rfl
theorem st_yX7_commonDivisor : Cond.static yX7_commonDivisor ∈ TW := tw_3 (i := 152) rfl rfl
theorem co_yX7_commonDivisor : Cond.code yX7_commonDivisor cX7_commonDivisor 11 (some .long) ∈ TW := tw_3 (i := 153) rfl rfl
theorem ml_RX7_318 : Cond.methodLink RX7 318 Lib.MathLoose.abs_long.x ∈ TW := tw_3 (i := 154) rfl rfl
theorem st_Lib_MathLoose_abs_long_x : Cond.static Lib.MathLoose.abs_long.x ∈ TW := tw_3 (i := 155) rfl rfl
theorem co_Lib_MathLoose_abs_long_x : Cond.code Lib.MathLoose.abs_long.x Lib.MathLoose.abs_long.code 2 (some .long) ∈ TW := tw_3 (i := 156) rfl rfl
theorem ml_RX7_203 : Cond.methodLink RX7 203 yX1_part ∈ TW := tw_3 (i := 158) rfl rfl
theorem im_yX1_part : Cond.instanceMethod yX1_part ∈ TW := tw_3 (i := 159) rfl rfl
theorem se_X1_part : Cond.selects RX1 yX1_part yX1_part ∈ TW := tw_3 (i := 160) rfl rfl
theorem co_yX1_part : Cond.code yX1_part cX1_part 2 (some .long) ∈ TW := tw_3 (i := 161) rfl rfl
theorem ml_RL_69 : Cond.methodLink RL 69 yX8_load ∈ TW := tw_5 (i := 135) rfl rfl
theorem im_yX8_load : Cond.instanceMethod yX8_load ∈ TW := tw_5 (i := 136) rfl rfl
theorem se_X8_load : Cond.selects RX8 yX8_load yX8_load ∈ TW := tw_5 (i := 137) rfl rfl
theorem co_yX8_load : Cond.code yX8_load cX8_load 5 (some .long) ∈ TW := tw_5 (i := 138) rfl rfl
theorem ck_RX8_290 : Cond.constantLong RX8 290 (-1099511627777) ∈ TW := tw_5 (i := 139) rfl rfl
theorem ck_RX8_299 : Cond.constantLong RX8 299 (-1099511627778) ∈ TW := tw_5 (i := 219) rfl rfl
theorem ml_RX8_292 : Cond.methodLink RX8 292 yX8_stands ∈ TW := tw_5 (i := 140) rfl rfl
theorem im_yX8_stands : Cond.instanceMethod yX8_stands ∈ TW := tw_5 (i := 142) rfl rfl
theorem se_X8_stands : Cond.selects RX8 yX8_stands yX8_stands ∈ TW := tw_0 (i := 45) rfl rfl
theorem co_yX8_stands : Cond.code yX8_stands cX8_stands 6 none ∈ TW := tw_5 (i := 143) rfl rfl
theorem fl_RX8_264 : Cond.fieldLink RX8 264 "ShaftLineModel" "candidates" "I" ∈ TW := tw_4 (i := 164) rfl rfl
theorem fl_RX8_267 : Cond.fieldLink RX8 267 "ShaftLineModel" "jackNumber" "I" ∈ TW := tw_4 (i := 168) rfl rfl
theorem ml_RX8_296 : Cond.methodLink RX8 296 yX8_rests ∈ TW := tw_5 (i := 144) rfl rfl
theorem im_yX8_rests : Cond.instanceMethod yX8_rests ∈ TW := tw_5 (i := 146) rfl rfl
theorem se_X8_rests : Cond.selects RX8 yX8_rests yX8_rests ∈ TW := tw_0 (i := 46) rfl rfl
theorem co_yX8_rests : Cond.code yX8_rests cX8_rests 5 (some .int) ∈ TW := tw_5 (i := 147) rfl rfl
theorem ml_RX8_280 : Cond.methodLink RX8 280 yX8_size ∈ TW := tw_5 (i := 148) rfl rfl
theorem st_yX8_size : Cond.static yX8_size ∈ TW := tw_5 (i := 149) rfl rfl
theorem co_yX8_size : Cond.code yX8_size cX8_size 3 (some .int) ∈ TW := tw_5 (i := 150) rfl rfl
theorem ml_RX8_283 : Cond.methodLink RX8 283 yX8_isAhead ∈ TW := tw_5 (i := 151) rfl rfl
theorem st_yX8_isAhead : Cond.static yX8_isAhead ∈ TW := tw_5 (i := 152) rfl rfl
theorem co_yX8_isAhead : Cond.code yX8_isAhead cX8_isAhead 3 (some .boolean) ∈ TW := tw_5 (i := 153) rfl rfl
theorem ml_RX8_287 : Cond.methodLink RX8 287 yX8_lies ∈ TW := tw_5 (i := 154) rfl rfl
theorem im_yX8_lies : Cond.instanceMethod yX8_lies ∈ TW := tw_5 (i := 156) rfl rfl
theorem se_X8_lies : Cond.selects RX8 yX8_lies yX8_lies ∈ TW := tw_0 (i := 47) rfl rfl
theorem co_yX8_lies : Cond.code yX8_lies cX8_lies 3 (some .boolean) ∈ TW := tw_5 (i := 157) rfl rfl
theorem fl_RX8_215 : Cond.fieldLink RX8 215 "ShaftLineModel" "many" "I" ∈ TW := tw_4 (i := 151) rfl rfl
theorem fl_RX8_202 : Cond.fieldLink RX8 202 "ShaftLineModel" "above" "J" ∈ TW := tw_4 (i := 149) rfl rfl
theorem ml_RX8_270 : Cond.methodLink RX8 270 yX8_chooses ∈ TW := tw_5 (i := 158) rfl rfl
theorem im_yX8_chooses : Cond.instanceMethod yX8_chooses ∈ TW := tw_5 (i := 160) rfl rfl
theorem se_X8_chooses : Cond.selects RX8 yX8_chooses yX8_chooses ∈ TW := tw_0 (i := 48) rfl rfl
theorem co_yX8_chooses : Cond.code yX8_chooses cX8_chooses 3 none ∈ TW := tw_5 (i := 161) rfl rfl
theorem ml_RX8_274 : Cond.methodLink RX8 274 yX8_goes ∈ TW := tw_5 (i := 162) rfl rfl
theorem im_yX8_goes : Cond.instanceMethod yX8_goes ∈ TW := tw_5 (i := 164) rfl rfl
theorem se_X8_goes : Cond.selects RX8 yX8_goes yX8_goes ∈ TW := tw_0 (i := 49) rfl rfl
theorem co_yX8_goes : Cond.code yX8_goes cX8_goes 4 none ∈ TW := tw_5 (i := 165) rfl rfl
theorem ck_RX8_245 : Cond.constantLong RX8 245 (-1) ∈ TW := tw_5 (i := 203) rfl rfl
theorem ml_RX8_238 : Cond.methodLink RX8 238 yX8_bends ∈ TW := tw_5 (i := 166) rfl rfl
theorem im_yX8_bends : Cond.instanceMethod yX8_bends ∈ TW := tw_5 (i := 168) rfl rfl
theorem se_X8_bends : Cond.selects RX8 yX8_bends yX8_bends ∈ TW := tw_0 (i := 50) rfl rfl
theorem co_yX8_bends : Cond.code yX8_bends cX8_bends 15 none ∈ TW := tw_5 (i := 169) rfl rfl
theorem ck_RX8_213 : Cond.constantLong RX8 213 (27720) ∈ TW := tw_5 (i := 187) rfl rfl
theorem fl_RX8_232 : Cond.fieldLink RX8 232 "ShaftLineModel" "determinant" "J" ∈ TW := tw_4 (i := 161) rfl rfl
theorem ml_RX8_218 : Cond.methodLink RX8 218 yX8_hangs ∈ TW := tw_5 (i := 170) rfl rfl
theorem im_yX8_hangs : Cond.instanceMethod yX8_hangs ∈ TW := tw_5 (i := 172) rfl rfl
theorem se_X8_hangs : Cond.selects RX8 yX8_hangs yX8_hangs ∈ TW := tw_0 (i := 51) rfl rfl
theorem co_yX8_hangs : Cond.code yX8_hangs cX8_hangs 7 (some .long) ∈ TW := tw_5 (i := 173) rfl rfl
theorem ml_RX8_222 : Cond.methodLink RX8 222 yX8_diagonal ∈ TW := tw_5 (i := 174) rfl rfl
theorem im_yX8_diagonal : Cond.instanceMethod yX8_diagonal ∈ TW := tw_5 (i := 176) rfl rfl
theorem se_X8_diagonal : Cond.selects RX8 yX8_diagonal yX8_diagonal ∈ TW := tw_0 (i := 52) rfl rfl
theorem co_yX8_diagonal : Cond.code yX8_diagonal cX8_diagonal 2 (some .long) ∈ TW := tw_5 (i := 177) rfl rfl
theorem ml_RX8_226 : Cond.methodLink RX8 226 yX8_side ∈ TW := tw_5 (i := 178) rfl rfl
theorem im_yX8_side : Cond.instanceMethod yX8_side ∈ TW := tw_5 (i := 180) rfl rfl
theorem se_X8_side : Cond.selects RX8 yX8_side yX8_side ∈ TW := tw_0 (i := 53) rfl rfl
theorem co_yX8_side : Cond.code yX8_side cX8_side 2 (some .long) ∈ TW := tw_5 (i := 181) rfl rfl
theorem ml_RX8_229 : Cond.methodLink RX8 229 yX8_right ∈ TW := tw_5 (i := 182) rfl rfl
theorem im_yX8_right : Cond.instanceMethod yX8_right ∈ TW := tw_5 (i := 184) rfl rfl
theorem se_X8_right : Cond.selects RX8 yX8_right yX8_right ∈ TW := tw_0 (i := 54) rfl rfl
theorem co_yX8_right : Cond.code yX8_right cX8_right 11 (some .long) ∈ TW := tw_5 (i := 185) rfl rfl
theorem ck_RX8_211 : Cond.constantLong RX8 211 (6) ∈ TW := tw_5 (i := 186) rfl rfl
theorem ml_RX8_205 : Cond.methodLink RX8 205 yX8_makes ∈ TW := tw_5 (i := 188) rfl rfl
theorem im_yX8_makes : Cond.instanceMethod yX8_makes ∈ TW := tw_5 (i := 190) rfl rfl
theorem se_X8_makes : Cond.selects RX8 yX8_makes yX8_makes ∈ TW := tw_0 (i := 55) rfl rfl
theorem co_yX8_makes : Cond.code yX8_makes cX8_makes 7 none ∈ TW := tw_5 (i := 191) rfl rfl
theorem ml_RX8_198 : Cond.methodLink RX8 198 yX8_common ∈ TW := tw_5 (i := 192) rfl rfl
theorem st_yX8_common : Cond.static yX8_common ∈ TW := tw_5 (i := 193) rfl rfl
theorem co_yX8_common : Cond.code yX8_common cX8_common 10 (some .long) ∈ TW := tw_5 (i := 194) rfl rfl
theorem ml_RX8_235 : Cond.methodLink RX8 235 yX8_adds ∈ TW := tw_5 (i := 195) rfl rfl
theorem im_yX8_adds : Cond.instanceMethod yX8_adds ∈ TW := tw_5 (i := 197) rfl rfl
theorem se_X8_adds : Cond.selects RX8 yX8_adds yX8_adds ∈ TW := tw_0 (i := 56) rfl rfl
theorem co_yX8_adds : Cond.code yX8_adds cX8_adds 7 none ∈ TW := tw_5 (i := 198) rfl rfl
theorem ml_RX8_241 : Cond.methodLink RX8 241 yX8_pushes ∈ TW := tw_5 (i := 199) rfl rfl
theorem im_yX8_pushes : Cond.instanceMethod yX8_pushes ∈ TW := tw_5 (i := 201) rfl rfl
theorem se_X8_pushes : Cond.selects RX8 yX8_pushes yX8_pushes ∈ TW := tw_0 (i := 57) rfl rfl
theorem co_yX8_pushes : Cond.code yX8_pushes cX8_pushes 10 none ∈ TW := tw_5 (i := 202) rfl rfl
theorem ml_RX8_277 : Cond.methodLink RX8 277 yX8_height ∈ TW := tw_5 (i := 204) rfl rfl
theorem im_yX8_height : Cond.instanceMethod yX8_height ∈ TW := tw_5 (i := 206) rfl rfl
theorem se_X8_height : Cond.selects RX8 yX8_height yX8_height ∈ TW := tw_0 (i := 58) rfl rfl
theorem co_yX8_height : Cond.code yX8_height cX8_height 10 none ∈ TW := tw_5 (i := 207) rfl rfl
theorem fl_RX8_251 : Cond.fieldLink RX8 251 "ShaftLineModel" "sumAbove" "J" ∈ TW := tw_4 (i := 162) rfl rfl
theorem fl_RX8_254 : Cond.fieldLink RX8 254 "ShaftLineModel" "sumBelow" "J" ∈ TW := tw_4 (i := 163) rfl rfl
theorem ml_RX8_261 : Cond.methodLink RX8 261 yX8_tilts ∈ TW := tw_5 (i := 208) rfl rfl
theorem im_yX8_tilts : Cond.instanceMethod yX8_tilts ∈ TW := tw_5 (i := 210) rfl rfl
theorem se_X8_tilts : Cond.selects RX8 yX8_tilts yX8_tilts ∈ TW := tw_0 (i := 59) rfl rfl
theorem co_yX8_tilts : Cond.code yX8_tilts cX8_tilts 5 none ∈ TW := tw_5 (i := 211) rfl rfl
theorem ml_RX8_257 : Cond.methodLink RX8 257 yX8_sums ∈ TW := tw_5 (i := 212) rfl rfl
theorem im_yX8_sums : Cond.instanceMethod yX8_sums ∈ TW := tw_5 (i := 214) rfl rfl
theorem se_X8_sums : Cond.selects RX8 yX8_sums yX8_sums ∈ TW := tw_0 (i := 60) rfl rfl
theorem co_yX8_sums : Cond.code yX8_sums cX8_sums 4 none ∈ TW := tw_5 (i := 215) rfl rfl
theorem ml_RX8_247 : Cond.methodLink RX8 247 yX8_cube ∈ TW := tw_5 (i := 216) rfl rfl
theorem st_yX8_cube : Cond.static yX8_cube ∈ TW := tw_5 (i := 217) rfl rfl
theorem co_yX8_cube : Cond.code yX8_cube cX8_cube 3 (some .long) ∈ TW := tw_5 (i := 218) rfl rfl
theorem ml_RX8_301 : Cond.methodLink RX8 301 yX8_loadOf ∈ TW := tw_5 (i := 220) rfl rfl
theorem im_yX8_loadOf : Cond.instanceMethod yX8_loadOf ∈ TW := tw_5 (i := 222) rfl rfl
theorem se_X8_loadOf : Cond.selects RX8 yX8_loadOf yX8_loadOf ∈ TW := tw_0 (i := 61) rfl rfl
theorem co_yX8_loadOf : Cond.code yX8_loadOf cX8_loadOf 5 none ∈ TW := tw_5 (i := 223) rfl rfl
theorem ml_RX8_305 : Cond.methodLink RX8 305 yX8_part ∈ TW := tw_5 (i := 224) rfl rfl
theorem im_yX8_part : Cond.instanceMethod yX8_part ∈ TW := tw_5 (i := 226) rfl rfl
theorem se_X8_part : Cond.selects RX8 yX8_part yX8_part ∈ TW := tw_0 (i := 62) rfl rfl
theorem co_yX8_part : Cond.code yX8_part cX8_part 2 (some .long) ∈ TW := tw_5 (i := 227) rfl rfl
theorem ml_RL_70 : Cond.methodLink RL 70 yX7_lifted ∈ TW := tw_3 (i := 162) rfl rfl
theorem im_yX7_lifted : Cond.instanceMethod yX7_lifted ∈ TW := tw_3 (i := 163) rfl rfl
theorem se_X7_lifted : Cond.selects RX7 yX7_lifted yX7_lifted ∈ TW := tw_3 (i := 164) rfl rfl
theorem co_yX7_lifted : Cond.code yX7_lifted cX7_lifted 4 (some .int) ∈ TW := tw_3 (i := 165) rfl rfl
theorem ml_RL_73 : Cond.methodLink RL 73 yX8_lifted ∈ TW := tw_5 (i := 228) rfl rfl
theorem im_yX8_lifted : Cond.instanceMethod yX8_lifted ∈ TW := tw_5 (i := 229) rfl rfl
theorem se_X8_lifted : Cond.selects RX8 yX8_lifted yX8_lifted ∈ TW := tw_5 (i := 230) rfl rfl
theorem co_yX8_lifted : Cond.code yX8_lifted cX8_lifted 5 (some .int) ∈ TW := tw_5 (i := 231) rfl rfl
theorem ml_RL_74 : Cond.methodLink RL 74 yX7_high ∈ TW := tw_3 (i := 166) rfl rfl
theorem im_yX7_high : Cond.instanceMethod yX7_high ∈ TW := tw_3 (i := 167) rfl rfl
theorem se_X7_high : Cond.selects RX7 yX7_high yX7_high ∈ TW := tw_3 (i := 168) rfl rfl
theorem co_yX7_high : Cond.code yX7_high cX7_high 4 (some .long) ∈ TW := tw_3 (i := 169) rfl rfl
theorem ml_RX7_206 : Cond.methodLink RX7 206 yX0_height ∈ TW := tw_3 (i := 170) rfl rfl
theorem ml_RX7_209 : Cond.methodLink RX7 209 yX0_heightBelow ∈ TW := tw_3 (i := 171) rfl rfl
theorem ml_RL_77 : Cond.methodLink RL 77 yX8_high ∈ TW := tw_5 (i := 232) rfl rfl
theorem im_yX8_high : Cond.instanceMethod yX8_high ∈ TW := tw_5 (i := 233) rfl rfl
theorem se_X8_high : Cond.selects RX8 yX8_high yX8_high ∈ TW := tw_5 (i := 234) rfl rfl
theorem co_yX8_high : Cond.code yX8_high cX8_high 4 (some .long) ∈ TW := tw_5 (i := 235) rfl rfl
theorem ml_RL_78 : Cond.methodLink RL 78 yX7_through ∈ TW := tw_3 (i := 172) rfl rfl
theorem im_yX7_through : Cond.instanceMethod yX7_through ∈ TW := tw_3 (i := 173) rfl rfl
theorem se_X7_through : Cond.selects RX7 yX7_through yX7_through ∈ TW := tw_3 (i := 174) rfl rfl
theorem co_yX7_through : Cond.code yX7_through cX7_through 4 (some .long) ∈ TW := tw_3 (i := 175) rfl rfl
theorem fl_RX7_217 : Cond.fieldLink RX7 217 "ShaftLine$Beam" "push" "[J" ∈ TW := tw_1 (i := 111) rfl rfl
theorem ml_RX7_213 : Cond.methodLink RX7 213 yX7_goesThrough ∈ TW := tw_3 (i := 176) rfl rfl
theorem im_yX7_goesThrough : Cond.instanceMethod yX7_goesThrough ∈ TW := tw_3 (i := 178) rfl rfl
theorem se_X7_goesThrough : Cond.selects RX7 yX7_goesThrough yX7_goesThrough ∈ TW := tw_0 (i := 26) rfl rfl
theorem co_yX7_goesThrough : Cond.code yX7_goesThrough cX7_goesThrough 6 (some .boolean) ∈ TW := tw_3 (i := 179) rfl rfl
theorem fl_RX7_327 : Cond.fieldLink RX7 327 "ShaftLine$Beam" "count" "I" ∈ TW := tw_1 (i := 106) rfl rfl
theorem ml_RX7_221 : Cond.methodLink RX7 221 yX0_start ∈ TW := tw_3 (i := 180) rfl rfl
theorem ml_RX7_224 : Cond.methodLink RX7 224 yX0_add ∈ TW := tw_3 (i := 181) rfl rfl
theorem ml_RX7_228 : Cond.methodLink RX7 228 yX0_carry ∈ TW := tw_3 (i := 182) rfl rfl
theorem ml_RX7_232 : Cond.methodLink RX7 232 yX0_solve ∈ TW := tw_3 (i := 183) rfl rfl
theorem ml_RL_81 : Cond.methodLink RL 81 yX8_through ∈ TW := tw_5 (i := 236) rfl rfl
theorem im_yX8_through : Cond.instanceMethod yX8_through ∈ TW := tw_5 (i := 237) rfl rfl
theorem se_X8_through : Cond.selects RX8 yX8_through yX8_through ∈ TW := tw_5 (i := 238) rfl rfl
theorem co_yX8_through : Cond.code yX8_through cX8_through 4 (some .long) ∈ TW := tw_5 (i := 239) rfl rfl
theorem ml_RL_82 : Cond.methodLink RL 82 yX7_table ∈ TW := tw_3 (i := 184) rfl rfl
theorem im_yX7_table : Cond.instanceMethod yX7_table ∈ TW := tw_3 (i := 185) rfl rfl
theorem se_X7_table : Cond.selects RX7 yX7_table yX7_table ∈ TW := tw_3 (i := 186) rfl rfl
theorem co_yX7_table : Cond.code yX7_table cX7_table 5 (some .long) ∈ TW := tw_3 (i := 187) rfl rfl
theorem ml_RL_85 : Cond.methodLink RL 85 yX8_table ∈ TW := tw_6 (i := 0) rfl rfl
theorem im_yX8_table : Cond.instanceMethod yX8_table ∈ TW := tw_6 (i := 1) rfl rfl
theorem se_X8_table : Cond.selects RX8 yX8_table yX8_table ∈ TW := tw_6 (i := 2) rfl rfl
theorem co_yX8_table : Cond.code yX8_table cX8_table 5 (some .long) ∈ TW := tw_6 (i := 3) rfl rfl
theorem ml_RL_86 : Cond.methodLink RL 86 yX7_coupling ∈ TW := tw_3 (i := 188) rfl rfl
theorem im_yX7_coupling : Cond.instanceMethod yX7_coupling ∈ TW := tw_3 (i := 189) rfl rfl
theorem se_X7_coupling : Cond.selects RX7 yX7_coupling yX7_coupling ∈ TW := tw_3 (i := 190) rfl rfl
theorem co_yX7_coupling : Cond.code yX7_coupling cX7_coupling 5 (some .long) ∈ TW := tw_3 (i := 191) rfl rfl
theorem ck_RX7_235 : Cond.constantLong RX7 235 (10) ∈ TW := tw_3 (i := 192) rfl rfl
theorem ml_RX7_237 : Cond.methodLink RX7 237 yX0_slope ∈ TW := tw_3 (i := 193) rfl rfl
theorem im_yX0_slope : Cond.instanceMethod yX0_slope ∈ TW := tw_3 (i := 194) rfl rfl
theorem se_X0_slope : Cond.selects RX0 yX0_slope yX0_slope ∈ TW := tw_3 (i := 195) rfl rfl
theorem co_yX0_slope : Cond.code yX0_slope cX0_slope 7 (some .long) ∈ TW := tw_3 (i := 196) rfl rfl
theorem ml_RX7_240 : Cond.methodLink RX7 240 yX1_takeAway ∈ TW := tw_3 (i := 197) rfl rfl
theorem im_yX1_takeAway : Cond.instanceMethod yX1_takeAway ∈ TW := tw_3 (i := 198) rfl rfl
theorem se_X1_takeAway : Cond.selects RX1 yX1_takeAway yX1_takeAway ∈ TW := tw_3 (i := 199) rfl rfl
theorem co_yX1_takeAway : Cond.code yX1_takeAway cX1_takeAway 6 none ∈ TW := tw_3 (i := 200) rfl rfl
theorem ml_RX1_25 : Cond.methodLink RX1 25 yX1_become ∈ TW := tw_3 (i := 201) rfl rfl
theorem ml_RL_90 : Cond.methodLink RL 90 yX8_coupling ∈ TW := tw_6 (i := 4) rfl rfl
theorem im_yX8_coupling : Cond.instanceMethod yX8_coupling ∈ TW := tw_6 (i := 5) rfl rfl
theorem se_X8_coupling : Cond.selects RX8 yX8_coupling yX8_coupling ∈ TW := tw_6 (i := 6) rfl rfl
theorem co_yX8_coupling : Cond.code yX8_coupling cX8_coupling 9 (some .long) ∈ TW := tw_6 (i := 7) rfl rfl
theorem ml_RX8_313 : Cond.methodLink RX8 313 yX8_isPart ∈ TW := tw_6 (i := 8) rfl rfl
theorem im_yX8_isPart : Cond.instanceMethod yX8_isPart ∈ TW := tw_6 (i := 10) rfl rfl
theorem se_X8_isPart : Cond.selects RX8 yX8_isPart yX8_isPart ∈ TW := tw_0 (i := 63) rfl rfl
theorem co_yX8_isPart : Cond.code yX8_isPart cX8_isPart 6 (some .boolean) ∈ TW := tw_6 (i := 11) rfl rfl
theorem ml_RX8_317 : Cond.methodLink RX8 317 yX8_endOf ∈ TW := tw_6 (i := 12) rfl rfl
theorem im_yX8_endOf : Cond.instanceMethod yX8_endOf ∈ TW := tw_6 (i := 14) rfl rfl
theorem se_X8_endOf : Cond.selects RX8 yX8_endOf yX8_endOf ∈ TW := tw_0 (i := 64) rfl rfl
theorem co_yX8_endOf : Cond.code yX8_endOf cX8_endOf 3 none ∈ TW := tw_6 (i := 15) rfl rfl
theorem ck_RX8_311 : Cond.constantLong RX8 311 (10) ∈ TW := tw_6 (i := 20) rfl rfl
theorem ml_RX8_308 : Cond.methodLink RX8 308 yX8_slope ∈ TW := tw_6 (i := 16) rfl rfl
theorem im_yX8_slope : Cond.instanceMethod yX8_slope ∈ TW := tw_6 (i := 18) rfl rfl
theorem se_X8_slope : Cond.selects RX8 yX8_slope yX8_slope ∈ TW := tw_0 (i := 65) rfl rfl
theorem co_yX8_slope : Cond.code yX8_slope cX8_slope 6 none ∈ TW := tw_6 (i := 19) rfl rfl
theorem ml_RL_91 : Cond.methodLink RL 91 yX7_jack ∈ TW := tw_3 (i := 202) rfl rfl
theorem im_yX7_jack : Cond.instanceMethod yX7_jack ∈ TW := tw_3 (i := 203) rfl rfl
theorem se_X7_jack : Cond.selects RX7 yX7_jack yX7_jack ∈ TW := tw_3 (i := 204) rfl rfl
theorem co_yX7_jack : Cond.code yX7_jack cX7_jack 6 (some .long) ∈ TW := tw_3 (i := 205) rfl rfl
theorem ml_RX7_244 : Cond.methodLink RX7 244 yX2_bearingsBelow ∈ TW := tw_3 (i := 206) rfl rfl
theorem ml_RL_94 : Cond.methodLink RL 94 yX8_jack ∈ TW := tw_6 (i := 21) rfl rfl
theorem im_yX8_jack : Cond.instanceMethod yX8_jack ∈ TW := tw_6 (i := 22) rfl rfl
theorem se_X8_jack : Cond.selects RX8 yX8_jack yX8_jack ∈ TW := tw_6 (i := 23) rfl rfl
theorem co_yX8_jack : Cond.code yX8_jack cX8_jack 6 (some .long) ∈ TW := tw_6 (i := 24) rfl rfl
theorem ck_RX8_320 : Cond.constantLong RX8 320 (-90) ∈ TW := tw_6 (i := 25) rfl rfl
theorem ck_RX8_322 : Cond.constantLong RX8 322 (90) ∈ TW := tw_6 (i := 26) rfl rfl
theorem ml_RL_95 : Cond.methodLink RL 95 yX7_bounds ∈ TW := tw_3 (i := 207) rfl rfl
theorem im_yX7_bounds : Cond.instanceMethod yX7_bounds ∈ TW := tw_3 (i := 208) rfl rfl
theorem se_X7_bounds : Cond.selects RX7 yX7_bounds yX7_bounds ∈ TW := tw_3 (i := 209) rfl rfl
theorem co_yX7_bounds : Cond.code yX7_bounds cX7_bounds 3 (some .int) ∈ TW := tw_3 (i := 210) rfl rfl
theorem ml_RL_98 : Cond.methodLink RL 98 yX8_bounds ∈ TW := tw_6 (i := 27) rfl rfl
theorem im_yX8_bounds : Cond.instanceMethod yX8_bounds ∈ TW := tw_6 (i := 28) rfl rfl
theorem se_X8_bounds : Cond.selects RX8 yX8_bounds yX8_bounds ∈ TW := tw_6 (i := 29) rfl rfl
theorem co_yX8_bounds : Cond.code yX8_bounds cX8_bounds 3 (some .int) ∈ TW := tw_6 (i := 30) rfl rfl
theorem ck_RX8_324 : Cond.constantLong RX8 324 (600) ∈ TW := tw_6 (i := 31) rfl rfl
theorem fl_RX8_326 : Cond.fieldLink RX8 326 "ShaftLineModel" "low" "I" ∈ TW := tw_4 (i := 169) rfl rfl
theorem ml_RL_99 : Cond.methodLink RL 99 yX7_fits ∈ TW := tw_3 (i := 211) rfl rfl
theorem im_yX7_fits : Cond.instanceMethod yX7_fits ∈ TW := tw_3 (i := 212) rfl rfl
theorem se_X7_fits : Cond.selects RX7 yX7_fits yX7_fits ∈ TW := tw_3 (i := 213) rfl rfl
theorem co_yX7_fits : Cond.code yX7_fits cX7_fits 3 (some .int) ∈ TW := tw_3 (i := 214) rfl rfl
theorem ml_RX7_261 : Cond.methodLink RX7 261 yX7_isWithinBounds ∈ TW := tw_3 (i := 215) rfl rfl
theorem im_yX7_isWithinBounds : Cond.instanceMethod yX7_isWithinBounds ∈ TW := tw_3 (i := 217) rfl rfl
theorem se_X7_isWithinBounds : Cond.selects RX7 yX7_isWithinBounds yX7_isWithinBounds ∈ TW := tw_0 (i := 27) rfl rfl
theorem co_yX7_isWithinBounds : Cond.code yX7_isWithinBounds cX7_isWithinBounds 6 (some .boolean) ∈ TW := tw_3 (i := 218) rfl rfl
theorem ml_RL_102 : Cond.methodLink RL 102 yX8_fits ∈ TW := tw_6 (i := 32) rfl rfl
theorem im_yX8_fits : Cond.instanceMethod yX8_fits ∈ TW := tw_6 (i := 33) rfl rfl
theorem se_X8_fits : Cond.selects RX8 yX8_fits yX8_fits ∈ TW := tw_6 (i := 34) rfl rfl
theorem co_yX8_fits : Cond.code yX8_fits cX8_fits 2 (some .int) ∈ TW := tw_6 (i := 35) rfl rfl
theorem ck_RX8_329 : Cond.constantLong RX8 329 (15) ∈ TW := tw_6 (i := 36) rfl rfl
theorem ml_RX8_331 : Cond.methodLink RX8 331 yX8_isFit ∈ TW := tw_6 (i := 37) rfl rfl
theorem im_yX8_isFit : Cond.instanceMethod yX8_isFit ∈ TW := tw_6 (i := 39) rfl rfl
theorem se_X8_isFit : Cond.selects RX8 yX8_isFit yX8_isFit ∈ TW := tw_0 (i := 66) rfl rfl
theorem co_yX8_isFit : Cond.code yX8_isFit cX8_isFit 5 (some .boolean) ∈ TW := tw_6 (i := 40) rfl rfl
theorem ml_RL_103 : Cond.methodLink RL 103 yX7_plan ∈ TW := tw_3 (i := 219) rfl rfl
theorem im_yX7_plan : Cond.instanceMethod yX7_plan ∈ TW := tw_3 (i := 220) rfl rfl
theorem se_X7_plan : Cond.selects RX7 yX7_plan yX7_plan ∈ TW := tw_3 (i := 221) rfl rfl
theorem co_yX7_plan : Cond.code yX7_plan cX7_plan 2 (some .int) ∈ TW := tw_3 (i := 222) rfl rfl
theorem fl_RX7_267 : Cond.fieldLink RX7 267 "ShaftLine$Planner" "moved" "I" ∈ TW := tw_1 (i := 196) rfl rfl
theorem ml_RX7_264 : Cond.methodLink RX7 264 yX7_makePlan ∈ TW := tw_3 (i := 223) rfl rfl
theorem im_yX7_makePlan : Cond.instanceMethod yX7_makePlan ∈ TW := tw_3 (i := 225) rfl rfl
theorem se_X7_makePlan : Cond.selects RX7 yX7_makePlan yX7_makePlan ∈ TW := tw_0 (i := 28) rfl rfl
theorem co_yX7_makePlan : Cond.code yX7_makePlan cX7_makePlan 3 none ∈ TW := tw_3 (i := 226) rfl rfl
theorem ml_RX7_328 : Cond.methodLink RX7 328 yX3_start ∈ TW := tw_3 (i := 227) rfl rfl
theorem im_yX3_start : Cond.instanceMethod yX3_start ∈ TW := tw_3 (i := 228) rfl rfl
theorem se_X3_start : Cond.selects RX3 yX3_start yX3_start ∈ TW := tw_3 (i := 229) rfl rfl
theorem co_yX3_start : Cond.code yX3_start cX3_start 4 none ∈ TW := tw_3 (i := 230) rfl rfl
theorem ml_RX7_331 : Cond.methodLink RX7 331 yX3_mayPlan ∈ TW := tw_3 (i := 231) rfl rfl
theorem im_yX3_mayPlan : Cond.instanceMethod yX3_mayPlan ∈ TW := tw_3 (i := 232) rfl rfl
theorem se_X3_mayPlan : Cond.selects RX3 yX3_mayPlan yX3_mayPlan ∈ TW := tw_3 (i := 233) rfl rfl
theorem co_yX3_mayPlan : Cond.code yX3_mayPlan cX3_mayPlan 1 (some .boolean) ∈ TW := tw_3 (i := 234) rfl rfl
theorem fl_RX3_61 : Cond.fieldLink RX3 61 "ShaftLine$Line" "count" "I" ∈ TW := tw_1 (i := 29) rfl rfl
theorem ml_RX7_334 : Cond.methodLink RX7 334 yX3_prepareSets ∈ TW := tw_3 (i := 235) rfl rfl
theorem im_yX3_prepareSets : Cond.instanceMethod yX3_prepareSets ∈ TW := tw_3 (i := 236) rfl rfl
theorem se_X3_prepareSets : Cond.selects RX3 yX3_prepareSets yX3_prepareSets ∈ TW := tw_3 (i := 237) rfl rfl
theorem co_yX3_prepareSets : Cond.code yX3_prepareSets cX3_prepareSets 4 none ∈ TW := tw_3 (i := 238) rfl rfl
theorem fl_RX3_72 : Cond.fieldLink RX3 72 "ShaftLine$Line" "stiffness" "I" ∈ TW := tw_1 (i := 47) rfl rfl
theorem fl_RX3_81 : Cond.fieldLink RX3 81 "ShaftLine$Line" "place" "[I" ∈ TW := tw_1 (i := 32) rfl rfl
theorem ml_RX3_66 : Cond.methodLink RX3 66 yJ6_bitCount_0f7a4 ∈ TW := tw_3 (i := 239) rfl rfl
theorem ml_RX3_75 : Cond.methodLink RX3 75 yX5_start ∈ TW := tw_4 (i := 0) rfl rfl
theorem ml_RX3_84 : Cond.methodLink RX3 84 yX5_put ∈ TW := tw_4 (i := 1) rfl rfl
theorem ml_RX3_88 : Cond.methodLink RX3 88 yX5_lay ∈ TW := tw_4 (i := 2) rfl rfl
theorem ml_RX3_92 : Cond.methodLink RX3 92 yX3_keepMargins ∈ TW := tw_4 (i := 3) rfl rfl
theorem im_yX3_keepMargins : Cond.instanceMethod yX3_keepMargins ∈ TW := tw_4 (i := 5) rfl rfl
theorem se_X3_keepMargins : Cond.selects RX3 yX3_keepMargins yX3_keepMargins ∈ TW := tw_0 (i := 29) rfl rfl
theorem co_yX3_keepMargins : Cond.code yX3_keepMargins cX3_keepMargins 6 none ∈ TW := tw_4 (i := 6) rfl rfl
theorem fl_RX3_102 : Cond.fieldLink RX3 102 "ShaftLine$Rest" "beam" "LShaftLine$Beam;" ∈ TW := tw_1 (i := 172) rfl rfl
theorem fl_RX3_106 : Cond.fieldLink RX3 106 "ShaftLine$Beam" "below" "J" ∈ TW := tw_1 (i := 113) rfl rfl
theorem ml_RX3_111 : Cond.methodLink RX3 111 yX5_marginOf ∈ TW := tw_4 (i := 7) rfl rfl
theorem ml_RX3_115 : Cond.methodLink RX3 115 yX5_isMember ∈ TW := tw_4 (i := 8) rfl rfl
theorem im_yX5_isMember : Cond.instanceMethod yX5_isMember ∈ TW := tw_4 (i := 9) rfl rfl
theorem se_X5_isMember : Cond.selects RX5 yX5_isMember yX5_isMember ∈ TW := tw_4 (i := 10) rfl rfl
theorem co_yX5_isMember : Cond.code yX5_isMember cX5_isMember 2 (some .boolean) ∈ TW := tw_4 (i := 11) rfl rfl
theorem ml_RX7_338 : Cond.methodLink RX7 338 yX3_prepareState ∈ TW := tw_4 (i := 12) rfl rfl
theorem im_yX3_prepareState : Cond.instanceMethod yX3_prepareState ∈ TW := tw_4 (i := 13) rfl rfl
theorem se_X3_prepareState : Cond.selects RX3 yX3_prepareState yX3_prepareState ∈ TW := tw_4 (i := 14) rfl rfl
theorem co_yX3_prepareState : Cond.code yX3_prepareState cX3_prepareState 5 none ∈ TW := tw_4 (i := 15) rfl rfl
theorem fl_RX3_96 : Cond.fieldLink RX3 96 "ShaftLine$Line" "weight" "[I" ∈ TW := tw_1 (i := 42) rfl rfl
theorem fl_RX3_99 : Cond.fieldLink RX3 99 "ShaftLine$Line" "offset" "[I" ∈ TW := tw_1 (i := 36) rfl rfl
theorem ml_RX7_342 : Cond.methodLink RX7 342 yX3_search ∈ TW := tw_4 (i := 16) rfl rfl
theorem im_yX3_search : Cond.instanceMethod yX3_search ∈ TW := tw_4 (i := 17) rfl rfl
theorem se_X3_search : Cond.selects RX3 yX3_search yX3_search ∈ TW := tw_4 (i := 18) rfl rfl
theorem co_yX3_search : Cond.code yX3_search cX3_search 4 none ∈ TW := tw_4 (i := 19) rfl rfl
theorem ml_RX3_119 : Cond.methodLink RX3 119 yX3_takeMoves ∈ TW := tw_4 (i := 20) rfl rfl
theorem im_yX3_takeMoves : Cond.instanceMethod yX3_takeMoves ∈ TW := tw_4 (i := 22) rfl rfl
theorem se_X3_takeMoves : Cond.selects RX3 yX3_takeMoves yX3_takeMoves ∈ TW := tw_0 (i := 30) rfl rfl
theorem co_yX3_takeMoves : Cond.code yX3_takeMoves cX3_takeMoves 6 (some .boolean) ∈ TW := tw_4 (i := 23) rfl rfl
theorem ml_RX3_128 : Cond.methodLink RX3 128 Lib.Math.abs.name ∈ TW := tw_4 (i := 24) rfl rfl
theorem st_Lib_Math_abs_name : Cond.static Lib.Math.abs.name ∈ TW := tw_4 (i := 25) rfl rfl
theorem co_Lib_Math_abs_name : Cond.code Lib.Math.abs.name Lib.Math.abs.code 1 (some .int) ∈ TW := tw_4 (i := 26) rfl rfl
theorem ml_RX3_122 : Cond.methodLink RX3 122 yX3_fitsInAll ∈ TW := tw_4 (i := 27) rfl rfl
theorem im_yX3_fitsInAll : Cond.instanceMethod yX3_fitsInAll ∈ TW := tw_4 (i := 29) rfl rfl
theorem se_X3_fitsInAll : Cond.selects RX3 yX3_fitsInAll yX3_fitsInAll ∈ TW := tw_0 (i := 31) rfl rfl
theorem co_yX3_fitsInAll : Cond.code yX3_fitsInAll cX3_fitsInAll 3 (some .boolean) ∈ TW := tw_4 (i := 30) rfl rfl
theorem ml_RX3_133 : Cond.methodLink RX3 133 yX3_fitsIn ∈ TW := tw_4 (i := 31) rfl rfl
theorem im_yX3_fitsIn : Cond.instanceMethod yX3_fitsIn ∈ TW := tw_4 (i := 33) rfl rfl
theorem se_X3_fitsIn : Cond.selects RX3 yX3_fitsIn yX3_fitsIn ∈ TW := tw_0 (i := 32) rfl rfl
theorem co_yX3_fitsIn : Cond.code yX3_fitsIn cX3_fitsIn 3 (some .boolean) ∈ TW := tw_4 (i := 34) rfl rfl
theorem ml_RX3_136 : Cond.methodLink RX3 136 yX3_holds ∈ TW := tw_4 (i := 35) rfl rfl
theorem im_yX3_holds : Cond.instanceMethod yX3_holds ∈ TW := tw_4 (i := 37) rfl rfl
theorem se_X3_holds : Cond.selects RX3 yX3_holds yX3_holds ∈ TW := tw_0 (i := 33) rfl rfl
theorem co_yX3_holds : Cond.code yX3_holds cX3_holds 7 (some .boolean) ∈ TW := tw_4 (i := 38) rfl rfl
theorem ml_RX3_140 : Cond.methodLink RX3 140 yX3_isWithinBounds ∈ TW := tw_4 (i := 39) rfl rfl
theorem im_yX3_isWithinBounds : Cond.instanceMethod yX3_isWithinBounds ∈ TW := tw_4 (i := 41) rfl rfl
theorem se_X3_isWithinBounds : Cond.selects RX3 yX3_isWithinBounds yX3_isWithinBounds ∈ TW := tw_0 (i := 34) rfl rfl
theorem co_yX3_isWithinBounds : Cond.code yX3_isWithinBounds cX3_isWithinBounds 5 (some .boolean) ∈ TW := tw_4 (i := 42) rfl rfl
theorem ml_RX3_125 : Cond.methodLink RX3 125 yX3_keepMoves ∈ TW := tw_4 (i := 43) rfl rfl
theorem im_yX3_keepMoves : Cond.instanceMethod yX3_keepMoves ∈ TW := tw_4 (i := 45) rfl rfl
theorem se_X3_keepMoves : Cond.selects RX3 yX3_keepMoves yX3_keepMoves ∈ TW := tw_0 (i := 35) rfl rfl
theorem co_yX3_keepMoves : Cond.code yX3_keepMoves cX3_keepMoves 2 none ∈ TW := tw_4 (i := 46) rfl rfl
theorem ml_RL_106 : Cond.methodLink RL 106 yX8_plan ∈ TW := tw_6 (i := 41) rfl rfl
theorem im_yX8_plan : Cond.instanceMethod yX8_plan ∈ TW := tw_6 (i := 42) rfl rfl
theorem se_X8_plan : Cond.selects RX8 yX8_plan yX8_plan ∈ TW := tw_6 (i := 43) rfl rfl
theorem co_yX8_plan : Cond.code yX8_plan cX8_plan 2 (some .int) ∈ TW := tw_6 (i := 44) rfl rfl
theorem ml_RX8_334 : Cond.methodLink RX8 334 yX8_plans ∈ TW := tw_6 (i := 45) rfl rfl
theorem im_yX8_plans : Cond.instanceMethod yX8_plans ∈ TW := tw_6 (i := 47) rfl rfl
theorem se_X8_plans : Cond.selects RX8 yX8_plans yX8_plans ∈ TW := tw_0 (i := 67) rfl rfl
theorem co_yX8_plans : Cond.code yX8_plans cX8_plans 12 (some .int) ∈ TW := tw_6 (i := 48) rfl rfl
theorem ml_RL_107 : Cond.methodLink RL 107 yX7_move ∈ TW := tw_4 (i := 47) rfl rfl
theorem im_yX7_move : Cond.instanceMethod yX7_move ∈ TW := tw_4 (i := 48) rfl rfl
theorem se_X7_move : Cond.selects RX7 yX7_move yX7_move ∈ TW := tw_4 (i := 49) rfl rfl
theorem co_yX7_move : Cond.code yX7_move cX7_move 3 (some .int) ∈ TW := tw_4 (i := 50) rfl rfl
theorem fl_RX7_270 : Cond.fieldLink RX7 270 "ShaftLine$Planner" "best" "[I" ∈ TW := tw_1 (i := 198) rfl rfl
theorem ml_RL_110 : Cond.methodLink RL 110 yX8_move ∈ TW := tw_6 (i := 49) rfl rfl
theorem im_yX8_move : Cond.instanceMethod yX8_move ∈ TW := tw_6 (i := 50) rfl rfl
theorem se_X8_move : Cond.selects RX8 yX8_move yX8_move ∈ TW := tw_6 (i := 51) rfl rfl
theorem co_yX8_move : Cond.code yX8_move cX8_move 3 (some .int) ∈ TW := tw_6 (i := 52) rfl rfl
theorem ml_RL_111 : Cond.methodLink RL 111 yX7_reading ∈ TW := tw_4 (i := 51) rfl rfl
theorem im_yX7_reading : Cond.instanceMethod yX7_reading ∈ TW := tw_4 (i := 52) rfl rfl
theorem se_X7_reading : Cond.selects RX7 yX7_reading yX7_reading ∈ TW := tw_4 (i := 53) rfl rfl
theorem co_yX7_reading : Cond.code yX7_reading cX7_reading 4 (some .int) ∈ TW := tw_4 (i := 54) rfl rfl
theorem ml_RL_114 : Cond.methodLink RL 114 yX8_reading ∈ TW := tw_6 (i := 53) rfl rfl
theorem im_yX8_reading : Cond.instanceMethod yX8_reading ∈ TW := tw_6 (i := 54) rfl rfl
theorem se_X8_reading : Cond.selects RX8 yX8_reading yX8_reading ∈ TW := tw_6 (i := 55) rfl rfl
theorem co_yX8_reading : Cond.code yX8_reading cX8_reading 4 (some .int) ∈ TW := tw_6 (i := 56) rfl rfl
theorem ml_RL_115 : Cond.methodLink RL 115 yX7_closes ∈ TW := tw_4 (i := 55) rfl rfl
theorem im_yX7_closes : Cond.instanceMethod yX7_closes ∈ TW := tw_4 (i := 56) rfl rfl
theorem se_X7_closes : Cond.selects RX7 yX7_closes yX7_closes ∈ TW := tw_4 (i := 57) rfl rfl
theorem co_yX7_closes : Cond.code yX7_closes cX7_closes 2 (some .int) ∈ TW := tw_4 (i := 58) rfl rfl
theorem ml_RX7_273 : Cond.methodLink RX7 273 yX2_missing ∈ TW := tw_4 (i := 59) rfl rfl
theorem im_yX2_missing : Cond.instanceMethod yX2_missing ∈ TW := tw_4 (i := 60) rfl rfl
theorem se_X2_missing : Cond.selects RX2 yX2_missing yX2_missing ∈ TW := tw_4 (i := 61) rfl rfl
theorem co_yX2_missing : Cond.code yX2_missing cX2_missing 3 (some .int) ∈ TW := tw_4 (i := 62) rfl rfl
theorem ml_RX2_49 : Cond.methodLink RX2 49 yX2_allWeights ∈ TW := tw_4 (i := 63) rfl rfl
theorem ml_RX7_276 : Cond.methodLink RX7 276 yX2_missingMoment ∈ TW := tw_4 (i := 64) rfl rfl
theorem im_yX2_missingMoment : Cond.instanceMethod yX2_missingMoment ∈ TW := tw_4 (i := 65) rfl rfl
theorem se_X2_missingMoment : Cond.selects RX2 yX2_missingMoment yX2_missingMoment ∈ TW := tw_4 (i := 66) rfl rfl
theorem co_yX2_missingMoment : Cond.code yX2_missingMoment cX2_missingMoment 3 (some .int) ∈ TW := tw_4 (i := 67) rfl rfl
theorem ml_RX7_279 : Cond.methodLink RX7 279 yX2_isWrong ∈ TW := tw_4 (i := 68) rfl rfl
theorem im_yX2_isWrong : Cond.instanceMethod yX2_isWrong ∈ TW := tw_4 (i := 69) rfl rfl
theorem se_X2_isWrong : Cond.selects RX2 yX2_isWrong yX2_isWrong ∈ TW := tw_4 (i := 70) rfl rfl
theorem co_yX2_isWrong : Cond.code yX2_isWrong cX2_isWrong 3 (some .boolean) ∈ TW := tw_4 (i := 71) rfl rfl
theorem ml_RX2_53 : Cond.methodLink RX2 53 yX2_missing ∈ TW := tw_4 (i := 72) rfl rfl
theorem ml_RX2_56 : Cond.methodLink RX2 56 yX2_missingMoment ∈ TW := tw_4 (i := 73) rfl rfl
theorem ml_RL_118 : Cond.methodLink RL 118 yX8_closes ∈ TW := tw_6 (i := 57) rfl rfl
theorem im_yX8_closes : Cond.instanceMethod yX8_closes ∈ TW := tw_6 (i := 58) rfl rfl
theorem se_X8_closes : Cond.selects RX8 yX8_closes yX8_closes ∈ TW := tw_6 (i := 59) rfl rfl
theorem co_yX8_closes : Cond.code yX8_closes cX8_closes 2 (some .int) ∈ TW := tw_6 (i := 60) rfl rfl
theorem ml_RX8_337 : Cond.methodLink RX8 337 yX8_lacks ∈ TW := tw_6 (i := 61) rfl rfl
theorem im_yX8_lacks : Cond.instanceMethod yX8_lacks ∈ TW := tw_6 (i := 63) rfl rfl
theorem se_X8_lacks : Cond.selects RX8 yX8_lacks yX8_lacks ∈ TW := tw_0 (i := 68) rfl rfl
theorem co_yX8_lacks : Cond.code yX8_lacks cX8_lacks 4 (some .int) ∈ TW := tw_6 (i := 64) rfl rfl
theorem ml_RX8_340 : Cond.methodLink RX8 340 yX8_isWrong ∈ TW := tw_6 (i := 65) rfl rfl
theorem im_yX8_isWrong : Cond.instanceMethod yX8_isWrong ∈ TW := tw_6 (i := 67) rfl rfl
theorem se_X8_isWrong : Cond.selects RX8 yX8_isWrong yX8_isWrong ∈ TW := tw_0 (i := 69) rfl rfl
theorem co_yX8_isWrong : Cond.code yX8_isWrong cX8_isWrong 3 (some .boolean) ∈ TW := tw_6 (i := 68) rfl rfl
theorem ml_RL_119 : Cond.methodLink RL 119 yX7_mended ∈ TW := tw_4 (i := 74) rfl rfl
theorem im_yX7_mended : Cond.instanceMethod yX7_mended ∈ TW := tw_4 (i := 75) rfl rfl
theorem se_X7_mended : Cond.selects RX7 yX7_mended yX7_mended ∈ TW := tw_4 (i := 76) rfl rfl
theorem co_yX7_mended : Cond.code yX7_mended cX7_mended 2 (some .int) ∈ TW := tw_4 (i := 77) rfl rfl
theorem ml_RL_122 : Cond.methodLink RL 122 yX8_mended ∈ TW := tw_6 (i := 69) rfl rfl
theorem im_yX8_mended : Cond.instanceMethod yX8_mended ∈ TW := tw_6 (i := 70) rfl rfl
theorem se_X8_mended : Cond.selects RX8 yX8_mended yX8_mended ∈ TW := tw_6 (i := 71) rfl rfl
theorem co_yX8_mended : Cond.code yX8_mended cX8_mended 2 (some .int) ∈ TW := tw_6 (i := 72) rfl rfl
theorem ml_RL_123 : Cond.methodLink RL 123 yX7_run ∈ TW := tw_4 (i := 78) rfl rfl
theorem im_yX7_run : Cond.instanceMethod yX7_run ∈ TW := tw_4 (i := 79) rfl rfl
theorem se_X7_run : Cond.selects RX7 yX7_run yX7_run ∈ TW := tw_4 (i := 80) rfl rfl
theorem co_yX7_run : Cond.code yX7_run cX7_run 5 (some .int) ∈ TW := tw_4 (i := 81) rfl rfl
theorem ml_RX7_282 : Cond.methodLink RX7 282 yX7_cut ∈ TW := tw_4 (i := 82) rfl rfl
theorem ml_RX7_286 : Cond.methodLink RX7 286 yX2_wears ∈ TW := tw_4 (i := 83) rfl rfl
theorem im_yX2_wears : Cond.instanceMethod yX2_wears ∈ TW := tw_4 (i := 84) rfl rfl
theorem se_X2_wears : Cond.selects RX2 yX2_wears yX2_wears ∈ TW := tw_4 (i := 85) rfl rfl
theorem co_yX2_wears : Cond.code yX2_wears cX2_wears 5 (some .boolean) ∈ TW := tw_4 (i := 86) rfl rfl
theorem ck_RX2_59 : Cond.constantLong RX2 59 (10000) ∈ TW := tw_4 (i := 87) rfl rfl
theorem ml_RX2_65 : Cond.methodLink RX2 65 Lib.Math.max.name ∈ TW := tw_4 (i := 89) rfl rfl
theorem st_Lib_Math_max_name : Cond.static Lib.Math.max.name ∈ TW := tw_4 (i := 90) rfl rfl
theorem co_Lib_Math_max_name : Cond.code Lib.Math.max.name Lib.Math.max.code 2 (some .int) ∈ TW := tw_4 (i := 91) rfl rfl
theorem ml_RL_126 : Cond.methodLink RL 126 yX8_run ∈ TW := tw_6 (i := 73) rfl rfl
theorem im_yX8_run : Cond.instanceMethod yX8_run ∈ TW := tw_6 (i := 74) rfl rfl
theorem se_X8_run : Cond.selects RX8 yX8_run yX8_run ∈ TW := tw_6 (i := 75) rfl rfl
theorem co_yX8_run : Cond.code yX8_run cX8_run 6 (some .int) ∈ TW := tw_6 (i := 76) rfl rfl
theorem ck_RX8_343 : Cond.constantLong RX8 343 (1000) ∈ TW := tw_6 (i := 77) rfl rfl
theorem ml_RL_127 : Cond.methodLink RL 127 yX7_whirl ∈ TW := tw_4 (i := 92) rfl rfl
theorem im_yX7_whirl : Cond.instanceMethod yX7_whirl ∈ TW := tw_4 (i := 93) rfl rfl
theorem se_X7_whirl : Cond.selects RX7 yX7_whirl yX7_whirl ∈ TW := tw_4 (i := 94) rfl rfl
theorem co_yX7_whirl : Cond.code yX7_whirl cX7_whirl 8 (some .int) ∈ TW := tw_4 (i := 95) rfl rfl
theorem ck_RX7_290 : Cond.constantLong RX7 290 (-1000) ∈ TW := tw_4 (i := 96) rfl rfl
theorem ck_RX7_292 : Cond.constantLong RX7 292 (1000000) ∈ TW := tw_4 (i := 97) rfl rfl
theorem ml_RL_130 : Cond.methodLink RL 130 yX8_whirl ∈ TW := tw_6 (i := 78) rfl rfl
theorem im_yX8_whirl : Cond.instanceMethod yX8_whirl ∈ TW := tw_6 (i := 79) rfl rfl
theorem se_X8_whirl : Cond.selects RX8 yX8_whirl yX8_whirl ∈ TW := tw_6 (i := 80) rfl rfl
theorem co_yX8_whirl : Cond.code yX8_whirl cX8_whirl 8 (some .int) ∈ TW := tw_6 (i := 81) rfl rfl
theorem ck_RX8_345 : Cond.constantLong RX8 345 (-1000) ∈ TW := tw_6 (i := 82) rfl rfl
theorem ck_RX8_347 : Cond.constantLong RX8 347 (1000000) ∈ TW := tw_6 (i := 83) rfl rfl
theorem ml_RL_131 : Cond.methodLink RL 131 yX7_sheet ∈ TW := tw_4 (i := 98) rfl rfl
theorem im_yX7_sheet : Cond.instanceMethod yX7_sheet ∈ TW := tw_4 (i := 99) rfl rfl
theorem se_X7_sheet : Cond.selects RX7 yX7_sheet yX7_sheet ∈ TW := tw_4 (i := 100) rfl rfl
theorem co_yX7_sheet : Cond.code yX7_sheet cX7_sheet 4 (some .int) ∈ TW := tw_4 (i := 101) rfl rfl
theorem ml_RX7_294 : Cond.methodLink RX7 294 yX6_begin ∈ TW := tw_4 (i := 102) rfl rfl
theorem im_yX6_begin : Cond.instanceMethod yX6_begin ∈ TW := tw_4 (i := 103) rfl rfl
theorem se_X6_begin : Cond.selects RX6 yX6_begin yX6_begin ∈ TW := tw_4 (i := 104) rfl rfl
theorem co_yX6_begin : Cond.code yX6_begin cX6_begin 4 none ∈ TW := tw_4 (i := 105) rfl rfl
theorem ml_RL_134 : Cond.methodLink RL 134 yX8_sheet ∈ TW := tw_6 (i := 84) rfl rfl
theorem im_yX8_sheet : Cond.instanceMethod yX8_sheet ∈ TW := tw_6 (i := 85) rfl rfl
theorem se_X8_sheet : Cond.selects RX8 yX8_sheet yX8_sheet ∈ TW := tw_6 (i := 86) rfl rfl
theorem co_yX8_sheet : Cond.code yX8_sheet cX8_sheet 5 (some .int) ∈ TW := tw_6 (i := 87) rfl rfl
theorem ml_RL_135 : Cond.methodLink RL 135 yX7_drop ∈ TW := tw_4 (i := 106) rfl rfl
theorem im_yX7_drop : Cond.instanceMethod yX7_drop ∈ TW := tw_4 (i := 107) rfl rfl
theorem se_X7_drop : Cond.selects RX7 yX7_drop yX7_drop ∈ TW := tw_4 (i := 108) rfl rfl
theorem co_yX7_drop : Cond.code yX7_drop cX7_drop 3 (some .int) ∈ TW := tw_4 (i := 109) rfl rfl
theorem fl_RX7_297 : Cond.fieldLink RX7 297 "ShaftLine$Sheet" "held" "Z" ∈ TW := tw_2 (i := 22) rfl rfl
theorem fl_RX7_300 : Cond.fieldLink RX7 300 "ShaftLine$Sheet" "count" "I" ∈ TW := tw_2 (i := 26) rfl rfl
theorem ml_RL_138 : Cond.methodLink RL 138 yX8_drop ∈ TW := tw_6 (i := 88) rfl rfl
theorem im_yX8_drop : Cond.instanceMethod yX8_drop ∈ TW := tw_6 (i := 89) rfl rfl
theorem se_X8_drop : Cond.selects RX8 yX8_drop yX8_drop ∈ TW := tw_6 (i := 90) rfl rfl
theorem co_yX8_drop : Cond.code yX8_drop cX8_drop 2 (some .int) ∈ TW := tw_6 (i := 91) rfl rfl
theorem ml_RL_139 : Cond.methodLink RL 139 yX7_item ∈ TW := tw_4 (i := 110) rfl rfl
theorem im_yX7_item : Cond.instanceMethod yX7_item ∈ TW := tw_4 (i := 111) rfl rfl
theorem se_X7_item : Cond.selects RX7 yX7_item yX7_item ∈ TW := tw_4 (i := 112) rfl rfl
theorem co_yX7_item : Cond.code yX7_item cX7_item 6 (some .int) ∈ TW := tw_4 (i := 113) rfl rfl
theorem ml_RX7_301 : Cond.methodLink RX7 301 yX6_put ∈ TW := tw_4 (i := 114) rfl rfl
theorem im_yX6_put : Cond.instanceMethod yX6_put ∈ TW := tw_4 (i := 115) rfl rfl
theorem se_X6_put : Cond.selects RX6 yX6_put yX6_put ∈ TW := tw_4 (i := 116) rfl rfl
theorem co_yX6_put : Cond.code yX6_put cX6_put 3 none ∈ TW := tw_4 (i := 117) rfl rfl
theorem ml_RL_143 : Cond.methodLink RL 143 yX8_item ∈ TW := tw_6 (i := 92) rfl rfl
theorem im_yX8_item : Cond.instanceMethod yX8_item ∈ TW := tw_6 (i := 93) rfl rfl
theorem se_X8_item : Cond.selects RX8 yX8_item yX8_item ∈ TW := tw_6 (i := 94) rfl rfl
theorem co_yX8_item : Cond.code yX8_item cX8_item 6 (some .int) ∈ TW := tw_6 (i := 95) rfl rfl
theorem ml_RL_144 : Cond.methodLink RL 144 yX7_copy ∈ TW := tw_4 (i := 118) rfl rfl
theorem im_yX7_copy : Cond.instanceMethod yX7_copy ∈ TW := tw_4 (i := 119) rfl rfl
theorem se_X7_copy : Cond.selects RX7 yX7_copy yX7_copy ∈ TW := tw_4 (i := 120) rfl rfl
theorem co_yX7_copy : Cond.code yX7_copy cX7_copy 8 (some .int) ∈ TW := tw_4 (i := 121) rfl rfl
theorem fl_RX7_302 : Cond.fieldLink RX7 302 "ShaftLine$Sheet" "lane" "I" ∈ TW := tw_2 (i := 24) rfl rfl
theorem ml_RX7_308 : Cond.methodLink RX7 308 arraycopyName ∈ TW := tw_4 (i := 123) rfl rfl
theorem na_arraycopyName : Cond.native arraycopyName ∈ TW := tw_4 (i := 125) rfl rfl
theorem st_arraycopyName : Cond.static arraycopyName ∈ TW := tw_4 (i := 124) rfl rfl
theorem ini__java_lang_System_ : Cond.initialized "java/lang/System" ∈ TW := tw_1 (i := 12) rfl rfl
theorem ml_RX7_305 : Cond.methodLink RX7 305 yX6_has ∈ TW := tw_4 (i := 122) rfl rfl
theorem ml_RL_147 : Cond.methodLink RL 147 yX8_copy ∈ TW := tw_6 (i := 96) rfl rfl
theorem im_yX8_copy : Cond.instanceMethod yX8_copy ∈ TW := tw_6 (i := 97) rfl rfl
theorem se_X8_copy : Cond.selects RX8 yX8_copy yX8_copy ∈ TW := tw_6 (i := 98) rfl rfl
theorem co_yX8_copy : Cond.code yX8_copy cX8_copy 7 (some .int) ∈ TW := tw_6 (i := 99) rfl rfl
end
section
/-! THE PURE LAYER: memory as three functions (ints, longs, references) of a cell's number and a slot, cells' kinds as a list;
    PW is the kit's W over such a memory, wherever the cells lie. What follows is written in these words alone. -/
abbrev Kd : Type := Nat ⊕ (FieldType × Nat)
abbrev Sh : Type := List Kd
abbrev IM : Type := Nat → Nat → Int32
abbrev LM : Type := Nat → Nat → Int64
abbrev RM : Type := Nat → Nat → Option Nat
def px_n (ci : Nat) : Nat := match ci with
  | 0 => 17 | 1 => 2 | 2 => 7 | 3 => 15 | 4 => 6 | 5 => 5 | 6 => 4 | 7 => 17 | _ => 44
def px_C (ci : Nat) : String := match ci with
  | 0 => RX0 | 1 => RX1 | 2 => RX2 | 3 => RX3 | 4 => RX4 | 5 => RX5 | 6 => RX6 | 7 => RX7 | _ => RX8
def px_T (ci : Nat) : u_T := match ci with
  | 0 => TX0 | 1 => TX1 | 2 => TX2 | 3 => TX3 | 4 => TX4 | 5 => TX5 | 6 => TX6 | 7 => TX7 | _ => TX8
def px_ty (ci : Nat) : Nat → FieldType := match ci with
  | 0 => tyX0 | 1 => tyX1 | 2 => tyX2 | 3 => tyX3 | 4 => tyX4 | 5 => tyX5 | 6 => tyX6 | 7 => tyX7 | _ => tyX8
theorem px_cl {ci : Nat} (h : ci < 9) : vwCl[ci]? = some (px_C ci, px_T ci, px_n ci) := by
  match ci, h with
  | 0, _ => rfl
  | 1, _ => rfl
  | 2, _ => rfl
  | 3, _ => rfl
  | 4, _ => rfl
  | 5, _ => rfl
  | 6, _ => rfl
  | 7, _ => rfl
  | 8, _ => rfl
theorem px_in {ci : Nat} (h : ci < 9) : ∀ w ∈ u_ws (px_C ci) (px_T ci) (px_n ci), w ∈ TW := by
  match ci, h with
  | 0, _ => exact inlX0
  | 1, _ => exact inlX1
  | 2, _ => exact inlX2
  | 3, _ => exact inlX3
  | 4, _ => exact inlX4
  | 5, _ => exact inlX5
  | 6, _ => exact inlX6
  | 7, _ => exact inlX7
  | 8, _ => exact inlX8
theorem px_tyok {ci : Nat} (h : ci < 9) : ∀ k, k < px_n ci → parseFieldDescriptor (px_T ci k).2.2.1 = some (px_ty ci k) := by
  match ci, h with
  | 0, _ => exact tyX0_ok
  | 1, _ => exact tyX1_ok
  | 2, _ => exact tyX2_ok
  | 3, _ => exact tyX3_ok
  | 4, _ => exact tyX4_ok
  | 5, _ => exact tyX5_ok
  | 6, _ => exact tyX6_ok
  | 7, _ => exact tyX7_ok
  | 8, _ => exact tyX8_ok
theorem px_nm {ci : Nat} (h : ci < 9) : ∀ a, a < px_n ci → ∀ b, b < px_n ci → a ≠ b → (px_T ci a).2.1 ≠ (px_T ci b).2.1 := by
  match ci, h with
  | 0, _ => exact nmX0
  | 1, _ => exact nmX1
  | 2, _ => exact nmX2
  | 3, _ => exact nmX3
  | 4, _ => exact nmX4
  | 5, _ => exact nmX5
  | 6, _ => exact nmX6
  | 7, _ => exact nmX7
  | 8, _ => exact nmX8
/-- 0: kept as an int; 1: a long; 2: a reference -/
def px_k (ty : FieldType) : Nat := match ty with
  | .long => 1
  | .object _ => 2
  | .array _ => 2
  | _ => 0
def px_fld (ad : Nat → Nat) (I : IM) (L : LM) (R : RM) (i k : Nat) (ty : FieldType) : Value := match px_k ty with
  | 0 => .int (I i k)
  | 1 => .long (L i k)
  | _ => va_rf ((R i k).map ad)
def px_arr (ad : Nat → Nat) (I : IM) (L : LM) (R : RM) (i n : Nat) (ty : FieldType) : vp_A := match px_k ty with
  | 0 => (n, .inl (I i))
  | 1 => (n, .inr (.inl (L i)))
  | _ => (n, .inr (.inr (.inr (.inr (fun j => (R i j).map ad)))))
def px_fs (ad : Nat → Nat) (I : IM) (L : LM) (R : RM) (i ci : Nat) : List Value := (List.range (px_n ci)).map (fun k => px_fld ad I L R i k (px_ty ci k))
def px_ent (cA : FieldType → ClassId) (ad : Nat → Nat) (I : IM) (L : LM) (R : RM) (i : Nat) (k : Kd) : va_E := match k with
  | .inl ci => .inr (ci, px_fs ad I L R i ci)
  | .inr a => .inl (cA a.1, px_arr ad I L R i a.2 a.1)
def px_w (cA : FieldType → ClassId) (ad : Nat → Nat) (sh : Sh) (I : IM) (L : LM) (R : RM) : va_W := (List.range sh.length).map (fun i => (ad i, px_ent cA ad I L R i (sh.getD i (.inl 0))))
def px_v (ad : Nat → Nat) (v : Value) : Value := match v with
  | .ref i => .ref (ad i)
  | w => w
def px_l (ad : Nat → Nat) (lv : List (Nat × Value)) : List (Nat × Value) := lv.map (fun q => (q.1, px_v ad q.2))
def px_Rb (sh : Sh) (R : RM) : Prop := ∀ i k j, i < sh.length → R i k = some j → j < sh.length
def u2 {α : Type} (f : Nat → Nat → α) (c k : Nat) (v : α) : Nat → Nat → α := fun a b => if a = c ∧ b = k then v else f a b
def u1 {α : Type} (f : Nat → Nat → α) (c : Nat) (g : Nat → α) : Nat → Nat → α := fun a b => if a = c then g b else f a b
theorem u2_s {α : Type} {f : Nat → Nat → α} {c k : Nat} {v : α} : u2 f c k v c k = v := by simp [u2]
theorem u2_n1 {α : Type} {f : Nat → Nat → α} {c k a b : Nat} {v : α} (h : a ≠ c) : u2 f c k v a b = f a b := by simp [u2, h]
theorem u2_n2 {α : Type} {f : Nat → Nat → α} {c k a b : Nat} {v : α} (h : b ≠ k) : u2 f c k v a b = f a b := by simp [u2, h]
theorem px_wl {cA : FieldType → ClassId} {ad : Nat → Nat} {sh : Sh} {I : IM} {L : LM} {R : RM} : (px_w cA ad sh I L R).length = sh.length := by simp [px_w]
theorem px_get {cA : FieldType → ClassId} {ad : Nat → Nat} {sh : Sh} {I : IM} {L : LM} {R : RM} {i : Nat} {k : Kd} (h : sh[i]? = some k) : (px_w cA ad sh I L R)[i]? = some (ad i, px_ent cA ad I L R i k) := by
  have hi : i < sh.length := (List.getElem?_eq_some_iff.mp h).1
  simp [px_w, List.getElem?_map, List.getElem?_range hi, List.getD_eq_getElem?_getD, h]
theorem px_set {cA : FieldType → ClassId} {ad : Nat → Nat} {sh : Sh} {I I' : IM} {L L' : LM} {R R' : RM} {i : Nat} {k : Kd} {e : va_E} (h : sh[i]? = some k) (he : e = px_ent cA ad I' L' R' i k)
    (h1 : ∀ j, j ≠ i → I' j = I j) (h2 : ∀ j, j ≠ i → L' j = L j) (h3 : ∀ j, j ≠ i → R' j = R j) : (px_w cA ad sh I L R).set i (ad i, e) = px_w cA ad sh I' L' R' := by
  subst he
  apply List.ext_getElem?
  intro j
  have hi : i < sh.length := (List.getElem?_eq_some_iff.mp h).1
  by_cases hj : j < sh.length
  · have hk : sh[j]? = some sh[j] := List.getElem?_eq_getElem hj
    rw [px_get hk]
    by_cases e : j = i
    · subst e
      rw [List.getElem?_set_self (by rw [px_wl]; exact hi)]
      rw [h] at hk
      cases hk
      rfl
    · rw [List.getElem?_set_ne (fun q => e q.symm), px_get hk]
      congr 2
      unfold px_ent
      cases sh[j] with
      | inl ci => simp only [px_fs, px_fld, h1 j e, h2 j e, h3 j e]
      | inr a => simp only [px_arr, h1 j e, h2 j e, h3 j e]
  · rw [List.getElem?_eq_none (by simp [px_wl]; omega), List.getElem?_eq_none (by simp [px_wl]; omega)]
theorem px_fs_get {ad : Nat → Nat} {I : IM} {L : LM} {R : RM} {i ci k : Nat} (h : k < px_n ci) : (px_fs ad I L R i ci)[k]? = some (px_fld ad I L R i k (px_ty ci k)) := by
  simp [px_fs, List.getElem?_map, List.getElem?_range h]
theorem px_fs_len {ad : Nat → Nat} {I : IM} {L : LM} {R : RM} {i ci : Nat} : (px_fs ad I L R i ci).length = px_n ci := by simp [px_fs]
theorem px_fs_set {ad : Nat → Nat} {I I' : IM} {L L' : LM} {R R' : RM} {i ci k : Nat} {v : Value} (h : k < px_n ci) (hv : v = px_fld ad I' L' R' i k (px_ty ci k))
    (h1 : ∀ j, j ≠ k → I' i j = I i j) (h2 : ∀ j, j ≠ k → L' i j = L i j) (h3 : ∀ j, j ≠ k → R' i j = R i j) : (px_fs ad I L R i ci).set k v = px_fs ad I' L' R' i ci := by
  subst hv
  apply List.ext_getElem?
  intro j
  by_cases hj : j < px_n ci
  · rw [px_fs_get hj]
    by_cases e : j = k
    · subst e
      rw [List.getElem?_set_self (by rw [px_fs_len]; exact hj)]
    · rw [List.getElem?_set_ne (fun q => e q.symm), px_fs_get hj]
      simp only [px_fld, h1 j e, h2 j e, h3 j e]
  · rw [List.getElem?_eq_none (by simp [px_fs_len]; omega), List.getElem?_eq_none (by simp [px_fs_len]; omega)]
theorem px_v_cat {ad : Nat → Nat} {v : Value} : (px_v ad v).category = v.category := by cases v <;> rfl
theorem px_l_filter {ad : Nat → Nat} (f : Nat → Nat → Bool) : ∀ lv : List (Nat × Value), (px_l ad lv).filter (fun q => f q.1 q.2.category) = px_l ad (lv.filter (fun q => f q.1 q.2.category))
  | [] => rfl
  | q :: lv => by
    have ih := px_l_filter (ad := ad) f lv
    unfold px_l at ih ⊢
    simp only [List.map_cons, List.filter_cons, px_v_cat]
    split
    · rw [List.map_cons, ih]
    · exact ih
theorem px_at {ad : Nat → Nat} {ls : Array Slot} {nL : Nat} {lv : List (Nat × Value)} (h : lv_has ls nL (px_l ad lv)) (j : Nat) {i : Nat} {v : Value} (hj : lv[j]? = some (i, v)) : ls[i]? = some (.val (px_v ad v)) :=
  lv_at h j (by unfold px_l; rw [List.getElem?_map, hj]; rfl)
def px_tys (cA : FieldType → ClassId) : List (ClassId × FieldType) := [(cA .int, .int), (cA .long, .long), (cA .byte, .byte), (cA (.object RX6), .object RX6), (cA (.array .int), .array .int)]
/-- the links to private members of nest mates -/
def px_nw : List (String × Nat × MethodName × String) := [(RX0, 95, yX7_cut, "ShaftLine"), (RX1, 16, yX7_commonDivisor, "ShaftLine"), (RX1, 22, yX7_cut, "ShaftLine"), (RX2, 61, yX7_cut, "ShaftLine"), (RX4, 11, yX2_init, "ShaftLine"), (RX5, 11, yX0_init, "ShaftLine"), (RX7, 11, yX2_init, "ShaftLine"), (RX7, 31, yX4_init, "ShaftLine"), (RX7, 44, yX0_init, "ShaftLine"), (RX7, 54, yX5_init, "ShaftLine"), (RX7, 74, yX3_init, "ShaftLine"), (RX7, 84, yX1_init, "ShaftLine"), (RX7, 92, yX6_init, "ShaftLine")]
def pxK (D : va_G) (cA : FieldType → ClassId) (U : State) : Prop := va_K D vwCl (px_tys cA) U ∧ (∀ q ∈ px_nw, va_Nw (.methodLinkNest q.1 q.2.1 q.2.2.1 q.2.2.2) U) ∧ va_AO RX6 U ∧ va_AOA .int U
theorem pxK_same {D : va_G} {cA : FieldType → ClassId} {u U : State} (h : u.vm = U.vm) (hK : pxK D cA u) : pxK D cA U :=
  ⟨va_K.moved (by rw [h]; exact Vm.Alike.refl _) hK.1, fun q hq => va_Nw.same rfl h (hK.2.1 q hq), va_AO.moved (by rw [h]; exact Vm.Alike.refl _) hK.2.2.1, va_AOA.moved (by rw [h]; exact Vm.Alike.refl _) hK.2.2.2⟩
theorem pxK_warm {D : va_G} {cA : FieldType → ClassId} {s U : State} (hW : s.WarmedH U.vm) (hK : pxK D cA s) : pxK D cA U :=
  ⟨va_K.moved hW.alike hK.1, fun q hq => va_Nw.warmM hW (hK.2.1 q hq), va_AO.moved hW.alike hK.2.2.1, va_AOA.moved hW.alike hK.2.2.2⟩
def px_A (ad0 : Nat → Nat) (n0 sz : Nat) : Nat → Prop := fun q => (∃ i, i < n0 ∧ q = ad0 i) ∨ sz ≤ q
/-- what a method is walked in: program, launch, environment, room; start, method, arguments, frames below; method, code; class numbers; the cells at its start; its end -/
abbrev PX : Type := (Program × Launch × Env × Room) × (State × MethodId × Array Value × List Frame) × (Method × Code) × (va_G × (FieldType → ClassId)) × ((Nat → Nat) × Nat) × (State → Prop)
abbrev xp (X : PX) : Program := X.1.1
abbrev xl (X : PX) : Launch := X.1.2.1
abbrev xe (X : PX) : Env := X.1.2.2.1
abbrev xR (X : PX) : Room := X.1.2.2.2
abbrev xs (X : PX) : State := X.2.1.1
abbrev xm (X : PX) : MethodId := X.2.1.2.1
abbrev xa (X : PX) : Array Value := X.2.1.2.2.1
abbrev xb (X : PX) : List Frame := X.2.1.2.2.2
abbrev xM (X : PX) : Method := X.2.2.1.1
abbrev xc (X : PX) : Code := X.2.2.1.2
abbrev xD (X : PX) : va_G := X.2.2.2.1.1
abbrev xA (X : PX) : FieldType → ClassId := X.2.2.2.1.2
abbrev xad (X : PX) : Nat → Nat := X.2.2.2.2.1.1
abbrev xn (X : PX) : Nat := X.2.2.2.2.1.2
abbrev xQ (X : PX) : State → Prop := X.2.2.2.2.2
abbrev xW (X : PX) (H : Heap) (locs : List Loc) (k n : Nat) (g : JFrame) : Prop := W (xp X) (xl X) (xe X) (xR X) (xs X) (xm X) (xa X) (xb X) (xM X) (xc X) H locs k n (xQ X) g
def PH (X : PX) (sh : Sh) (I : IM) (L : LM) (R : RM) (lv : List (Nat × Value)) (ad : Nat → Nat) (H : Heap) (locs : List Loc) (ls : Array Slot) : Prop :=
  ((∀ i, (i < xn X ∨ 999 ≤ i) → ad i = xad X i) ∧ xn X ≤ sh.length ∧ (sh.length = xn X → ad = xad X) ∧ px_Rb sh R) ∧
  va_P (xD X) vwCl (px_w (xA X) ad sh I L R) H ∧ va_D (px_A (xad X) (xn X) (xs X).heap.size) (px_w (xA X) ad sh I L R) ∧ va_S (px_A (xad X) (xn X) (xs X).heap.size) (xs X).heap H locs ∧
  lv_has ls (xc X).maxLocals (px_l ad lv)
def PW (X : PX) (pc : Nat) (lv : List (Nat × Value)) (st : List Value) (sh : Sh) (I : IM) (L : LM) (R : RM) (k n : Nat) : Prop :=
  ∀ (ad : Nat → Nat) (H : Heap) (locs : List Loc) (ls : Array Slot), PH X sh I L R lv ad H locs ls → xW X H locs k n (F0 (xm X) pc ls (st.map (px_v ad)))
/-- a walk's facts: class, code, level of room, cells and slots that may be made -/
def PXok (X : PX) (own : String) (cc : ByteArray) (d kc ks : Nat) : Prop :=
  (xp X).tables.exec = Jvm.exec ∧ (xc X).code = cc ∧ (∀ w ∈ TW, w.before (xa X) (xs X) = true) ∧ (xs X).vm.findClass own = some (xm X).cls ∧ pxK (xD X) (xA X) (xs X) ∧ d ≤ (xR X).frames ∧ 36 * d ≤ (xR X).locals ∧ kc ≤ (xR X).cells ∧ ks ≤ (xR X).slots
def Dc (cc : ByteArray) (pc : Nat) (i : Instr) (len q : Nat) : Prop := decode cc pc = .ok (i, len) ∧ pc + len = q
section PXS
variable {X : PX} {own : String} {cc : ByteArray} {d kc ks pc q : Nat} {lv lv' : List (Nat × Value)} {st st' : List Value} {sh : Sh} {I : IM} {L : LM} {R : RM} {k n : Nat}
theorem PW.step (hs : ∀ (ad : Nat → Nat) (H : Heap) (locs : List Loc) (ls : Array Slot), PH X sh I L R lv ad H locs ls → xW X H locs k n (F0 (xm X) q ls (st'.map (px_v ad))) → xW X H locs k n (F0 (xm X) pc ls (st.map (px_v ad)))) (kk : PW X q lv st' sh I L R k n) : PW X pc lv st sh I L R k n :=
  fun ad H locs ls hp => hs ad H locs ls hp (kk ad H locs ls hp)
theorem PH.nl {ad : Nat → Nat} {H : Heap} {locs : List Loc} {ls : Array Slot} (h : PH X sh I L R lv ad H locs ls) {nl : List (Nat × Value)} {ls' : Array Slot} (h' : lv_has ls' (xc X).maxLocals (px_l ad nl)) : PH X sh I L R nl ad H locs ls' :=
  ⟨h.1, h.2.1, h.2.2.1, h.2.2.2.1, h'⟩
theorem pw_iadd {x y : Int32} (h : PXok X own cc d kc ks) (dc : Dc cc pc (.iadd) 1 q)  (kk : PW X q lv (.int (x + y) :: st) sh I L R k n) : PW X pc lv (.int y :: .int x :: st) sh I L R k n :=
  PW.step (fun ad H locs ls hp w => lv_iadd h.1 h.2.1 dc.1  (by rw [dc.2]; exact w)) kk
theorem pw_isub {x y : Int32} (h : PXok X own cc d kc ks) (dc : Dc cc pc (.isub) 1 q)  (kk : PW X q lv (.int (x - y) :: st) sh I L R k n) : PW X pc lv (.int y :: .int x :: st) sh I L R k n :=
  PW.step (fun ad H locs ls hp w => lv_isub h.1 h.2.1 dc.1  (by rw [dc.2]; exact w)) kk
theorem pw_imul {x y : Int32} (h : PXok X own cc d kc ks) (dc : Dc cc pc (.imul) 1 q)  (kk : PW X q lv (.int (x * y) :: st) sh I L R k n) : PW X pc lv (.int y :: .int x :: st) sh I L R k n :=
  PW.step (fun ad H locs ls hp w => lv_imul h.1 h.2.1 dc.1  (by rw [dc.2]; exact w)) kk
theorem pw_iand {x y : Int32} (h : PXok X own cc d kc ks) (dc : Dc cc pc (.iand) 1 q)  (kk : PW X q lv (.int (x &&& y) :: st) sh I L R k n) : PW X pc lv (.int y :: .int x :: st) sh I L R k n :=
  PW.step (fun ad H locs ls hp w => lv_iand h.1 h.2.1 dc.1  (by rw [dc.2]; exact w)) kk
theorem pw_ior {x y : Int32} (h : PXok X own cc d kc ks) (dc : Dc cc pc (.ior) 1 q)  (kk : PW X q lv (.int (x ||| y) :: st) sh I L R k n) : PW X pc lv (.int y :: .int x :: st) sh I L R k n :=
  PW.step (fun ad H locs ls hp w => lv_ior h.1 h.2.1 dc.1  (by rw [dc.2]; exact w)) kk
theorem pw_ishl {x y : Int32} (h : PXok X own cc d kc ks) (dc : Dc cc pc (.ishl) 1 q)  (kk : PW X q lv (.int (x <<< (y &&& 31)) :: st) sh I L R k n) : PW X pc lv (.int y :: .int x :: st) sh I L R k n :=
  PW.step (fun ad H locs ls hp w => lv_ishl h.1 h.2.1 dc.1  (by rw [dc.2]; exact w)) kk
theorem pw_ishr {x y : Int32} (h : PXok X own cc d kc ks) (dc : Dc cc pc (.ishr) 1 q)  (kk : PW X q lv (.int (x >>> (y &&& 31)) :: st) sh I L R k n) : PW X pc lv (.int y :: .int x :: st) sh I L R k n :=
  PW.step (fun ad H locs ls hp w => lv_ishr h.1 h.2.1 dc.1  (by rw [dc.2]; exact w)) kk
theorem pw_idiv {x y : Int32} (h : PXok X own cc d kc ks) (dc : Dc cc pc (.idiv) 1 q) (hne : ¬ y = 0) (kk : PW X q lv (.int (x / y) :: st) sh I L R k n) : PW X pc lv (.int y :: .int x :: st) sh I L R k n :=
  PW.step (fun ad H locs ls hp w => lv_idiv h.1 h.2.1 dc.1 hne (by rw [dc.2]; exact w)) kk
theorem pw_irem {x y : Int32} (h : PXok X own cc d kc ks) (dc : Dc cc pc (.irem) 1 q) (hne : ¬ y = 0) (kk : PW X q lv (.int (x - x / y * y) :: st) sh I L R k n) : PW X pc lv (.int y :: .int x :: st) sh I L R k n :=
  PW.step (fun ad H locs ls hp w => lv_irem h.1 h.2.1 dc.1 hne (by rw [dc.2]; exact w)) kk
theorem pw_ineg {x : Int32} (h : PXok X own cc d kc ks) (dc : Dc cc pc (.ineg) 1 q)  (kk : PW X q lv (.int (-x) :: st) sh I L R k n) : PW X pc lv (.int x :: st) sh I L R k n :=
  PW.step (fun ad H locs ls hp w => lv_ineg h.1 h.2.1 dc.1  (by rw [dc.2]; exact w)) kk
theorem pw_ladd {x y : Int64} (h : PXok X own cc d kc ks) (dc : Dc cc pc (.ladd) 1 q)  (kk : PW X q lv (.long (x + y) :: st) sh I L R k n) : PW X pc lv (.long y :: .long x :: st) sh I L R k n :=
  PW.step (fun ad H locs ls hp w => lv_ladd h.1 h.2.1 dc.1  (by rw [dc.2]; exact w)) kk
theorem pw_lsub {x y : Int64} (h : PXok X own cc d kc ks) (dc : Dc cc pc (.lsub) 1 q)  (kk : PW X q lv (.long (x - y) :: st) sh I L R k n) : PW X pc lv (.long y :: .long x :: st) sh I L R k n :=
  PW.step (fun ad H locs ls hp w => lv_lsub h.1 h.2.1 dc.1  (by rw [dc.2]; exact w)) kk
theorem pw_lmul {x y : Int64} (h : PXok X own cc d kc ks) (dc : Dc cc pc (.lmul) 1 q)  (kk : PW X q lv (.long (x * y) :: st) sh I L R k n) : PW X pc lv (.long y :: .long x :: st) sh I L R k n :=
  PW.step (fun ad H locs ls hp w => lv_lmul h.1 h.2.1 dc.1  (by rw [dc.2]; exact w)) kk
theorem pw_land {x y : Int64} (h : PXok X own cc d kc ks) (dc : Dc cc pc (.land) 1 q)  (kk : PW X q lv (.long (x &&& y) :: st) sh I L R k n) : PW X pc lv (.long y :: .long x :: st) sh I L R k n :=
  PW.step (fun ad H locs ls hp w => lv_land h.1 h.2.1 dc.1  (by rw [dc.2]; exact w)) kk
theorem pw_lor {x y : Int64} (h : PXok X own cc d kc ks) (dc : Dc cc pc (.lor) 1 q)  (kk : PW X q lv (.long (x ||| y) :: st) sh I L R k n) : PW X pc lv (.long y :: .long x :: st) sh I L R k n :=
  PW.step (fun ad H locs ls hp w => lv_lor h.1 h.2.1 dc.1  (by rw [dc.2]; exact w)) kk
theorem pw_ldiv {x y : Int64} (h : PXok X own cc d kc ks) (dc : Dc cc pc (.ldiv) 1 q) (hne : ¬ y = 0) (kk : PW X q lv (.long (x / y) :: st) sh I L R k n) : PW X pc lv (.long y :: .long x :: st) sh I L R k n :=
  PW.step (fun ad H locs ls hp w => lv_ldiv h.1 h.2.1 dc.1 hne (by rw [dc.2]; exact w)) kk
theorem pw_lrem {x y : Int64} (h : PXok X own cc d kc ks) (dc : Dc cc pc (.lrem) 1 q) (hne : ¬ y = 0) (kk : PW X q lv (.long (x - x / y * y) :: st) sh I L R k n) : PW X pc lv (.long y :: .long x :: st) sh I L R k n :=
  PW.step (fun ad H locs ls hp w => lv_lrem h.1 h.2.1 dc.1 hne (by rw [dc.2]; exact w)) kk
theorem pw_lneg {x : Int64} (h : PXok X own cc d kc ks) (dc : Dc cc pc (.lneg) 1 q)  (kk : PW X q lv (.long (-x) :: st) sh I L R k n) : PW X pc lv (.long x :: st) sh I L R k n :=
  PW.step (fun ad H locs ls hp w => lv_lneg h.1 h.2.1 dc.1  (by rw [dc.2]; exact w)) kk
theorem pw_lshl {x : Int64} {y : Int32} (h : PXok X own cc d kc ks) (dc : Dc cc pc (.lshl) 1 q)  (kk : PW X q lv (.long (x <<< (y.toInt64 &&& 63)) :: st) sh I L R k n) : PW X pc lv (.int y :: .long x :: st) sh I L R k n :=
  PW.step (fun ad H locs ls hp w => lv_lshl h.1 h.2.1 dc.1 rfl (by rw [dc.2]; exact w)) kk
theorem pw_lshr {x : Int64} {y : Int32} (h : PXok X own cc d kc ks) (dc : Dc cc pc (.lshr) 1 q)  (kk : PW X q lv (.long (x >>> (y.toInt64 &&& 63)) :: st) sh I L R k n) : PW X pc lv (.int y :: .long x :: st) sh I L R k n :=
  PW.step (fun ad H locs ls hp w => lv_lshr h.1 h.2.1 dc.1 rfl (by rw [dc.2]; exact w)) kk
theorem pw_iushr {x y : Int32} (h : PXok X own cc d kc ks) (dc : Dc cc pc (.iushr) 1 q)  (kk : PW X q lv (.int ((x.toUInt32 >>> (y.toUInt32 &&& Int32.toUInt32 31)).toInt32) :: st) sh I L R k n) : PW X pc lv (.int y :: .int x :: st) sh I L R k n :=
  PW.step (fun ad H locs ls hp w => lv_iushr h.1 h.2.1 dc.1 rfl (by rw [dc.2]; exact w)) kk
theorem pw_i2l {x : Int32} (h : PXok X own cc d kc ks) (dc : Dc cc pc (.i2l) 1 q)  (kk : PW X q lv (.long x.toInt64 :: st) sh I L R k n) : PW X pc lv (.int x :: st) sh I L R k n :=
  PW.step (fun ad H locs ls hp w => lv_i2l h.1 h.2.1 dc.1 rfl (by rw [dc.2]; exact w)) kk
theorem pw_l2i {x : Int64} (h : PXok X own cc d kc ks) (dc : Dc cc pc (.l2i) 1 q)  (kk : PW X q lv (.int x.toInt32 :: st) sh I L R k n) : PW X pc lv (.long x :: st) sh I L R k n :=
  PW.step (fun ad H locs ls hp w => lv_l2i h.1 h.2.1 dc.1 rfl (by rw [dc.2]; exact w)) kk
theorem pw_i2b {x : Int32} (h : PXok X own cc d kc ks) (dc : Dc cc pc (.i2b) 1 q)  (kk : PW X q lv (.int x.toInt8.toInt32 :: st) sh I L R k n) : PW X pc lv (.int x :: st) sh I L R k n :=
  PW.step (fun ad H locs ls hp w => lv_i2b h.1 h.2.1 dc.1 rfl (by rw [dc.2]; exact w)) kk
theorem pw_i2s {x : Int32} (h : PXok X own cc d kc ks) (dc : Dc cc pc (.i2s) 1 q)  (kk : PW X q lv (.int x.toInt16.toInt32 :: st) sh I L R k n) : PW X pc lv (.int x :: st) sh I L R k n :=
  PW.step (fun ad H locs ls hp w => lv_i2s h.1 h.2.1 dc.1 rfl (by rw [dc.2]; exact w)) kk
theorem pw_lcmp {x y : Int64} (h : PXok X own cc d kc ks) (dc : Dc cc pc (.lcmp) 1 q)  (kk : PW X q lv (.int (lg_cmp x y) :: st) sh I L R k n) : PW X pc lv (.long y :: .long x :: st) sh I L R k n :=
  PW.step (fun ad H locs ls hp w => W.lcmp h.1 h.2.1 dc.1  (by rw [dc.2]; exact w)) kk
theorem pw_iconst {z : Int} {x : Int32} (h : PXok X own cc d kc ks) (dc : Dc cc pc (.iconst z) 1 q) (hv : Int32.ofInt z = x) (kk : PW X q lv (.int x :: st) sh I L R k n) : PW X pc lv (st) sh I L R k n :=
  PW.step (fun ad H locs ls hp w => lv_iconst h.1 h.2.1 dc.1 hv (by rw [dc.2]; exact w)) kk
theorem pw_bipush {z : Int} {x : Int32} (h : PXok X own cc d kc ks) (dc : Dc cc pc (.bipush z) 2 q) (hv : (Int8.ofInt z).toInt32 = x) (kk : PW X q lv (.int x :: st) sh I L R k n) : PW X pc lv (st) sh I L R k n :=
  PW.step (fun ad H locs ls hp w => lv_bipush h.1 h.2.1 dc.1 hv (by rw [dc.2]; exact w)) kk
theorem pw_sipush {z : Int} {x : Int32} (h : PXok X own cc d kc ks) (dc : Dc cc pc (.sipush z) 3 q) (hv : (Int16.ofInt z).toInt32 = x) (kk : PW X q lv (.int x :: st) sh I L R k n) : PW X pc lv (st) sh I L R k n :=
  PW.step (fun ad H locs ls hp w => lv_sipush h.1 h.2.1 dc.1 hv (by rw [dc.2]; exact w)) kk
theorem pw_lconst {z : Fin 2} {x : Int64} (h : PXok X own cc d kc ks) (dc : Dc cc pc (.lconst z) 1 q) (hv : Int64.ofNat (z : Nat) = x) (kk : PW X q lv (.long x :: st) sh I L R k n) : PW X pc lv (st) sh I L R k n :=
  PW.step (fun ad H locs ls hp w => lv_lconst h.1 h.2.1 dc.1 hv (by rw [dc.2]; exact w)) kk
theorem pw_null  (h : PXok X own cc d kc ks) (dc : Dc cc pc (.aconst_null) 1 q)  (kk : PW X q lv (.null :: st) sh I L R k n) : PW X pc lv (st) sh I L R k n :=
  PW.step (fun ad H locs ls hp w => lv_null h.1 h.2.1 dc.1  (by rw [dc.2]; exact w)) kk
theorem pw_dupI {x : Int32} (h : PXok X own cc d kc ks) (dc : Dc cc pc (.dup) 1 q)  (kk : PW X q lv (.int x :: .int x :: st) sh I L R k n) : PW X pc lv (.int x :: st) sh I L R k n :=
  PW.step (fun ad H locs ls hp w => lv_dup h.1 h.2.1 dc.1 rfl (by rw [dc.2]; exact w)) kk
theorem pw_dupR {i : Nat} (h : PXok X own cc d kc ks) (dc : Dc cc pc (.dup) 1 q)  (kk : PW X q lv (.ref i :: .ref i :: st) sh I L R k n) : PW X pc lv (.ref i :: st) sh I L R k n :=
  PW.step (fun ad H locs ls hp w => lv_dup h.1 h.2.1 dc.1 rfl (by rw [dc.2]; exact w)) kk
theorem pw_dup2L {x : Int64} (h : PXok X own cc d kc ks) (dc : Dc cc pc (.dup2) 1 q)  (kk : PW X q lv (.long x :: .long x :: st) sh I L R k n) : PW X pc lv (.long x :: st) sh I L R k n :=
  PW.step (fun ad H locs ls hp w => lv_dup2_2 h.1 h.2.1 dc.1 rfl (by rw [dc.2]; exact w)) kk
theorem pw_dup2RI {x : Int32} {i : Nat} (h : PXok X own cc d kc ks) (dc : Dc cc pc (.dup2) 1 q)  (kk : PW X q lv (.int x :: .ref i :: .int x :: .ref i :: st) sh I L R k n) : PW X pc lv (.int x :: .ref i :: st) sh I L R k n :=
  PW.step (fun ad H locs ls hp w => lv_dup2_11 h.1 h.2.1 dc.1 rfl rfl (by rw [dc.2]; exact w)) kk
theorem pw_popI {x : Int32} (h : PXok X own cc d kc ks) (dc : Dc cc pc (.pop) 1 q)  (kk : PW X q lv (st) sh I L R k n) : PW X pc lv (.int x :: st) sh I L R k n :=
  PW.step (fun ad H locs ls hp w => lv_pop h.1 h.2.1 dc.1 rfl (by rw [dc.2]; exact w)) kk
theorem pw_iload_n {x : Int32} {z : Fin 4} (h : PXok X own cc d kc ks) (j : Nat) (dc : Dc cc pc (.iload_n z) 1 q) (hj : lv[j]? = some ((z : Nat), .int x)) (kk : PW X q lv (.int x :: st) sh I L R k n) : PW X pc lv st sh I L R k n :=
  PW.step (fun ad H locs ls hp w => lv_iload_n h.1 h.2.1 dc.1 rfl (px_at hp.2.2.2.2 j hj) (by rw [dc.2]; exact w)) kk
theorem pw_iload {x : Int32} {i : Nat} (h : PXok X own cc d kc ks) (j : Nat) (dc : Dc cc pc (.iload i) 2 q) (hj : lv[j]? = some (i, .int x)) (kk : PW X q lv (.int x :: st) sh I L R k n) : PW X pc lv st sh I L R k n :=
  PW.step (fun ad H locs ls hp w => lv_iload h.1 h.2.1 dc.1 (px_at hp.2.2.2.2 j hj) (by rw [dc.2]; exact w)) kk
theorem pw_lload_n {x : Int64} {z : Fin 4} (h : PXok X own cc d kc ks) (j : Nat) (dc : Dc cc pc (.lload_n z) 1 q) (hj : lv[j]? = some ((z : Nat), .long x)) (kk : PW X q lv (.long x :: st) sh I L R k n) : PW X pc lv st sh I L R k n :=
  PW.step (fun ad H locs ls hp w => lv_lload_n h.1 h.2.1 dc.1 rfl (px_at hp.2.2.2.2 j hj) (by rw [dc.2]; exact w)) kk
theorem pw_lload {x : Int64} {i : Nat} (h : PXok X own cc d kc ks) (j : Nat) (dc : Dc cc pc (.lload i) 2 q) (hj : lv[j]? = some (i, .long x)) (kk : PW X q lv (.long x :: st) sh I L R k n) : PW X pc lv st sh I L R k n :=
  PW.step (fun ad H locs ls hp w => lv_lload h.1 h.2.1 dc.1 (px_at hp.2.2.2.2 j hj) (by rw [dc.2]; exact w)) kk
theorem pw_aload_n {x : Nat} {z : Fin 4} (h : PXok X own cc d kc ks) (j : Nat) (dc : Dc cc pc (.aload_n z) 1 q) (hj : lv[j]? = some ((z : Nat), .ref x)) (kk : PW X q lv (.ref x :: st) sh I L R k n) : PW X pc lv st sh I L R k n :=
  PW.step (fun ad H locs ls hp w => lv_aload_n h.1 h.2.1 dc.1 rfl (px_at hp.2.2.2.2 j hj) (by rw [dc.2]; exact w)) kk
theorem pw_aload {x : Nat} {i : Nat} (h : PXok X own cc d kc ks) (j : Nat) (dc : Dc cc pc (.aload i) 2 q) (hj : lv[j]? = some (i, .ref x)) (kk : PW X q lv (.ref x :: st) sh I L R k n) : PW X pc lv st sh I L R k n :=
  PW.step (fun ad H locs ls hp w => lv_aload h.1 h.2.1 dc.1 (px_at hp.2.2.2.2 j hj) (by rw [dc.2]; exact w)) kk
theorem pw_istore_n {x : Int32} {i : Nat} {z : Fin 4} (h : PXok X own cc d kc ks) (dc : Dc cc pc (.istore_n z) 1 q) (hz : (z : Nat) = i) (nL : Nat) (hn : (xc X).maxLocals = nL) (hi : i < nL) (hl : (i, Value.int x) :: lv.filter (fun q => !(q.1 == i) && !(q.1 + 1 == i && q.2.category == 2)) = lv') (kk : PW X q lv' st sh I L R k n) : PW X pc lv (.int x :: st) sh I L R k n := by
  intro ad H locs ls hp
  refine lv_istore_n (lv' := px_l ad lv') h.1 h.2.1 dc.1 hz hp.2.2.2.2 (by rw [hn]; exact hi) ?_ (fun ls' hl' => by rw [dc.2]; exact kk ad H locs ls' (hp.nl hl'))
  rw [← hl, px_l_filter (fun a b => !(a == i) && !(a + 1 == i && b == 2))]
  rfl
theorem pw_istore {x : Int32} {i : Nat} (h : PXok X own cc d kc ks) (dc : Dc cc pc (.istore i) 2 q)  (nL : Nat) (hn : (xc X).maxLocals = nL) (hi : i < nL) (hl : (i, Value.int x) :: lv.filter (fun q => !(q.1 == i) && !(q.1 + 1 == i && q.2.category == 2)) = lv') (kk : PW X q lv' st sh I L R k n) : PW X pc lv (.int x :: st) sh I L R k n := by
  intro ad H locs ls hp
  refine lv_istore (lv' := px_l ad lv') h.1 h.2.1 dc.1 hp.2.2.2.2 (by rw [hn]; exact hi) ?_ (fun ls' hl' => by rw [dc.2]; exact kk ad H locs ls' (hp.nl hl'))
  rw [← hl, px_l_filter (fun a b => !(a == i) && !(a + 1 == i && b == 2))]
  rfl
theorem pw_lstore_n {x : Int64} {i : Nat} {z : Fin 4} (h : PXok X own cc d kc ks) (dc : Dc cc pc (.lstore_n z) 1 q) (hz : (z : Nat) = i) (nL : Nat) (hn : (xc X).maxLocals = nL) (hi : i + 1 < nL) (hl : (i, Value.long x) :: lv.filter (fun q => !(q.1 == i) && (!(q.1 == i + 1) && !(q.1 + 1 == i && q.2.category == 2))) = lv') (kk : PW X q lv' st sh I L R k n) : PW X pc lv (.long x :: st) sh I L R k n := by
  intro ad H locs ls hp
  refine lv_lstore_n (lv' := px_l ad lv') h.1 h.2.1 dc.1 hz hp.2.2.2.2 (by rw [hn]; exact hi) ?_ (fun ls' hl' => by rw [dc.2]; exact kk ad H locs ls' (hp.nl hl'))
  rw [← hl, px_l_filter (fun a b => !(a == i) && (!(a == i + 1) && !(a + 1 == i && b == 2)))]
  rfl
theorem pw_lstore {x : Int64} {i : Nat} (h : PXok X own cc d kc ks) (dc : Dc cc pc (.lstore i) 2 q)  (nL : Nat) (hn : (xc X).maxLocals = nL) (hi : i + 1 < nL) (hl : (i, Value.long x) :: lv.filter (fun q => !(q.1 == i) && (!(q.1 == i + 1) && !(q.1 + 1 == i && q.2.category == 2))) = lv') (kk : PW X q lv' st sh I L R k n) : PW X pc lv (.long x :: st) sh I L R k n := by
  intro ad H locs ls hp
  refine lv_lstore (lv' := px_l ad lv') h.1 h.2.1 dc.1 hp.2.2.2.2 (by rw [hn]; exact hi) ?_ (fun ls' hl' => by rw [dc.2]; exact kk ad H locs ls' (hp.nl hl'))
  rw [← hl, px_l_filter (fun a b => !(a == i) && (!(a == i + 1) && !(a + 1 == i && b == 2)))]
  rfl
theorem pw_astore_n {x : Nat} {i : Nat} {z : Fin 4} (h : PXok X own cc d kc ks) (dc : Dc cc pc (.astore_n z) 1 q) (hz : (z : Nat) = i) (nL : Nat) (hn : (xc X).maxLocals = nL) (hi : i < nL) (hl : (i, Value.ref x) :: lv.filter (fun q => !(q.1 == i) && !(q.1 + 1 == i && q.2.category == 2)) = lv') (kk : PW X q lv' st sh I L R k n) : PW X pc lv (.ref x :: st) sh I L R k n := by
  intro ad H locs ls hp
  refine lv_astore_n (lv' := px_l ad lv') h.1 h.2.1 dc.1 hz hp.2.2.2.2 (by rw [hn]; exact hi) ?_ (fun ls' hl' => by rw [dc.2]; exact kk ad H locs ls' (hp.nl hl'))
  rw [← hl, px_l_filter (fun a b => !(a == i) && !(a + 1 == i && b == 2))]
  rfl
theorem pw_astore {x : Nat} {i : Nat} (h : PXok X own cc d kc ks) (dc : Dc cc pc (.astore i) 2 q)  (nL : Nat) (hn : (xc X).maxLocals = nL) (hi : i < nL) (hl : (i, Value.ref x) :: lv.filter (fun q => !(q.1 == i) && !(q.1 + 1 == i && q.2.category == 2)) = lv') (kk : PW X q lv' st sh I L R k n) : PW X pc lv (.ref x :: st) sh I L R k n := by
  intro ad H locs ls hp
  refine lv_astore (lv' := px_l ad lv') h.1 h.2.1 dc.1 hp.2.2.2.2 (by rw [hn]; exact hi) ?_ (fun ls' hl' => by rw [dc.2]; exact kk ad H locs ls' (hp.nl hl'))
  rw [← hl, px_l_filter (fun a b => !(a == i) && !(a + 1 == i && b == 2))]
  rfl
theorem pw_iinc {x : Int32} {i : Nat} {z : Int} (y : Int32) (h : PXok X own cc d kc ks) (dc : Dc cc pc (.iinc i z) 3 q) (j : Nat) (hj : lv[j]? = some (i, .int x)) (hy : x + Int32.ofInt z = y) (nL : Nat) (hn : (xc X).maxLocals = nL) (hi : i < nL) (hl : (i, Value.int y) :: lv.filter (fun q => !(q.1 == i) && !(q.1 + 1 == i && q.2.category == 2)) = lv') (kk : PW X q lv' st sh I L R k n) : PW X pc lv st sh I L R k n := by
  intro ad H locs ls hp
  refine lv_iinc (lv' := px_l ad lv') h.1 h.2.1 dc.1 hp.2.2.2.2 (k := j) (x := x) (v := y) ?_ hy (by rw [hn]; exact hi) ?_ (fun ls' hl' => by rw [dc.2]; exact kk ad H locs ls' (hp.nl hl'))
  · unfold px_l
    rw [List.getElem?_map, hj]
    rfl
  · rw [← hl, px_l_filter (fun a b => !(a == i) && !(a + 1 == i && b == 2))]
    rfl
theorem pw_icmp_eq {x y : Int32} {off : Int} (tgt : Nat) (h : PXok X own cc d kc ks) (dc : Dc cc pc (.if_icmp .eq off) 3 q) (ht : (pc : Int) + off = (tgt : Int)) (kt : x = y → PW X tgt lv st sh I L R k n) (kf : ¬ x = y → PW X q lv st sh I L R k n) : PW X pc lv (.int y :: .int x :: st) sh I L R k n :=
  fun ad H locs ls hp => lv_icmp_eq h.1 h.2.1 dc.1 ht (fun c => kt c ad H locs ls hp) (fun c => by rw [dc.2]; exact kf c ad H locs ls hp)
theorem pw_icmp_ne {x y : Int32} {off : Int} (tgt : Nat) (h : PXok X own cc d kc ks) (dc : Dc cc pc (.if_icmp .ne off) 3 q) (ht : (pc : Int) + off = (tgt : Int)) (kt : ¬ x = y → PW X tgt lv st sh I L R k n) (kf : x = y → PW X q lv st sh I L R k n) : PW X pc lv (.int y :: .int x :: st) sh I L R k n :=
  fun ad H locs ls hp => lv_icmp_ne h.1 h.2.1 dc.1 ht (fun c => kt c ad H locs ls hp) (fun c => by rw [dc.2]; exact kf c ad H locs ls hp)
theorem pw_icmp_lt {x y : Int32} {off : Int} (tgt : Nat) (h : PXok X own cc d kc ks) (dc : Dc cc pc (.if_icmp .lt off) 3 q) (ht : (pc : Int) + off = (tgt : Int)) (kt : x < y → PW X tgt lv st sh I L R k n) (kf : ¬ x < y → PW X q lv st sh I L R k n) : PW X pc lv (.int y :: .int x :: st) sh I L R k n :=
  fun ad H locs ls hp => lv_icmp_lt h.1 h.2.1 dc.1 ht (fun c => kt c ad H locs ls hp) (fun c => by rw [dc.2]; exact kf c ad H locs ls hp)
theorem pw_icmp_ge {x y : Int32} {off : Int} (tgt : Nat) (h : PXok X own cc d kc ks) (dc : Dc cc pc (.if_icmp .ge off) 3 q) (ht : (pc : Int) + off = (tgt : Int)) (kt : y ≤ x → PW X tgt lv st sh I L R k n) (kf : ¬ y ≤ x → PW X q lv st sh I L R k n) : PW X pc lv (.int y :: .int x :: st) sh I L R k n :=
  fun ad H locs ls hp => lv_icmp_ge h.1 h.2.1 dc.1 ht (fun c => kt c ad H locs ls hp) (fun c => by rw [dc.2]; exact kf c ad H locs ls hp)
theorem pw_icmp_gt {x y : Int32} {off : Int} (tgt : Nat) (h : PXok X own cc d kc ks) (dc : Dc cc pc (.if_icmp .gt off) 3 q) (ht : (pc : Int) + off = (tgt : Int)) (kt : y < x → PW X tgt lv st sh I L R k n) (kf : ¬ y < x → PW X q lv st sh I L R k n) : PW X pc lv (.int y :: .int x :: st) sh I L R k n :=
  fun ad H locs ls hp => lv_icmp_gt h.1 h.2.1 dc.1 ht (fun c => kt c ad H locs ls hp) (fun c => by rw [dc.2]; exact kf c ad H locs ls hp)
theorem pw_icmp_le {x y : Int32} {off : Int} (tgt : Nat) (h : PXok X own cc d kc ks) (dc : Dc cc pc (.if_icmp .le off) 3 q) (ht : (pc : Int) + off = (tgt : Int)) (kt : x ≤ y → PW X tgt lv st sh I L R k n) (kf : ¬ x ≤ y → PW X q lv st sh I L R k n) : PW X pc lv (.int y :: .int x :: st) sh I L R k n :=
  fun ad H locs ls hp => lv_icmp_le h.1 h.2.1 dc.1 ht (fun c => kt c ad H locs ls hp) (fun c => by rw [dc.2]; exact kf c ad H locs ls hp)
theorem pw_if_eq {x : Int32} {off : Int} (tgt : Nat) (h : PXok X own cc d kc ks) (dc : Dc cc pc (.ifCond .eq off) 3 q) (ht : (pc : Int) + off = (tgt : Int)) (kt : x = 0 → PW X tgt lv st sh I L R k n) (kf : ¬ x = 0 → PW X q lv st sh I L R k n) : PW X pc lv (.int x :: st) sh I L R k n :=
  fun ad H locs ls hp => lv_if_eq h.1 h.2.1 dc.1 ht (fun c => kt c ad H locs ls hp) (fun c => by rw [dc.2]; exact kf c ad H locs ls hp)
theorem pw_if_ne {x : Int32} {off : Int} (tgt : Nat) (h : PXok X own cc d kc ks) (dc : Dc cc pc (.ifCond .ne off) 3 q) (ht : (pc : Int) + off = (tgt : Int)) (kt : ¬ x = 0 → PW X tgt lv st sh I L R k n) (kf : x = 0 → PW X q lv st sh I L R k n) : PW X pc lv (.int x :: st) sh I L R k n :=
  fun ad H locs ls hp => lv_if_ne h.1 h.2.1 dc.1 ht (fun c => kt c ad H locs ls hp) (fun c => by rw [dc.2]; exact kf c ad H locs ls hp)
theorem pw_if_lt {x : Int32} {off : Int} (tgt : Nat) (h : PXok X own cc d kc ks) (dc : Dc cc pc (.ifCond .lt off) 3 q) (ht : (pc : Int) + off = (tgt : Int)) (kt : x < 0 → PW X tgt lv st sh I L R k n) (kf : ¬ x < 0 → PW X q lv st sh I L R k n) : PW X pc lv (.int x :: st) sh I L R k n :=
  fun ad H locs ls hp => lv_if_lt h.1 h.2.1 dc.1 ht (fun c => kt c ad H locs ls hp) (fun c => by rw [dc.2]; exact kf c ad H locs ls hp)
theorem pw_if_ge {x : Int32} {off : Int} (tgt : Nat) (h : PXok X own cc d kc ks) (dc : Dc cc pc (.ifCond .ge off) 3 q) (ht : (pc : Int) + off = (tgt : Int)) (kt : 0 ≤ x → PW X tgt lv st sh I L R k n) (kf : ¬ 0 ≤ x → PW X q lv st sh I L R k n) : PW X pc lv (.int x :: st) sh I L R k n :=
  fun ad H locs ls hp => lv_if_ge h.1 h.2.1 dc.1 ht (fun c => kt c ad H locs ls hp) (fun c => by rw [dc.2]; exact kf c ad H locs ls hp)
theorem pw_if_gt {x : Int32} {off : Int} (tgt : Nat) (h : PXok X own cc d kc ks) (dc : Dc cc pc (.ifCond .gt off) 3 q) (ht : (pc : Int) + off = (tgt : Int)) (kt : 0 < x → PW X tgt lv st sh I L R k n) (kf : ¬ 0 < x → PW X q lv st sh I L R k n) : PW X pc lv (.int x :: st) sh I L R k n :=
  fun ad H locs ls hp => lv_if_gt h.1 h.2.1 dc.1 ht (fun c => kt c ad H locs ls hp) (fun c => by rw [dc.2]; exact kf c ad H locs ls hp)
theorem pw_if_le {x : Int32} {off : Int} (tgt : Nat) (h : PXok X own cc d kc ks) (dc : Dc cc pc (.ifCond .le off) 3 q) (ht : (pc : Int) + off = (tgt : Int)) (kt : x ≤ 0 → PW X tgt lv st sh I L R k n) (kf : ¬ x ≤ 0 → PW X q lv st sh I L R k n) : PW X pc lv (.int x :: st) sh I L R k n :=
  fun ad H locs ls hp => lv_if_le h.1 h.2.1 dc.1 ht (fun c => kt c ad H locs ls hp) (fun c => by rw [dc.2]; exact kf c ad H locs ls hp)
theorem pw_goto {off : Int} (tgt : Nat) (h : PXok X own cc d kc ks) (dc : Dc cc pc (.goto off) 3 q) (ht : (pc : Int) + off = (tgt : Int)) (kk : PW X tgt lv st sh I L R k n) : PW X pc lv st sh I L R k n :=
  fun ad H locs ls hp => lv_goto h.1 h.2.1 dc.1 ht (kk ad H locs ls hp)
theorem pw_ifnull {i : Nat} {off : Int} (h : PXok X own cc d kc ks) (dc : Dc cc pc (.ifnull off) 3 q) (kk : PW X q lv st sh I L R k n) : PW X pc lv (.ref i :: st) sh I L R k n :=
  PW.step (fun ad H locs ls hp w => lv_ifnull h.1 h.2.1 dc.1 (by rw [dc.2]; exact w)) kk
theorem pw_ifnullN {off : Int} (tgt : Nat) (h : PXok X own cc d kc ks) (dc : Dc cc pc (.ifnull off) 3 q) (ht : (pc : Int) + off = (tgt : Int)) (kk : PW X tgt lv st sh I L R k n) : PW X pc lv (.null :: st) sh I L R k n :=
  fun ad H locs ls hp => lv_ifnullN h.1 h.2.1 dc.1 ht (kk ad H locs ls hp)
theorem pw_tableIn {dflt lo hi : Int} {offs : Array Int} {ln : Nat} {x : Int32} {off : Int} (tgt : Nat) (h : PXok X own cc d kc ks) (dc : Dc cc pc (.tableswitch dflt lo hi offs) ln q) (h1 : ¬ x.toInt < lo) (h2 : ¬ hi < x.toInt) (ho : offs[(x.toInt - lo).toNat]? = some off) (ht : (pc : Int) + off = (tgt : Int)) (kk : PW X tgt lv st sh I L R k n) : PW X pc lv (.int x :: st) sh I L R k n :=
  fun ad H locs ls hp => lv_tableIn h.1 h.2.1 dc.1 h1 h2 ho ht (kk ad H locs ls hp)
theorem pw_tableOut {dflt lo hi : Int} {offs : Array Int} {ln : Nat} {x : Int32} (tgt : Nat) (h : PXok X own cc d kc ks) (dc : Dc cc pc (.tableswitch dflt lo hi offs) ln q) (h1 : x.toInt < lo ∨ hi < x.toInt) (ht : (pc : Int) + dflt = (tgt : Int)) (kk : PW X tgt lv st sh I L R k n) : PW X pc lv (.int x :: st) sh I L R k n :=
  fun ad H locs ls hp => lv_tableOut h.1 h.2.1 dc.1 h1 ht (kk ad H locs ls hp)
theorem pw_lookup {dflt : Int} {ps : Array (Int × Int)} {ln : Nat} {x : Int32} {off : Int} (tgt : Nat) (h : PXok X own cc d kc ks) (dc : Dc cc pc (.lookupswitch dflt ps) ln q) (hq : (ps.toList.zip (ps.toList.drop 1)).all (fun (a, next) => a.1 < next.1) = true) (ho : Op.lookupswitch.offset ps.toList dflt x.toInt = off) (ht : (pc : Int) + off = (tgt : Int)) (kk : PW X tgt lv st sh I L R k n) : PW X pc lv (.int x :: st) sh I L R k n :=
  fun ad H locs ls hp => lv_lookup h.1 h.2.1 dc.1 hq ho ht (kk ad H locs ls hp)
theorem pw_ldc {ix : Nat} {x : Int32} (h : PXok X own cc d kc ks) (dc : Dc cc pc (.ldc ix) 2 q) (hw : Cond.constant own ix x ∈ TW) (kk : PW X q lv (.int x :: st) sh I L R k n) : PW X pc lv st sh I L R k n :=
  PW.step (fun ad H locs ls hp w => lv_ldc h.1 h.2.1 h.2.2.2.1 (h.2.2.1 _ hw) dc.1 (by rw [dc.2]; exact w)) kk
theorem pw_ldcw {ix : Nat} {x : Int32} (h : PXok X own cc d kc ks) (dc : Dc cc pc (.ldc_w ix) 3 q) (hw : Cond.constant own ix x ∈ TW) (kk : PW X q lv (.int x :: st) sh I L R k n) : PW X pc lv st sh I L R k n :=
  PW.step (fun ad H locs ls hp w => lv_ldcw h.1 h.2.1 h.2.2.2.1 (h.2.2.1 _ hw) dc.1 (by rw [dc.2]; exact w)) kk
theorem pw_ldc2 {ix : Nat} {x : Int64} (h : PXok X own cc d kc ks) (dc : Dc cc pc (.ldc2_w ix) 3 q) (hw : Cond.constantLong own ix x ∈ TW) (kk : PW X q lv (.long x :: st) sh I L R k n) : PW X pc lv st sh I L R k n :=
  PW.step (fun ad H locs ls hp w => lv_ldc2 h.1 h.2.1 h.2.2.2.1 (h.2.2.1 _ hw) dc.1 (by rw [dc.2]; exact w)) kk
/-- a field by the pool: class number and slot -/
def FL (own : String) (ix ci f : Nat) : Prop := ci < 9 ∧ f < px_n ci ∧ Cond.fieldLink own ix (px_T ci f).1 (px_T ci f).2.1 (px_T ci f).2.2.1 ∈ TW
theorem pw_get {i ci f ix : Nat} {v : Value} (h : PXok X own cc d kc ks) (dc : Dc cc pc (.getfield ix) 3 q) (hf : FL own ix ci f) (hs : sh[i]? = some (.inl ci)) (hv : ∀ ad, px_fld ad I L R i f (px_ty ci f) = px_v ad v) (kk : PW X q lv (v :: st) sh I L R k n) : PW X pc lv (.ref i :: st) sh I L R k n :=
  PW.step (fun ad H locs ls hp w => va_get h.1 h.2.1 h.2.2.1 (px_in hf.1) h.2.2.2.1 h.2.2.2.2.1.1 hp.2.1 i (px_get hs) (px_cl hf.1) f hf.2.1 (h.2.2.1 _ hf.2.2) (fun _ h9 => h9) ((px_fs_get hf.2.1).trans (congrArg some (hv ad))) dc.1 (by rw [dc.2]; exact w)) kk
theorem pw_getI {i f ix : Nat} (ci : Nat) (h : PXok X own cc d kc ks) (dc : Dc cc pc (.getfield ix) 3 q) (hf : FL own ix ci f) (hs : sh[i]? = some (.inl ci)) (ht : px_k (px_ty ci f) = 0) (kk : PW X q lv (.int (I i f) :: st) sh I L R k n) : PW X pc lv (.ref i :: st) sh I L R k n :=
  pw_get h dc hf hs (fun ad => by unfold px_fld; rw [ht]; rfl) kk
theorem pw_getL {i f ix : Nat} (ci : Nat) (h : PXok X own cc d kc ks) (dc : Dc cc pc (.getfield ix) 3 q) (hf : FL own ix ci f) (hs : sh[i]? = some (.inl ci)) (ht : px_k (px_ty ci f) = 1) (kk : PW X q lv (.long (L i f) :: st) sh I L R k n) : PW X pc lv (.ref i :: st) sh I L R k n :=
  pw_get h dc hf hs (fun ad => by unfold px_fld; rw [ht]; rfl) kk
theorem pw_getR {i f ix j : Nat} (ci : Nat) (h : PXok X own cc d kc ks) (dc : Dc cc pc (.getfield ix) 3 q) (hf : FL own ix ci f) (hs : sh[i]? = some (.inl ci)) (ht : px_k (px_ty ci f) = 2) (hj : R i f = some j) (kk : PW X q lv (.ref j :: st) sh I L R k n) : PW X pc lv (.ref i :: st) sh I L R k n :=
  pw_get h dc hf hs (fun ad => by unfold px_fld; rw [ht, hj]; rfl) kk
theorem pw_getN {i f ix : Nat} (ci : Nat) (h : PXok X own cc d kc ks) (dc : Dc cc pc (.getfield ix) 3 q) (hf : FL own ix ci f) (hs : sh[i]? = some (.inl ci)) (ht : px_k (px_ty ci f) = 2) (hj : R i f = none) (kk : PW X q lv (.null :: st) sh I L R k n) : PW X pc lv (.ref i :: st) sh I L R k n :=
  pw_get h dc hf hs (fun ad => by unfold px_fld; rw [ht, hj]; rfl) kk
theorem pw_put {i ci f ix : Nat} {v : Value} {I' : IM} {L' : LM} {R' : RM} (h : PXok X own cc d kc ks) (dc : Dc cc pc (.putfield ix) 3 q) (hf : FL own ix ci f) (hs : sh[i]? = some (.inl ci)) (hnf : (px_T ci f).2.2.2 = false) (hn : ∀ ad, narrow (px_ty ci f) (px_v ad v) = px_v ad v) (hfit : ∀ ad, fits (px_ty ci f) (px_v ad v) = true)
    (hv : ∀ ad, px_v ad v = px_fld ad I' L' R' i f (px_ty ci f)) (h1 : ∀ j, j ≠ i → I' j = I j) (h2 : ∀ j, j ≠ i → L' j = L j) (h3 : ∀ j, j ≠ i → R' j = R j) (g1 : ∀ j, j ≠ f → I' i j = I i j) (g2 : ∀ j, j ≠ f → L' i j = L i j) (g3 : ∀ j, j ≠ f → R' i j = R i j) (hRb : px_Rb sh R → px_Rb sh R')
    (kk : PW X q lv st sh I' L' R' k n) : PW X pc lv (v :: .ref i :: st) sh I L R k n := by
  intro ad H locs ls hp
  refine va_put h.1 h.2.1 h.2.2.1 (px_in hf.1) (px_ty ci) (px_tyok hf.1) (px_nm hf.1) h.2.2.2.1 h.2.2.2.2.1.1 hp.2.1 hp.2.2.1 hp.2.2.2.1 i (px_get hs) (px_cl hf.1) f hf.2.1 (h.2.2.1 _ hf.2.2) (fun _ h9 => h9) hnf (px_tyok hf.1 f hf.2.1) (hn ad) (hfit ad) (by rw [px_fs_len]; exact hf.2.1) dc.1 (fun H1 locs1 hP hD hS => ?_)
  rw [dc.2]
  have e := px_set (cA := xA X) (ad := ad) (e := Sum.inr (ci, (px_fs ad I L R i ci).set f (px_v ad v))) hs (congrArg (fun z => Sum.inr (ci, z)) (px_fs_set hf.2.1 (hv ad) g1 g2 g3)) h1 h2 h3
  rw [e] at hP hD
  exact kk ad H1 locs1 ls ⟨⟨hp.1.1, hp.1.2.1, hp.1.2.2.1, hRb hp.1.2.2.2⟩, hP, hD, hS, hp.2.2.2.2⟩
theorem pw_putI {i f ix : Nat} {x : Int32} (ci : Nat) (h : PXok X own cc d kc ks) (dc : Dc cc pc (.putfield ix) 3 q) (hf : FL own ix ci f) (hs : sh[i]? = some (.inl ci)) (hnf : (px_T ci f).2.2.2 = false) (ht : px_k (px_ty ci f) = 0) (hn : narrow (px_ty ci f) (.int x) = .int x) (hfit : fits (px_ty ci f) (.int x) = true) (kk : PW X q lv st sh (u2 I i f x) L R k n) : PW X pc lv (.int x :: .ref i :: st) sh I L R k n :=
  pw_put (I' := u2 I i f x) (L' := L) (R' := R) h dc hf hs hnf (fun _ => hn) (fun _ => hfit) (fun ad => by unfold px_fld; rw [ht, u2_s]; rfl) (fun j hj => funext fun b => u2_n1 hj) (fun _ _ => rfl) (fun _ _ => rfl) (fun j hj => u2_n2 hj) (fun _ _ => rfl) (fun _ _ => rfl) id kk
theorem pw_putL {i f ix : Nat} {x : Int64} (ci : Nat) (h : PXok X own cc d kc ks) (dc : Dc cc pc (.putfield ix) 3 q) (hf : FL own ix ci f) (hs : sh[i]? = some (.inl ci)) (hnf : (px_T ci f).2.2.2 = false) (ht : px_k (px_ty ci f) = 1) (hn : narrow (px_ty ci f) (.long x) = .long x) (hfit : fits (px_ty ci f) (.long x) = true) (kk : PW X q lv st sh I (u2 L i f x) R k n) : PW X pc lv (.long x :: .ref i :: st) sh I L R k n :=
  pw_put (I' := I) (L' := u2 L i f x) (R' := R) h dc hf hs hnf (fun _ => hn) (fun _ => hfit) (fun ad => by unfold px_fld; rw [ht, u2_s]; rfl) (fun _ _ => rfl) (fun j hj => funext fun b => u2_n1 hj) (fun _ _ => rfl) (fun _ _ => rfl) (fun j hj => u2_n2 hj) (fun _ _ => rfl) id kk
theorem px_Rb_put {R : RM} {i f j : Nat} (hj : j < sh.length) (hb : px_Rb sh R) : px_Rb sh (u2 R i f (some j)) := by
  intro a b c ha hc
  unfold u2 at hc
  split at hc
  · cases hc
    exact hj
  · exact hb a b c ha hc
theorem px_Rb_putN {R : RM} {i f : Nat} (hb : px_Rb sh R) : px_Rb sh (u2 R i f none) := by
  intro a b c ha hc
  unfold u2 at hc
  split at hc
  · cases hc
  · exact hb a b c ha hc
theorem pw_putR {i f ix j : Nat} (ci : Nat) (h : PXok X own cc d kc ks) (dc : Dc cc pc (.putfield ix) 3 q) (hf : FL own ix ci f) (hs : sh[i]? = some (.inl ci)) (hnf : (px_T ci f).2.2.2 = false) (ht : px_k (px_ty ci f) = 2) (hn : ∀ a : Nat, narrow (px_ty ci f) (.ref a) = .ref a) (hfit : ∀ a : Nat, fits (px_ty ci f) (.ref a) = true) (hj : j < sh.length) (kk : PW X q lv st sh I L (u2 R i f (some j)) k n) : PW X pc lv (.ref j :: .ref i :: st) sh I L R k n :=
  pw_put (I' := I) (L' := L) (R' := u2 R i f (some j)) h dc hf hs hnf (fun ad => hn _) (fun ad => hfit _) (fun ad => by unfold px_fld; rw [ht, u2_s]; rfl) (fun _ _ => rfl) (fun _ _ => rfl) (fun j hj => funext fun b => u2_n1 hj) (fun _ _ => rfl) (fun _ _ => rfl) (fun j hj => u2_n2 hj) (px_Rb_put hj) kk
theorem pw_putN {i f ix : Nat} (ci : Nat) (h : PXok X own cc d kc ks) (dc : Dc cc pc (.putfield ix) 3 q) (hf : FL own ix ci f) (hs : sh[i]? = some (.inl ci)) (hnf : (px_T ci f).2.2.2 = false) (ht : px_k (px_ty ci f) = 2) (hn : narrow (px_ty ci f) .null = .null) (hfit : fits (px_ty ci f) .null = true) (kk : PW X q lv st sh I L (u2 R i f none) k n) : PW X pc lv (.null :: .ref i :: st) sh I L R k n :=
  pw_put (I' := I) (L' := L) (R' := u2 R i f none) h dc hf hs hnf (fun ad => hn) (fun ad => hfit) (fun ad => by unfold px_fld; rw [ht, u2_s]; rfl) (fun _ _ => rfl) (fun _ _ => rfl) (fun j hj => funext fun b => u2_n1 hj) (fun _ _ => rfl) (fun _ _ => rfl) (fun j hj => u2_n2 hj) px_Rb_putN kk
/-- a final field of references, in the constructor of its class -/
theorem pw_putF {i f ix j : Nat} (ci : Nat) (h : PXok X own cc d kc ks) (hin : (xM X).name = "<init>") (dc : Dc cc pc (.putfield ix) 3 q) (hf : FL own ix ci f) (hs : sh[i]? = some (.inl ci)) (hfin : (px_T ci f).2.2.2 = true) (hdecl : (px_T ci f).1 = own) (ht : px_k (px_ty ci f) = 2) (hn : ∀ a : Nat, narrow (px_ty ci f) (.ref a) = .ref a) (hfit : ∀ a : Nat, fits (px_ty ci f) (.ref a) = true) (hj : j < sh.length) (kk : PW X q lv st sh I L (u2 R i f (some j)) k n) : PW X pc lv (.ref j :: .ref i :: st) sh I L R k n := by
  intro ad H locs ls hp
  refine va_putF (v := .ref (ad j)) h.1 h.2.1 h.2.2.1 (px_in hf.1) (px_ty ci) (px_tyok hf.1) (px_nm hf.1) h.2.2.2.1 h.2.2.2.2.1.1 hp.2.1 hp.2.2.1 hp.2.2.2.1 i (px_get hs) (px_cl hf.1) f hf.2.1 (h.2.2.1 _ hf.2.2) (fun _ h9 => h9) hfin hin hdecl (px_tyok hf.1 f hf.2.1) (hn _) (hfit _) (by rw [px_fs_len]; exact hf.2.1) dc.1 (fun H1 locs1 hP hD hS => ?_)
  rw [dc.2]
  have e := px_set (cA := xA X) (ad := ad) (I' := I) (L' := L) (R' := u2 R i f (some j)) (e := Sum.inr (ci, (px_fs ad I L R i ci).set f (.ref (ad j)))) hs (congrArg (fun z => Sum.inr (ci, z)) (px_fs_set hf.2.1 (by unfold px_fld; rw [ht, u2_s]; rfl) (fun _ _ => rfl) (fun _ _ => rfl) (fun j hj => u2_n2 hj))) (fun _ _ => rfl) (fun _ _ => rfl) (fun j hj => funext fun b => u2_n1 hj)
  rw [e] at hP hD
  exact kk ad H1 locs1 ls ⟨⟨hp.1.1, hp.1.2.1, hp.1.2.2.1, px_Rb_put hj hp.1.2.2.2⟩, hP, hD, hS, hp.2.2.2.2⟩
/-- an index within, and what it is -/
def px_ix (x : Int32) (N j : Nat) : Prop := vp_in x N ∧ x.toNatClampNeg = j
theorem px_ix_nI {j N : Nat} (h : j < N) (hN : N < 2 ^ 31) : px_ix (nI j) N j := ⟨vp_in_nI h hN, nI_clamp (Nat.lt_trans h hN)⟩
theorem px_ix_lt {x : Int32} {N j : Nat} (h : px_ix x N j) : j < N := by
  obtain ⟨h1, rfl⟩ := h
  exact Nat.not_le.mp fun q => h1 (Or.inr q)
theorem pw_iald {a N j : Nat} {x : Int32} (h : PXok X own cc d kc ks) (dc : Dc cc pc .iaload 1 q) (hs : sh[a]? = some (.inr (.int, N))) (hx : px_ix x N j) (kk : PW X q lv (.int (I a j) :: st) sh I L R k n) : PW X pc lv (.int x :: .ref a :: st) sh I L R k n :=
  PW.step (fun ad H locs ls hp w => va_iald h.1 h.2.1 h.2.2.2.2.1.1 hp.2.1 a 0 (px_get hs) rfl hx.1 dc.1 (by rw [dc.2, hx.2]; exact w)) kk
theorem pw_bald {a N j : Nat} {x : Int32} (h : PXok X own cc d kc ks) (dc : Dc cc pc .baload 1 q) (hs : sh[a]? = some (.inr (.byte, N))) (hx : px_ix x N j) (kk : PW X q lv (.int (I a j) :: st) sh I L R k n) : PW X pc lv (.int x :: .ref a :: st) sh I L R k n :=
  PW.step (fun ad H locs ls hp w => va_bald h.1 h.2.1 h.2.2.2.2.1.1 hp.2.1 a 2 (px_get hs) rfl hx.1 dc.1 (by rw [dc.2, hx.2]; exact w)) kk
theorem pw_lald {a N j : Nat} {x : Int32} (h : PXok X own cc d kc ks) (dc : Dc cc pc .laload 1 q) (hs : sh[a]? = some (.inr (.long, N))) (hx : px_ix x N j) (kk : PW X q lv (.long (L a j) :: st) sh I L R k n) : PW X pc lv (.int x :: .ref a :: st) sh I L R k n :=
  PW.step (fun ad H locs ls hp w => va_lald h.1 h.2.1 h.2.2.2.2.1.1 hp.2.1 a 1 (px_get hs) rfl hx.1 dc.1 (by rw [dc.2, hx.2]; exact w)) kk
theorem u2_row {α : Type} {f : Nat → Nat → α} {a j : Nat} {v : α} : (fun b => if b = j then v else f a b) = u2 f a j v a := by
  funext b
  simp [u2]
theorem pw_iast {a N j : Nat} {x y : Int32} (h : PXok X own cc d kc ks) (dc : Dc cc pc .iastore 1 q) (hs : sh[a]? = some (.inr (.int, N))) (hx : px_ix x N j) (kk : PW X q lv st sh (u2 I a j y) L R k n) : PW X pc lv (.int y :: .int x :: .ref a :: st) sh I L R k n := by
  intro ad H locs ls hp
  refine va_iast h.1 h.2.1 h.2.2.2.2.1.1 hp.2.1 hp.2.2.1 hp.2.2.2.1 a 0 (px_get hs) rfl hx.1 dc.1 (fun H1 locs1 hP hD hS => ?_)
  rw [dc.2]
  rw [hx.2] at hP hD
  have e := px_set (cA := xA X) (ad := ad) (I := I) (L := L) (R := R) (I' := u2 I a j y) (L' := L) (R' := R) (e := Sum.inl (xA X .int, N, Sum.inl (upd (I a) j y))) hs (by show _ = Sum.inl (xA X .int, N, Sum.inl (u2 I a j y a)); rw [← u2_row]; rfl) (fun b hb => funext fun _ => u2_n1 hb) (fun _ _ => rfl) (fun _ _ => rfl)
  rw [e] at hP hD
  exact kk ad H1 locs1 ls ⟨hp.1, hP, hD, hS, hp.2.2.2.2⟩
theorem pw_bast {a N j : Nat} {x y : Int32} (h : PXok X own cc d kc ks) (dc : Dc cc pc .bastore 1 q) (hs : sh[a]? = some (.inr (.byte, N))) (hx : px_ix x N j) (kk : PW X q lv st sh (u2 I a j (vp_nar .byte y)) L R k n) : PW X pc lv (.int y :: .int x :: .ref a :: st) sh I L R k n := by
  intro ad H locs ls hp
  refine va_bast h.1 h.2.1 h.2.2.2.2.1.1 hp.2.1 hp.2.2.1 hp.2.2.2.1 a 2 (px_get hs) rfl hx.1 dc.1 (fun H1 locs1 hP hD hS => ?_)
  rw [dc.2]
  rw [hx.2] at hP hD
  have e := px_set (cA := xA X) (ad := ad) (I := I) (L := L) (R := R) (I' := u2 I a j (vp_nar .byte y)) (L' := L) (R' := R) (e := Sum.inl (xA X .byte, N, Sum.inl (upd (I a) j (vp_nar .byte y)))) hs (by show _ = Sum.inl (xA X .byte, N, Sum.inl (u2 I a j (vp_nar .byte y) a)); rw [← u2_row]; rfl) (fun b hb => funext fun _ => u2_n1 hb) (fun _ _ => rfl) (fun _ _ => rfl)
  rw [e] at hP hD
  exact kk ad H1 locs1 ls ⟨hp.1, hP, hD, hS, hp.2.2.2.2⟩
theorem pw_last {a N j : Nat} {x : Int32} {y : Int64} (h : PXok X own cc d kc ks) (dc : Dc cc pc .lastore 1 q) (hs : sh[a]? = some (.inr (.long, N))) (hx : px_ix x N j) (kk : PW X q lv st sh I (u2 L a j y) R k n) : PW X pc lv (.long y :: .int x :: .ref a :: st) sh I L R k n := by
  intro ad H locs ls hp
  refine va_last h.1 h.2.1 h.2.2.2.2.1.1 hp.2.1 hp.2.2.1 hp.2.2.2.1 a 1 (px_get hs) rfl hx.1 dc.1 (fun H1 locs1 hP hD hS => ?_)
  rw [dc.2]
  rw [hx.2] at hP hD
  have e := px_set (cA := xA X) (ad := ad) (I := I) (L := L) (R := R) (I' := I) (L' := u2 L a j y) (R' := R) (e := Sum.inl (xA X .long, N, Sum.inr (Sum.inl (vp_updL (L a) j y)))) hs (by show _ = Sum.inl (xA X .long, N, Sum.inr (Sum.inl (u2 L a j y a))); rw [← u2_row]; rfl) (fun _ _ => rfl) (fun b hb => funext fun _ => u2_n1 hb) (fun _ _ => rfl)
  rw [e] at hP hD
  exact kk ad H1 locs1 ls ⟨hp.1, hP, hD, hS, hp.2.2.2.2⟩
theorem pw_aald {a N j z t0 : Nat} {x : Int32} {ty : FieldType} (h : PXok X own cc d kc ks) (dc : Dc cc pc .aaload 1 q) (hs : sh[a]? = some (.inr (ty, N))) (hk : px_k ty = 2) (hr : ty.isReference = true) (ht : ∀ cA, (px_tys cA)[t0]? = some (cA ty, ty)) (hx : px_ix x N j) (hz : R a j = some z) (kk : PW X q lv (.ref z :: st) sh I L R k n) : PW X pc lv (.int x :: .ref a :: st) sh I L R k n := by
  refine PW.step (fun ad H locs ls hp w => ?_) kk
  have ha := px_get (cA := xA X) (ad := ad) (I := I) (L := L) (R := R) hs
  have he : px_ent (xA X) ad I L R a (.inr (ty, N)) = Sum.inl (xA X ty, N, Sum.inr (Sum.inr (Sum.inr (Sum.inr (fun j => (R a j).map ad))))) := by
    show Sum.inl (xA X ty, px_arr ad I L R a N ty) = _
    unfold px_arr
    rw [hk]
    rfl
  rw [he] at ha
  have hlt : x.toNatClampNeg < N := Nat.not_le.mp fun q => hx.1 (Or.inr q)
  refine W.aald (v := .ref (ad z)) (ty := ty) h.1 h.2.1 (hp.2.1 a _ ha) ((h.2.2.2.2.1.1.2 t0 _ (ht _)).1 N (fun j => va_rf ((R a j).map ad))) hr (fun q => by cases q) (by show ¬ (x < 0 ∨ (arrV _ _ _).slots.size ≤ _); rw [arrV_size]; exact hx.1) (by show (arrV _ _ _).slots[_]? = _; rw [arrV_read _ _ hlt, hx.2]; show some (va_rf ((R a j).map ad)) = _; rw [hz]; rfl) rfl rfl dc.1 (by rw [dc.2]; exact w)

end PXS
end
section
/-! CALLS: a method's contract over the pure memory, how it is proved, how it is used -/
abbrev PMd : Type := MethodName × ByteArray × Nat × Option FieldType × Nat × Nat × Nat
def px_room (d kc ks : Nat) : Room := { frames := d, cells := kc, slots := ks, locals := 36 * d }
def px_ws (M : PMd) : List Cond := Cond.code M.1 M.2.1 M.2.2.1 M.2.2.2.1 :: TW
abbrev PPost : Type := Option Value → Sh → IM → LM → RM → Prop
def pxQ (D : va_G) (cA : FieldType → ClassId) (ad : Nat → Nat) (n0 sz : Nat) (Post : PPost) : Array Value → State → Outcome → State → Prop := fun _ st o t =>
  (∃ (r : Option Value) (sh' : Sh) (I' : IM) (L' : LM) (R' : RM) (ad' : Nat → Nat), o = .returned (r.map (px_v ad')) ∧ Post r sh' I' L' R' ∧ ((∀ i, (i < n0 ∨ 999 ≤ i) → ad' i = ad i) ∧ n0 ≤ sh'.length ∧ (sh'.length = n0 → ad' = ad) ∧ px_Rb sh' R') ∧ va_P D vwCl (px_w cA ad' sh' I' L' R') t.heap ∧ va_D (px_A ad n0 sz) (px_w cA ad' sh' I' L' R')) ∧ va_F (px_A ad n0 sz) st t
def pxP (D : va_G) (cA : FieldType → ClassId) (ad : Nat → Nat) (sz : Nat) (sh : Sh) (I : IM) (L : LM) (R : RM) : State → Prop := fun U => U.heap.size = sz ∧ va_P D vwCl (px_w cA ad sh I L R) U.heap ∧ pxK D cA U ∧ va_D (fun _ => True) (px_w cA ad sh I L R) ∧ px_Rb sh R
/-- the contract: from these arguments and this memory it returns, and Post holds of answer and memory -/
def PMet (M : PMd) (args : List Value) (sh : Sh) (I : IM) (L : LM) (R : RM) (Post : PPost) : Prop :=
  ∀ (l : Launch) (D : va_G) (cA : FieldType → ClassId) (ad : Nat → Nat) (sz : Nat), Met l M.1 (px_ws M) (px_room M.2.2.2.2.1 M.2.2.2.2.2.1 M.2.2.2.2.2.2) (va_Pc (args.map (px_v ad)) (pxP D cA ad sz sh I L R)) (pxQ D cA ad sh.length sz Post) M.2.2.2.2.2.1 M.2.2.2.2.2.2 (px_A ad sh.length sz)
/-- what a method's end is, in its walk -/
def PXr (X : PX) (ret : Option FieldType) (nm : String) (Post : PPost) (kc ks : Nat) : Prop :=
  xQ X = MQ (xb X) (pxQ (xD X) (xA X) (xad X) (xn X) (xs X).heap.size Post) (xa X) (xs X) kc ks (px_A (xad X) (xn X) (xs X).heap.size) ∧ (xM X).sig.returnType = ret ∧ (xM X).locks = false ∧ (xM X).name = nm
def MF (M : PMd) (np : Nat) : Prop := plainName M.1.cls = true ∧ (M.1.cls ≠ "java/lang/invoke/MethodHandle" ∧ M.1.cls ≠ "java/lang/invoke/VarHandle" ∧ (parseMethodDescriptor M.1.desc).map (fun d => d.parameters.length) = some np) ∧ Cond.code M.1 M.2.1 M.2.2.1 M.2.2.2.1 ∈ TW ∧ Cond.initialized M.1.cls ∈ TW ∧ M.2.2.1 ≤ 17
def MI (M : PMd) (ci : Nat) : Prop := ci < 9 ∧ px_C ci = M.1.cls ∧ Cond.instanceMethod M.1 ∈ TW ∧ Cond.selects M.1.cls M.1 M.1 ∈ TW
theorem px_ws_good {M : PMd} {np : Nat} (h : MF M np) : GoodIn TW (px_ws M) := fun w hw => by
  rcases List.mem_cons.mp hw with e | e
  · subst e
    exact TW_good _ h.2.2.1
  · exact TW_good _ e
theorem px_lgsl (ad : Nat → Nat) (vs : List Value) : (lg_sl (vs.map (px_v ad))).length = (lg_sl vs).length := by
  unfold lg_sl
  rw [List.length_flatMap, List.length_flatMap, List.map_map]
  congr 1
  apply List.map_congr_left
  intro v _
  simp only [Function.comp, px_v_cat]
  split <;> rfl
theorem px_args (ad : Nat → Nat) : ∀ (i : Nat) (vs : List Value), lv_args i (vs.map (px_v ad)) = px_l ad (lv_args i vs)
  | _, [] => rfl
  | i, v :: vs => by
    rw [List.map_cons, lv_args, lv_args, px_v_cat, px_args ad _ vs]
    rfl
theorem PMet.of {M : PMd} {args : List Value} {sh : Sh} {I : IM} {L : LM} {R : RM} {Post : PPost} {np : Nat} (hM : MF M np) (hlen : (lg_sl args).length ≤ M.2.2.1)
    (body : ∀ X : PX, PXok X M.1.cls M.2.1 M.2.2.2.2.1 M.2.2.2.2.2.1 M.2.2.2.2.2.2 → PXr X M.2.2.2.1 M.1.name Post M.2.2.2.2.2.1 M.2.2.2.2.2.2 → (xc X).maxLocals = M.2.2.1 → PW X 0 (lv_args 0 args) [] sh I L R 0 0) : PMet M args sh I L R Post := by
  intro l D cA ad sz
  refine Met.ofW (cc := M.2.1) (maxL := M.2.2.1) (ret := M.2.2.2.1) hM.1 rfl ?_
  intro p e s m args' below meth c s₁ B hml hv
  obtain ⟨rfl, hsz, hP, hK, hD0, hRb⟩ := hv
  subst hsz
  have hts0 := atoms_spec (ws := px_ws M) B.pre
  have hts : ∀ w ∈ TW, w.before ((args.map (px_v ad)).toArray) s = true := fun w hw => hts0 w (List.mem_cons_of_mem _ hw)
  have hD : va_D (px_A ad sh.length s.heap.size) (px_w cA ad sh I L R) := hD0.weaken (fun k q hk _ => by
    have hl : k < sh.length := by
      have := (List.getElem?_eq_some_iff.mp hk).1
      rwa [px_wl] at this
    rw [px_get (List.getElem?_eq_getElem hl)] at hk
    cases hk
    exact Or.inl ⟨k, hl, rfl⟩)
  have b := body ((p, l, e, (headSpec (px_ws M) (px_room M.2.2.2.2.1 M.2.2.2.2.2.1 M.2.2.2.2.2.2)).room), (s, m, (args.map (px_v ad)).toArray, below), (meth, c), (D, cA), (ad, sh.length), MQ below (pxQ D cA ad sh.length s.heap.size Post) ((args.map (px_v ad)).toArray) s M.2.2.2.2.2.1 M.2.2.2.2.2.2 (px_A ad sh.length s.heap.size))
    ⟨B.exec, B.bytes, hts, findClass_of_methodNamed B.named, hK, Nat.le_refl _, Nat.le_refl _, Nat.le_refl _, Nat.le_refl _⟩ ⟨rfl, B.returns, B.notSynchronized, (name_of_methodNamed B.named B.method).1⟩ hml
  have hl := lv_entry (args.map (px_v ad)) (n := M.2.2.1) (by rw [px_lgsl]; exact hlen)
  rw [lg_entry_eq]
  refine b ad s.heap [] _ ⟨⟨fun _ _ => rfl, Nat.le_refl _, fun _ => rfl, hRb⟩, hP, hD, va_S.rf, ?_⟩
  rw [← px_args]
  show lv_has _ c.maxLocals _
  rw [hml]
  exact hl
section PXC
variable {p : Program} {l : Launch} {e : Env} {Rm : Room} {s : State} {m : MethodId} {args : Array Value} {below : List Frame} {meth : Method} {c : Code} {H : Heap} {locs : List Loc} {cells slots : Nat} {Q : State → Prop}
theorem px_call {pc mc ms n0 : Nat} {ls : Array Slot} {rest st0 : List Value} {a : Array Value} {A0 free : Nat → Prop} {H0 : Heap} {D : va_G} {cA : FieldType → ClassId} {ad : Nat → Nat} {Post : PPost}
    (hr : va_Run p l e Rm s m args below meth c H locs cells slots mc ms (F0 m pc ls st0) rest (pxQ D cA ad n0 H.size Post a) free) (hS : va_S A0 H0 H locs) (hA : ∀ q, px_A ad n0 H.size q → A0 q) (hf : ∀ q, free q → A0 q)
    (kk : ∀ (r : Option Value) (sh' : Sh) (I' : IM) (L' : LM) (R' : RM) (ad' : Nat → Nat) (H1 : Heap) (locs1 : List Loc), Post r sh' I' L' R' → ((∀ i, (i < n0 ∨ 999 ≤ i) → ad' i = ad i) ∧ n0 ≤ sh'.length ∧ (sh'.length = n0 → ad' = ad) ∧ px_Rb sh' R') → va_P D vwCl (px_w cA ad' sh' I' L' R') H1 → va_D (px_A ad n0 H.size) (px_w cA ad' sh' I' L' R') → va_S A0 H0 H1 locs1 →
      W p l e Rm s m args below meth c H1 locs1 (cells + mc) (slots + ms) Q (F0 m (pc + 3) ls ((r.map (px_v ad')).toList ++ rest))) : W p l e Rm s m args below meth c H locs cells slots Q (F0 m pc ls st0) := by
  intro T hT X
  obtain ⟨v, st₀, t, T', L, h0, X', hL, e1, e2, ⟨⟨r, sh', I', L', R', ad', hv, hp, hg, hb, hd⟩, hz, hk⟩, st⟩ := hr T hT X
  cases hv
  rw [h0] at hz hk
  rw [← e1] at hb
  obtain ⟨t2, a1, b1⟩ := kk r sh' I' L' R' ad' T'.heap (locs ++ L) hp hg hb hd
    ⟨Nat.le_trans hS.1 (by rw [e1]; exact hz), fun q h1 h2 => by rw [e1, hk q (Nat.lt_of_lt_of_le h1 hS.1) (fun z => h2 (hA q z))]; exact hS.2.1 q h1 h2, fun q hq => by
      rcases List.mem_append.mp hq with h | h
      · exact hS.2.2 q h
      · exact hf _ (hL q h)⟩ T' rfl X'
  exact ⟨t2, st t2 a1, b1⟩
end PXC
section PXD
variable {X : PX} {own : String} {cc : ByteArray} {d kc ks pc q : Nat} {lv : List (Nat × Value)} {st stk : List Value} {sh : Sh} {I : IM} {L : LM} {R : RM} {k n : Nat} {M : PMd} {np ix : Nat} {Post : PPost}
/-- the callee's room lies in the caller's -/
def CR (M : PMd) (d kc ks k n : Nat) : Prop := M.2.2.2.2.1 + 1 ≤ d ∧ k + M.2.2.2.2.2.1 ≤ kc ∧ n + M.2.2.2.2.2.2 ≤ ks
theorem px_catsum (ad : Nat → Nat) (st : List Value) : ((st.map (px_v ad)).map fun v => v.category).sum = (st.map fun v => v.category).sum := by
  rw [List.map_map]
  congr 1
  exact List.map_congr_left (fun v _ => px_v_cat)
theorem px_AA {ad : Nat → Nat} {H : Heap} {locs : List Loc} {ls : Array Slot} (hp : PH X sh I L R lv ad H locs ls) : ∀ z, px_A ad sh.length H.size z → px_A (xad X) (xn X) (xs X).heap.size z := by
  intro z hz
  rcases hz with ⟨i, hi, rfl⟩ | hz
  · exact hp.2.2.1.2 i _ (px_get (List.getElem?_eq_getElem hi))
  · exact Or.inr (Nat.le_trans hp.2.2.2.1.1 hz)
theorem px_pre {ad : Nat → Nat} {H : Heap} {locs : List Loc} {ls : Array Slot} (h : PXok X own cc d kc ks) (hp : PH X sh I L R lv ad H locs ls) (U : State) (hU : U.heap = H) (hW : (xs X).WarmedH U.vm) : pxP (xD X) (xA X) ad H.size sh I L R U :=
  ⟨by rw [hU], by rw [hU]; exact hp.2.1, pxK_warm hW h.2.2.2.2.1, hp.2.2.1.weaken (fun _ _ _ _ => trivial), hp.1.2.2.2⟩
theorem px_blind {D : va_G} {cA : FieldType → ClassId} {av : List Value} {ad : Nat → Nat} {sz : Nat} : FrameBlind (va_Pc av (pxP D cA ad sz sh I L R)) := fun a U g mk hq => by
  obtain ⟨q0, q1, qP, qK, qD⟩ := hq
  exact ⟨q0, q1, qP, pxK_same (u := U) (U := U.calling g mk a) rfl qK, qD⟩
/-- behind a call of a method that makes no cell -/
def PKk (X : PX) (q : Nat) (lv : List (Nat × Value)) (st : List Value) (sh : Sh) (k n : Nat) (Post : PPost) : Prop := ∀ (r : Option Value) (sh' : Sh) (I' : IM) (L' : LM) (R' : RM), Post r sh' I' L' R' → sh' = sh ∧ PW X q lv (r.toList ++ st) sh I' L' R' k n
/-- the references among values are of cells that were there -/
def px_rok (n : Nat) (v : Value) : Prop := match v with
  | .ref i => i < n ∨ 999 ≤ i
  | _ => True
/-- behind a call of a method that makes cells -/
def PKn (X : PX) (q : Nat) (lv : List (Nat × Value)) (st : List Value) (k n : Nat) (Post : PPost) : Prop := ∀ (r : Option Value) (sh' : Sh) (I' : IM) (L' : LM) (R' : RM), Post r sh' I' L' R' → PW X q lv (r.toList ++ st) sh' I' L' R' k n
theorem px_v_ok {ad ad' : Nat → Nat} {n : Nat} (ha : ∀ i, (i < n ∨ 999 ≤ i) → ad' i = ad i) {v : Value} (hv : px_rok n v) : px_v ad v = px_v ad' v := by
  cases v <;> first | rfl | (show Value.ref _ = Value.ref _; rw [ha _ hv])
theorem px_map_ok {ad ad' : Nat → Nat} {n : Nat} (ha : ∀ i, (i < n ∨ 999 ≤ i) → ad' i = ad i) {st : List Value} (hv : ∀ v ∈ st, px_rok n v) : st.map (px_v ad) = st.map (px_v ad') :=
  List.map_congr_left (fun v h => px_v_ok ha (hv v h))
theorem px_l_ok {ad ad' : Nat → Nat} {n : Nat} (ha : ∀ i, (i < n ∨ 999 ≤ i) → ad' i = ad i) {lv : List (Nat × Value)} (hv : ∀ q ∈ lv, px_rok n q.2) : px_l ad lv = px_l ad' lv :=
  List.map_congr_left (fun q h => by rw [px_v_ok ha (hv q h)])
/-- the run of a callee, whatever call it is, gives the caller's walk -/
theorem px_go {ad : Nat → Nat} {H : Heap} {locs : List Loc} {ls : Array Slot} {mc ms : Nat} {st0 : List Value} {a : Array Value} (hp : PH X sh I L R lv ad H locs ls) (hq : pc + 3 = q)
    (hr : va_Run (xp X) (xl X) (xe X) (xR X) (xs X) (xm X) (xa X) (xb X) (xM X) (xc X) H locs k n mc ms (F0 (xm X) pc ls st0) (st.map (px_v ad)) (pxQ (xD X) (xA X) ad sh.length H.size Post a) (px_A ad sh.length H.size))
    (kk : PKk X q lv st sh (k + mc) (n + ms) Post) : xW X H locs k n (F0 (xm X) pc ls st0) := by
  refine px_call hr hp.2.2.2.1 (px_AA hp) (px_AA hp) ?_
  intro r sh' I' L' R' ad' H1 locs1 hP hg hb hd hS
  obtain ⟨rfl, w⟩ := kk r sh' I' L' R' hP
  have e := hg.2.2.1 rfl
  subst e
  rw [hq]
  have w2 := w ad' H1 locs1 ls ⟨⟨hp.1.1, hp.1.2.1, hp.1.2.2.1, hg.2.2.2⟩, hb, hd.weaken (fun _ _ _ h => px_AA hp _ h), hS, hp.2.2.2.2⟩
  rw [List.map_append] at w2
  cases r <;> exact w2
theorem px_goN {ad : Nat → Nat} {H : Heap} {locs : List Loc} {ls : Array Slot} {mc ms : Nat} {st0 : List Value} {a : Array Value} (hp : PH X sh I L R lv ad H locs ls) (hq : pc + 3 = q) (hv : ∀ v ∈ st, px_rok sh.length v) (hv2 : ∀ q ∈ lv, px_rok sh.length q.2)
    (hr : va_Run (xp X) (xl X) (xe X) (xR X) (xs X) (xm X) (xa X) (xb X) (xM X) (xc X) H locs k n mc ms (F0 (xm X) pc ls st0) (st.map (px_v ad)) (pxQ (xD X) (xA X) ad sh.length H.size Post a) (px_A ad sh.length H.size))
    (kk : PKn X q lv st (k + mc) (n + ms) Post) : xW X H locs k n (F0 (xm X) pc ls st0) := by
  refine px_call hr hp.2.2.2.1 (px_AA hp) (px_AA hp) ?_
  intro r sh' I' L' R' ad' H1 locs1 hP hg hb hd hS
  have w := kk r sh' I' L' R' hP
  rw [hq]
  have w2 := w ad' H1 locs1 ls ⟨⟨fun i hi => (hg.1 i (by rcases hi with hi | hi; exact Or.inl (Nat.lt_of_lt_of_le hi hp.1.2.1); exact Or.inr hi)).trans (hp.1.1 i hi), Nat.le_trans hp.1.2.1 hg.2.1, fun he => by
      have h1 : sh.length = xn X := Nat.le_antisymm (by rw [← he]; exact hg.2.1) hp.1.2.1
      rw [hg.2.2.1 (by rw [he, h1])]
      exact hp.1.2.2.1 h1, hg.2.2.2⟩, hb, hd.weaken (fun _ _ _ h => px_AA hp _ h), hS, by rw [← px_l_ok hg.1 hv2]; exact hp.2.2.2.2⟩
  rw [List.map_append, ← px_map_ok hg.1 hv] at w2
  cases r <;> exact w2
theorem px_stk {ad : Nat → Nat} {i : Nat} {As : List Value} (hst : As.reverse ++ .ref i :: st = stk) : stk.map (px_v ad) = (As.map (px_v ad)).reverse ++ .ref (ad i) :: st.map (px_v ad) := by
  rw [← hst]
  simp [px_v]
theorem px_stkS {ad : Nat → Nat} {As : List Value} (hst : As.reverse ++ st = stk) : stk.map (px_v ad) = (As.map (px_v ad)).reverse ++ st.map (px_v ad) := by
  rw [← hst]
  simp
theorem px_rm (h : PXok X own cc d kc ks) (hM : MF M np) (hR : CR M d kc ks k n) : (px_room M.2.2.2.2.1 M.2.2.2.2.2.1 M.2.2.2.2.2.2).frames + 1 ≤ (xR X).frames ∧ 8 + (M.2.2.1 + 11) + (px_room M.2.2.2.2.1 M.2.2.2.2.2.1 M.2.2.2.2.2.2).locals ≤ (xR X).locals := by
  have h1 := h.2.2.2.2.2.1
  have h2 := h.2.2.2.2.2.2.1
  have h3 := hM.2.2.2.2
  have h4 := hR.1
  show M.2.2.2.2.1 + 1 ≤ _ ∧ 8 + (M.2.2.1 + 11) + 36 * M.2.2.2.2.1 ≤ _
  omega
theorem px_cb (h : PXok X own cc d kc ks) (hM : MF M np) (hR : CR M d kc ks k n) (hl : Cond.methodLink own ix M.1 ∈ TW) : CallB (xR X) (xs X) (xa X) own ix M.1 M.2.1 M.2.2.1 M.2.2.2.1 (px_ws M) (px_room M.2.2.2.2.1 M.2.2.2.2.2.1 M.2.2.2.2.2.2) M.2.2.2.2.2.1 M.2.2.2.2.2.2 np :=
  callB_of np h.2.2.1 (px_ws_good hM) rfl rfl rfl (h.2.2.1 _ hM.2.2.2.1) (h.2.2.1 _ hl) hM.2.1 (px_rm h hM hR)
theorem pw_callV {i ci : Nat} {As : List Value} (h : PXok X own cc d kc ks) (dc : Dc cc pc (.invokevirtual ix) 3 q) (hM : MF M np) (hI : MI M ci) (hl : Cond.methodLink own ix M.1 ∈ TW) (hR : CR M d kc ks k n) (hs : sh[i]? = some (.inl ci)) (hst : As.reverse ++ .ref i :: st = stk) (hn : As.length = np) (hcat : (st.map fun v => v.category).sum ≤ 8) (hnL : True)
    (hc : PMet M (.ref i :: As) sh I L R Post) (kk : PKk X q lv st sh (k + M.2.2.2.2.2.1) (n + M.2.2.2.2.2.2) Post) : PW X pc lv stk sh I L R k n := by
  intro ad H locs ls hp
  rw [px_stk hst]
  have hcls : (px_C ci) = M.1.cls := hI.2.1
  refine px_go hp dc.2 (va_runV (As := As.map (px_v ad)) (b := ad i) (C := M.1.cls) (n := np) (nL := (xc X).maxLocals) ⟨h.1, h.2.1, rfl, h.2.2.2.1, h.2.2.1⟩ (hc (xl X) (xD X) (xA X) ad H.size) ⟨px_cb h hM hR hl, h.2.2.1 _ hI.2.2.1, h.2.2.1 _ hI.2.2.2⟩ ⟨px_blind, ?_, fun U hU hW => ⟨rfl, px_pre h hp U hU hW⟩⟩ rfl (by rw [List.length_map]; exact hn) hp.2.2.2.2.1 rfl (lv_room (by rw [px_catsum]; exact hcat)) dc.1 ?_) kk
  · rw [← hcls]
    exact va_recv h.2.2.2.2.1.1 hp.2.1 (px_cl hI.1) (px_get hs)
  · exact ⟨Nat.le_trans hR.2.1 h.2.2.2.2.2.2.2.1, Nat.le_trans hR.2.2 h.2.2.2.2.2.2.2.2⟩
theorem pw_callS {As : List Value} (h : PXok X own cc d kc ks) (dc : Dc cc pc (.invokestatic ix) 3 q) (hM : MF M np) (hS : Cond.static M.1 ∈ TW) (hl : Cond.methodLink own ix M.1 ∈ TW) (hR : CR M d kc ks k n) (hst : As.reverse ++ st = stk) (hn : As.length = np) (hcat : (st.map fun v => v.category).sum ≤ 8)
    (hc : PMet M As sh I L R Post) (kk : PKk X q lv st sh (k + M.2.2.2.2.2.1) (n + M.2.2.2.2.2.2) Post) : PW X pc lv stk sh I L R k n := by
  intro ad H locs ls hp
  rw [px_stkS hst]
  refine px_go hp dc.2 (va_runS (As := As.map (px_v ad)) (n := np) (nL := (xc X).maxLocals) ⟨h.1, h.2.1, rfl, h.2.2.2.1, h.2.2.1⟩ (hc (xl X) (xD X) (xA X) ad H.size) ⟨px_cb h hM hR hl, h.2.2.1 _ hS⟩ ⟨px_blind, fun U hU hW => ⟨rfl, px_pre h hp U hU hW⟩⟩ rfl (by rw [List.length_map]; exact hn) hp.2.2.2.2.1 rfl (lv_room (by rw [px_catsum]; exact hcat)) dc.1 ?_) kk
  exact ⟨Nat.le_trans hR.2.1 h.2.2.2.2.2.2.2.1, Nat.le_trans hR.2.2 h.2.2.2.2.2.2.2.2⟩
theorem px_cn {host : String} (h : PXok X own cc d kc ks) (hM : MF M np) (hR : CR M d kc ks k n) (hl : (own, ix, M.1, host) ∈ px_nw) : va_CN (xR X) (xs X) (xa X) own ix M.1 host M.2.1 M.2.2.1 M.2.2.2.1 (px_ws M) (px_room M.2.2.2.2.1 M.2.2.2.2.2.1 M.2.2.2.2.2.2) M.2.2.2.2.2.1 M.2.2.2.2.2.2 np :=
  va_cnB np h.2.2.1 (px_ws_good hM) rfl rfl rfl (h.2.2.2.2.1.2.1 _ hl) (h.2.2.1 _ hM.2.2.2.1) hM.2.1 (px_rm h hM hR)
theorem pw_callSN {As : List Value} {host : String} (h : PXok X own cc d kc ks) (dc : Dc cc pc (.invokestatic ix) 3 q) (hM : MF M np) (hS : Cond.static M.1 ∈ TW) (hl : (own, ix, M.1, host) ∈ px_nw) (hR : CR M d kc ks k n) (hst : As.reverse ++ st = stk) (hn : As.length = np) (hcat : (st.map fun v => v.category).sum ≤ 8)
    (hc : PMet M As sh I L R Post) (kk : PKk X q lv st sh (k + M.2.2.2.2.2.1) (n + M.2.2.2.2.2.2) Post) : PW X pc lv stk sh I L R k n := by
  intro ad H locs ls hp
  rw [px_stkS hst]
  refine px_go hp dc.2 (va_runSN (As := As.map (px_v ad)) (n := np) (nL := (xc X).maxLocals) ⟨h.1, h.2.1, rfl, h.2.2.2.1, h.2.2.1⟩ (hc (xl X) (xD X) (xA X) ad H.size) ⟨px_cn h hM hR hl, h.2.2.1 _ hS, trivial⟩ ⟨px_blind, fun U hU hW => ⟨rfl, px_pre h hp U hU hW⟩⟩ rfl (by rw [List.length_map]; exact hn) hp.2.2.2.2.1 rfl (lv_room (by rw [px_catsum]; exact hcat)) dc.1 ?_) kk
  exact ⟨Nat.le_trans hR.2.1 h.2.2.2.2.2.2.2.1, Nat.le_trans hR.2.2 h.2.2.2.2.2.2.2.2⟩
/-- a constructor of a nest mate: it makes cells -/
theorem pw_callIN {i : Nat} {As : List Value} {host : String} (h : PXok X own cc d kc ks) (dc : Dc cc pc (.invokespecial ix) 3 q) (hM : MF M np) (hret : M.2.2.2.1 = none) (hnm : M.1.name = "<init>") (him : Cond.instanceMethod M.1 ∈ TW) (hl : (own, ix, M.1, host) ∈ px_nw) (hR : CR M d kc ks k n) (hst : As.reverse ++ .ref i :: st = stk) (hn : As.length = np) (hcat : (st.map fun v => v.category).sum ≤ 8) (hv : ∀ v ∈ st, px_rok sh.length v) (hv2 : ∀ q ∈ lv, px_rok sh.length q.2)
    (hc : PMet M (.ref i :: As) sh I L R Post) (kk : PKn X q lv st (k + M.2.2.2.2.2.1) (n + M.2.2.2.2.2.2) Post) : PW X pc lv stk sh I L R k n := by
  intro ad H locs ls hp
  rw [px_stk hst]
  have hb := px_cn h hM hR hl
  rw [hret] at hb
  refine px_goN hp dc.2 hv hv2 (va_runIN (As := As.map (px_v ad)) (b := ad i) (n := np) (nL := (xc X).maxLocals) ⟨h.1, h.2.1, rfl, h.2.2.2.1, h.2.2.1⟩ (hc (xl X) (xD X) (xA X) ad H.size) ⟨hb, hnm, h.2.2.1 _ him⟩ ⟨px_blind, fun U hU hW => ⟨rfl, px_pre h hp U hU hW⟩⟩ rfl (by rw [List.length_map]; exact hn) hp.2.2.2.2.1 rfl (lv_room (by rw [px_catsum]; exact hcat)) dc.1 ?_) kk
  exact ⟨Nat.le_trans hR.2.1 h.2.2.2.2.2.2.2.1, Nat.le_trans hR.2.2 h.2.2.2.2.2.2.2.2⟩
theorem pw_callI {i : Nat} {As : List Value} (h : PXok X own cc d kc ks) (dc : Dc cc pc (.invokespecial ix) 3 q) (hM : MF M np) (hret : M.2.2.2.1 = none) (hnm : M.1.name = "<init>") (him : Cond.instanceMethod M.1 ∈ TW) (hl : Cond.methodLink own ix M.1 ∈ TW) (hR : CR M d kc ks k n) (hst : As.reverse ++ .ref i :: st = stk) (hn : As.length = np) (hcat : (st.map fun v => v.category).sum ≤ 8) (hv : ∀ v ∈ st, px_rok sh.length v) (hv2 : ∀ q ∈ lv, px_rok sh.length q.2)
    (hc : PMet M (.ref i :: As) sh I L R Post) (kk : PKn X q lv st (k + M.2.2.2.2.2.1) (n + M.2.2.2.2.2.2) Post) : PW X pc lv stk sh I L R k n := by
  intro ad H locs ls hp
  rw [px_stk hst]
  have hb := px_cb h hM hR hl
  rw [hret] at hb
  refine px_goN hp dc.2 hv hv2 (va_runI (As := As.map (px_v ad)) (b := ad i) (n := np) (nL := (xc X).maxLocals) ⟨h.1, h.2.1, rfl, h.2.2.2.1, h.2.2.1⟩ (hc (xl X) (xD X) (xA X) ad H.size) ⟨hb, hnm, h.2.2.1 _ him⟩ ⟨px_blind, fun U hU hW => ⟨rfl, px_pre h hp U hU hW⟩⟩ rfl (by rw [List.length_map]; exact hn) hp.2.2.2.2.1 rfl (lv_room (by rw [px_catsum]; exact hcat)) dc.1 ?_) kk
  exact ⟨Nat.le_trans hR.2.1 h.2.2.2.2.2.2.2.1, Nat.le_trans hR.2.2 h.2.2.2.2.2.2.2.2⟩
theorem pw_iret {ty : FieldType} {nm : String} {v : Int32} (h : PXok X own cc d kc ks) (r : PXr X (some ty) nm Post kc ks) (dc : Dc cc pc .ireturn 1 q) (hn : narrow ty (.int v) = .int v) (hk : k ≤ kc) (hks : n ≤ ks) (hp : Post (some (.int v)) sh I L R) : PW X pc lv [.int v] sh I L R k n := by
  intro ad H locs ls hh
  have e : xW X H locs k n (F0 (xm X) pc ls [.int v]) := by
    unfold xW
    rw [r.1]
    refine W.widen hk hks ?_
    exact W.zret h.1 h.2.1 r.2.1 hn (fun t ht hW => ⟨⟨some (.int v), sh, I, L, R, ad, rfl, hp, hh.1, by rw [ht]; exact hh.2.1, hh.2.2.1⟩, hh.2.2.2.1.F ht⟩) hh.2.2.2.1.2.2 dc.1 r.2.2.1
  exact e
theorem pw_lret {nm : String} {v : Int64} (h : PXok X own cc d kc ks) (r : PXr X (some .long) nm Post kc ks) (dc : Dc cc pc .lreturn 1 q) (hk : k ≤ kc) (hks : n ≤ ks) (hp : Post (some (.long v)) sh I L R) : PW X pc lv [.long v] sh I L R k n := by
  intro ad H locs ls hh
  have e : xW X H locs k n (F0 (xm X) pc ls [.long v]) := by
    unfold xW
    rw [r.1]
    refine W.widen hk hks ?_
    exact W.lret h.1 h.2.1 r.2.1 (fun t ht hW => ⟨⟨some (.long v), sh, I, L, R, ad, rfl, hp, hh.1, by rw [ht]; exact hh.2.1, hh.2.2.1⟩, hh.2.2.2.1.F ht⟩) hh.2.2.2.1.2.2 dc.1 r.2.2.1
  exact e
theorem pw_vret {nm : String} (h : PXok X own cc d kc ks) (r : PXr X none nm Post kc ks) (dc : Dc cc pc .return_ 1 q) (hk : k ≤ kc) (hks : n ≤ ks) (hp : Post none sh I L R) : PW X pc lv [] sh I L R k n := by
  intro ad H locs ls hh
  have e : xW X H locs k n (F0 (xm X) pc ls []) := by
    unfold xW
    rw [r.1]
    refine W.widen hk hks ?_
    exact W.vret h.1 h.2.1 r.2.1 (fun t ht hW => ⟨⟨none, sh, I, L, R, ad, rfl, hp, hh.1, by rw [ht]; exact hh.2.1, hh.2.2.1⟩, hh.2.2.2.1.F ht⟩) hh.2.2.2.1.2.2 dc.1 r.2.2.1
  exact e
end PXD
end
