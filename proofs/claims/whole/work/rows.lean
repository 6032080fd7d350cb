section
-- ===== PART A: goes FIRST, ahead of the names: the tables' words, and 'selects' of the private methods out of them =====
/-- a private method of a class that the tables say can be made, by its rows of tables_1 -/
def lw_okq (q : MethodName × Nat) : Prop := (q.1.cls ≠ "java/lang/invoke/MethodHandle" ∧ q.1.cls ≠ "java/lang/invoke/VarHandle") ∧ Cond.instantiable q.1.cls q.2 ∈ tables_1 ∧ Cond.privateMethod q.1 ∈ tables_1 ∧ Cond.instanceMethod q.1 ∈ tables_1
theorem lw_p0 : lw_okq (⟨"CutTrail$Trail", "draw", "(I)V"⟩, 7) := ⟨⟨by decide +kernel, by decide +kernel⟩, List.mem_of_getElem? (i := 120) (by decide +kernel), List.mem_of_getElem? (i := 130) (by decide +kernel), List.mem_of_getElem? (i := 131) (by decide +kernel)⟩
theorem lw_p1 : lw_okq (⟨"CutTrail$Text", "canStand", "(I)Z"⟩, 2) := ⟨⟨by decide +kernel, by decide +kernel⟩, List.mem_of_getElem? (i := 77) (by decide +kernel), List.mem_of_getElem? (i := 345) (by decide +kernel), List.mem_of_getElem? (i := 346) (by decide +kernel)⟩
theorem lw_p2 : lw_okq (⟨"CutTrail$Text", "numbersTold", "()I"⟩, 2) := ⟨⟨by decide +kernel, by decide +kernel⟩, List.mem_of_getElem? (i := 77) (by decide +kernel), List.mem_of_getElem? (i := 349) (by decide +kernel), List.mem_of_getElem? (i := 350) (by decide +kernel)⟩
theorem lw_p3 : lw_okq (⟨"CutTrail$Text", "canStandInRule", "(III)Z"⟩, 2) := ⟨⟨by decide +kernel, by decide +kernel⟩, List.mem_of_getElem? (i := 77) (by decide +kernel), List.mem_of_getElem? (i := 362) (by decide +kernel), List.mem_of_getElem? (i := 363) (by decide +kernel)⟩
theorem lw_p4 : lw_okq (⟨"CutTrail$Text", "isWhole", "()Z"⟩, 2) := ⟨⟨by decide +kernel, by decide +kernel⟩, List.mem_of_getElem? (i := 77) (by decide +kernel), List.mem_of_getElem? (i := 366) (by decide +kernel), List.mem_of_getElem? (i := 367) (by decide +kernel)⟩
theorem lw_p5 : lw_okq (⟨"CutTrail$Text", "tellRule", "(LCutTrail$Task;II)V"⟩, 2) := ⟨⟨by decide +kernel, by decide +kernel⟩, List.mem_of_getElem? (i := 77) (by decide +kernel), List.mem_of_getElem? (i := 378) (by decide +kernel), List.mem_of_getElem? (i := 379) (by decide +kernel)⟩
theorem lw_p6 : lw_okq (⟨"CutTrail$State", "cutBreaks", "(I)Z"⟩, 4) := ⟨⟨by decide +kernel, by decide +kernel⟩, List.mem_of_getElem? (i := 91) (by decide +kernel), List.mem_of_getElem? (i := 406) (by decide +kernel), List.mem_of_getElem? (i := 407) (by decide +kernel)⟩
theorem lw_p7 : lw_okq (⟨"CutTrail$State", "drawOne", "()Z"⟩, 4) := ⟨⟨by decide +kernel, by decide +kernel⟩, List.mem_of_getElem? (i := 91) (by decide +kernel), List.mem_of_getElem? (i := 418) (by decide +kernel), List.mem_of_getElem? (i := 419) (by decide +kernel)⟩
theorem lw_p8 : lw_okq (⟨"CutTrail$State", "toldByRule", "(I)I"⟩, 4) := ⟨⟨by decide +kernel, by decide +kernel⟩, List.mem_of_getElem? (i := 91) (by decide +kernel), List.mem_of_getElem? (i := 422) (by decide +kernel), List.mem_of_getElem? (i := 423) (by decide +kernel)⟩
theorem lw_p9 : lw_okq (⟨"CutTrail$State", "toldByCut", "(I)I"⟩, 4) := ⟨⟨by decide +kernel, by decide +kernel⟩, List.mem_of_getElem? (i := 91) (by decide +kernel), List.mem_of_getElem? (i := 437) (by decide +kernel), List.mem_of_getElem? (i := 438) (by decide +kernel)⟩
theorem lw_p10 : lw_okq (⟨"CutTrail$Ways", "openBox", "()V"⟩, 3) := ⟨⟨by decide +kernel, by decide +kernel⟩, List.mem_of_getElem? (i := 258) (by decide +kernel), List.mem_of_getElem? (i := 466) (by decide +kernel), List.mem_of_getElem? (i := 467) (by decide +kernel)⟩
theorem lw_p11 : lw_okq (⟨"CutTrail$Ways", "countInBox", "()I"⟩, 3) := ⟨⟨by decide +kernel, by decide +kernel⟩, List.mem_of_getElem? (i := 258) (by decide +kernel), List.mem_of_getElem? (i := 470) (by decide +kernel), List.mem_of_getElem? (i := 471) (by decide +kernel)⟩
theorem lw_p12 : lw_okq (⟨"CutTrail$Ways", "countOfLast", "(III)I"⟩, 3) := ⟨⟨by decide +kernel, by decide +kernel⟩, List.mem_of_getElem? (i := 258) (by decide +kernel), List.mem_of_getElem? (i := 474) (by decide +kernel), List.mem_of_getElem? (i := 475) (by decide +kernel)⟩
theorem lw_p13 : lw_okq (⟨"CutTrail$Tracer", "lookUpWhy", "(LCutTrail$State;III)V"⟩, 2) := ⟨⟨by decide +kernel, by decide +kernel⟩, List.mem_of_getElem? (i := 190) (by decide +kernel), List.mem_of_getElem? (i := 516) (by decide +kernel), List.mem_of_getElem? (i := 517) (by decide +kernel)⟩
theorem lw_p14 : lw_okq (⟨"CutTrail$Tracer", "lookUpByRule", "(LCutTrail$State;III)V"⟩, 2) := ⟨⟨by decide +kernel, by decide +kernel⟩, List.mem_of_getElem? (i := 190) (by decide +kernel), List.mem_of_getElem? (i := 521) (by decide +kernel), List.mem_of_getElem? (i := 522) (by decide +kernel)⟩
theorem lw_p15 : lw_okq (⟨"CutTrail$Tracer", "lookUpByCut", "(LCutTrail$State;III)V"⟩, 2) := ⟨⟨by decide +kernel, by decide +kernel⟩, List.mem_of_getElem? (i := 190) (by decide +kernel), List.mem_of_getElem? (i := 534) (by decide +kernel), List.mem_of_getElem? (i := 535) (by decide +kernel)⟩
def lw_privs_1 : List (MethodName × Nat) := [(⟨"CutTrail$Trail", "draw", "(I)V"⟩, 7), (⟨"CutTrail$Text", "canStand", "(I)Z"⟩, 2), (⟨"CutTrail$Text", "numbersTold", "()I"⟩, 2), (⟨"CutTrail$Text", "canStandInRule", "(III)Z"⟩, 2), (⟨"CutTrail$Text", "isWhole", "()Z"⟩, 2), (⟨"CutTrail$Text", "tellRule", "(LCutTrail$Task;II)V"⟩, 2), (⟨"CutTrail$State", "cutBreaks", "(I)Z"⟩, 4), (⟨"CutTrail$State", "drawOne", "()Z"⟩, 4), (⟨"CutTrail$State", "toldByRule", "(I)I"⟩, 4), (⟨"CutTrail$State", "toldByCut", "(I)I"⟩, 4), (⟨"CutTrail$Ways", "openBox", "()V"⟩, 3), (⟨"CutTrail$Ways", "countInBox", "()I"⟩, 3), (⟨"CutTrail$Ways", "countOfLast", "(III)I"⟩, 3), (⟨"CutTrail$Tracer", "lookUpWhy", "(LCutTrail$State;III)V"⟩, 2), (⟨"CutTrail$Tracer", "lookUpByRule", "(LCutTrail$State;III)V"⟩, 2), (⟨"CutTrail$Tracer", "lookUpByCut", "(LCutTrail$State;III)V"⟩, 2)]
theorem lw_r1 : ∀ q ∈ lw_privs_1, lw_okq q := List.forall_mem_cons.mpr ⟨lw_p0, List.forall_mem_cons.mpr ⟨lw_p1, List.forall_mem_cons.mpr ⟨lw_p2, List.forall_mem_cons.mpr ⟨lw_p3, List.forall_mem_cons.mpr ⟨lw_p4, List.forall_mem_cons.mpr ⟨lw_p5, List.forall_mem_cons.mpr ⟨lw_p6, List.forall_mem_cons.mpr ⟨lw_p7, List.forall_mem_cons.mpr ⟨lw_p8, List.forall_mem_cons.mpr ⟨lw_p9, List.forall_mem_cons.mpr ⟨lw_p10, List.forall_mem_cons.mpr ⟨lw_p11, List.forall_mem_cons.mpr ⟨lw_p12, List.forall_mem_cons.mpr ⟨lw_p13, List.forall_mem_cons.mpr ⟨lw_p14, List.forall_mem_cons.mpr ⟨lw_p15, fun _ h => absurd h List.not_mem_nil⟩⟩⟩⟩⟩⟩⟩⟩⟩⟩⟩⟩⟩⟩⟩⟩
theorem lw_p16 : lw_okq (⟨"CutTrail$Ways", "hold", "(IZ)V"⟩, 3) := ⟨⟨by decide +kernel, by decide +kernel⟩, List.mem_of_getElem? (i := 258) (by decide +kernel), List.mem_of_getElem? (i := 558) (by decide +kernel), List.mem_of_getElem? (i := 559) (by decide +kernel)⟩
theorem lw_p17 : lw_okq (⟨"CutTrail$Acts", "forgetFirst", "()V"⟩, 2) := ⟨⟨by decide +kernel, by decide +kernel⟩, List.mem_of_getElem? (i := 203) (by decide +kernel), List.mem_of_getElem? (i := 582) (by decide +kernel), List.mem_of_getElem? (i := 583) (by decide +kernel)⟩
theorem lw_p18 : lw_okq (⟨"CutTrail$Tracer", "takeWhyIn", "(LCutTrail$Trail;)V"⟩, 2) := ⟨⟨by decide +kernel, by decide +kernel⟩, List.mem_of_getElem? (i := 190) (by decide +kernel), List.mem_of_getElem? (i := 620) (by decide +kernel), List.mem_of_getElem? (i := 621) (by decide +kernel)⟩
theorem lw_p19 : lw_okq (⟨"CutTrail$Tracer", "traceLast", "(LCutTrail$State;)Z"⟩, 2) := ⟨⟨by decide +kernel, by decide +kernel⟩, List.mem_of_getElem? (i := 190) (by decide +kernel), List.mem_of_getElem? (i := 625) (by decide +kernel), List.mem_of_getElem? (i := 626) (by decide +kernel)⟩
theorem lw_p20 : lw_okq (⟨"CutTrail$Tracer", "greatestBelow", "(I)I"⟩, 2) := ⟨⟨by decide +kernel, by decide +kernel⟩, List.mem_of_getElem? (i := 190) (by decide +kernel), List.mem_of_getElem? (i := 629) (by decide +kernel), List.mem_of_getElem? (i := 630) (by decide +kernel)⟩
theorem lw_p21 : lw_okq (⟨"CutTrail$Tracer", "addCut", "(LCutTrail$State;)I"⟩, 2) := ⟨⟨by decide +kernel, by decide +kernel⟩, List.mem_of_getElem? (i := 190) (by decide +kernel), List.mem_of_getElem? (i := 633) (by decide +kernel), List.mem_of_getElem? (i := 634) (by decide +kernel)⟩
theorem lw_p22 : lw_okq (⟨"CutTrail", "oneStep", "()Z"⟩, 11) := ⟨⟨by decide +kernel, by decide +kernel⟩, List.mem_of_getElem? (i := 18) (by decide +kernel), List.mem_of_getElem? (i := 679) (by decide +kernel), List.mem_of_getElem? (i := 680) (by decide +kernel)⟩
theorem lw_p23 : lw_okq (⟨"CutTrail", "canBe", "(I)Z"⟩, 11) := ⟨⟨by decide +kernel, by decide +kernel⟩, List.mem_of_getElem? (i := 18) (by decide +kernel), List.mem_of_getElem? (i := 698) (by decide +kernel), List.mem_of_getElem? (i := 699) (by decide +kernel)⟩
theorem lw_p24 : lw_okq (⟨"CutTrail$Chances", "countAll", "()V"⟩, 3) := ⟨⟨by decide +kernel, by decide +kernel⟩, List.mem_of_getElem? (i := 274) (by decide +kernel), List.mem_of_getElem? (i := 731) (by decide +kernel), List.mem_of_getElem? (i := 732) (by decide +kernel)⟩
theorem lw_p25 : lw_okq (⟨"CutTrail$Chances", "brokenBy", "(IIII)I"⟩, 3) := ⟨⟨by decide +kernel, by decide +kernel⟩, List.mem_of_getElem? (i := 274) (by decide +kernel), List.mem_of_getElem? (i := 735) (by decide +kernel), List.mem_of_getElem? (i := 736) (by decide +kernel)⟩
theorem lw_p26 : lw_okq (⟨"CutTrail$Chances", "addSmallerSets", "()V"⟩, 3) := ⟨⟨by decide +kernel, by decide +kernel⟩, List.mem_of_getElem? (i := 274) (by decide +kernel), List.mem_of_getElem? (i := 739) (by decide +kernel), List.mem_of_getElem? (i := 740) (by decide +kernel)⟩
theorem lw_p27 : lw_okq (⟨"CutTrail$Chances", "weightOf", "(II)I"⟩, 3) := ⟨⟨by decide +kernel, by decide +kernel⟩, List.mem_of_getElem? (i := 274) (by decide +kernel), List.mem_of_getElem? (i := 766) (by decide +kernel), List.mem_of_getElem? (i := 767) (by decide +kernel)⟩
theorem lw_p28 : lw_okq (⟨"CutTrail", "drawOnTrial", "(I)V"⟩, 11) := ⟨⟨by decide +kernel, by decide +kernel⟩, List.mem_of_getElem? (i := 18) (by decide +kernel), List.mem_of_getElem? (i := 780) (by decide +kernel), List.mem_of_getElem? (i := 781) (by decide +kernel)⟩
theorem lw_p29 : lw_okq (⟨"CutTrailModel", "readText", "()I"⟩, 31) := ⟨⟨by decide +kernel, by decide +kernel⟩, List.mem_of_getElem? (i := 801) (by decide +kernel), List.mem_of_getElem? (i := 917) (by decide +kernel), List.mem_of_getElem? (i := 918) (by decide +kernel)⟩
theorem lw_p30 : lw_okq (⟨"CutTrailModel", "takeHead", "(II)Z"⟩, 31) := ⟨⟨by decide +kernel, by decide +kernel⟩, List.mem_of_getElem? (i := 801) (by decide +kernel), List.mem_of_getElem? (i := 921) (by decide +kernel), List.mem_of_getElem? (i := 922) (by decide +kernel)⟩
theorem lw_p31 : lw_okq (⟨"CutTrailModel", "takeOfRule", "(I)Z"⟩, 31) := ⟨⟨by decide +kernel, by decide +kernel⟩, List.mem_of_getElem? (i := 801) (by decide +kernel), List.mem_of_getElem? (i := 927) (by decide +kernel), List.mem_of_getElem? (i := 928) (by decide +kernel)⟩
def lw_privs_2 : List (MethodName × Nat) := [(⟨"CutTrail$Ways", "hold", "(IZ)V"⟩, 3), (⟨"CutTrail$Acts", "forgetFirst", "()V"⟩, 2), (⟨"CutTrail$Tracer", "takeWhyIn", "(LCutTrail$Trail;)V"⟩, 2), (⟨"CutTrail$Tracer", "traceLast", "(LCutTrail$State;)Z"⟩, 2), (⟨"CutTrail$Tracer", "greatestBelow", "(I)I"⟩, 2), (⟨"CutTrail$Tracer", "addCut", "(LCutTrail$State;)I"⟩, 2), (⟨"CutTrail", "oneStep", "()Z"⟩, 11), (⟨"CutTrail", "canBe", "(I)Z"⟩, 11), (⟨"CutTrail$Chances", "countAll", "()V"⟩, 3), (⟨"CutTrail$Chances", "brokenBy", "(IIII)I"⟩, 3), (⟨"CutTrail$Chances", "addSmallerSets", "()V"⟩, 3), (⟨"CutTrail$Chances", "weightOf", "(II)I"⟩, 3), (⟨"CutTrail", "drawOnTrial", "(I)V"⟩, 11), (⟨"CutTrailModel", "readText", "()I"⟩, 31), (⟨"CutTrailModel", "takeHead", "(II)Z"⟩, 31), (⟨"CutTrailModel", "takeOfRule", "(I)Z"⟩, 31)]
theorem lw_r2 : ∀ q ∈ lw_privs_2, lw_okq q := List.forall_mem_cons.mpr ⟨lw_p16, List.forall_mem_cons.mpr ⟨lw_p17, List.forall_mem_cons.mpr ⟨lw_p18, List.forall_mem_cons.mpr ⟨lw_p19, List.forall_mem_cons.mpr ⟨lw_p20, List.forall_mem_cons.mpr ⟨lw_p21, List.forall_mem_cons.mpr ⟨lw_p22, List.forall_mem_cons.mpr ⟨lw_p23, List.forall_mem_cons.mpr ⟨lw_p24, List.forall_mem_cons.mpr ⟨lw_p25, List.forall_mem_cons.mpr ⟨lw_p26, List.forall_mem_cons.mpr ⟨lw_p27, List.forall_mem_cons.mpr ⟨lw_p28, List.forall_mem_cons.mpr ⟨lw_p29, List.forall_mem_cons.mpr ⟨lw_p30, List.forall_mem_cons.mpr ⟨lw_p31, fun _ h => absurd h List.not_mem_nil⟩⟩⟩⟩⟩⟩⟩⟩⟩⟩⟩⟩⟩⟩⟩⟩
theorem lw_p32 : lw_okq (⟨"CutTrailModel", "drawIn", "([I)V"⟩, 31) := ⟨⟨by decide +kernel, by decide +kernel⟩, List.mem_of_getElem? (i := 801) (by decide +kernel), List.mem_of_getElem? (i := 940) (by decide +kernel), List.mem_of_getElem? (i := 941) (by decide +kernel)⟩
theorem lw_p33 : lw_okq (⟨"CutTrailModel", "breakOf", "([I)I"⟩, 31) := ⟨⟨by decide +kernel, by decide +kernel⟩, List.mem_of_getElem? (i := 801) (by decide +kernel), List.mem_of_getElem? (i := 944) (by decide +kernel), List.mem_of_getElem? (i := 945) (by decide +kernel)⟩
theorem lw_p34 : lw_okq (⟨"CutTrailModel", "leastOf", "([II)I"⟩, 31) := ⟨⟨by decide +kernel, by decide +kernel⟩, List.mem_of_getElem? (i := 801) (by decide +kernel), List.mem_of_getElem? (i := 948) (by decide +kernel), List.mem_of_getElem? (i := 949) (by decide +kernel)⟩
theorem lw_p35 : lw_okq (⟨"CutTrailModel", "weightOf", "(II)I"⟩, 31) := ⟨⟨by decide +kernel, by decide +kernel⟩, List.mem_of_getElem? (i := 801) (by decide +kernel), List.mem_of_getElem? (i := 952) (by decide +kernel), List.mem_of_getElem? (i := 953) (by decide +kernel)⟩
theorem lw_p36 : lw_okq (⟨"CutTrailModel", "low", "([II)I"⟩, 31) := ⟨⟨by decide +kernel, by decide +kernel⟩, List.mem_of_getElem? (i := 801) (by decide +kernel), List.mem_of_getElem? (i := 956) (by decide +kernel), List.mem_of_getElem? (i := 957) (by decide +kernel)⟩
theorem lw_p37 : lw_okq (⟨"CutTrailModel", "lowAt", "([III)I"⟩, 31) := ⟨⟨by decide +kernel, by decide +kernel⟩, List.mem_of_getElem? (i := 801) (by decide +kernel), List.mem_of_getElem? (i := 960) (by decide +kernel), List.mem_of_getElem? (i := 961) (by decide +kernel)⟩
theorem lw_p38 : lw_okq (⟨"CutTrailModel", "high", "([II)I"⟩, 31) := ⟨⟨by decide +kernel, by decide +kernel⟩, List.mem_of_getElem? (i := 801) (by decide +kernel), List.mem_of_getElem? (i := 964) (by decide +kernel), List.mem_of_getElem? (i := 965) (by decide +kernel)⟩
theorem lw_p39 : lw_okq (⟨"CutTrailModel", "highAt", "([III)I"⟩, 31) := ⟨⟨by decide +kernel, by decide +kernel⟩, List.mem_of_getElem? (i := 801) (by decide +kernel), List.mem_of_getElem? (i := 968) (by decide +kernel), List.mem_of_getElem? (i := 969) (by decide +kernel)⟩
theorem lw_p40 : lw_okq (⟨"CutTrailModel", "areSo", "([II)I"⟩, 31) := ⟨⟨by decide +kernel, by decide +kernel⟩, List.mem_of_getElem? (i := 801) (by decide +kernel), List.mem_of_getElem? (i := 972) (by decide +kernel), List.mem_of_getElem? (i := 973) (by decide +kernel)⟩
theorem lw_p41 : lw_okq (⟨"CutTrailModel", "cutMark", "([III)I"⟩, 31) := ⟨⟨by decide +kernel, by decide +kernel⟩, List.mem_of_getElem? (i := 801) (by decide +kernel), List.mem_of_getElem? (i := 976) (by decide +kernel), List.mem_of_getElem? (i := 977) (by decide +kernel)⟩
theorem lw_p42 : lw_okq (⟨"CutTrailModel", "isSo", "([II)Z"⟩, 31) := ⟨⟨by decide +kernel, by decide +kernel⟩, List.mem_of_getElem? (i := 801) (by decide +kernel), List.mem_of_getElem? (i := 980) (by decide +kernel), List.mem_of_getElem? (i := 981) (by decide +kernel)⟩
theorem lw_p43 : lw_okq (⟨"CutTrailModel", "tells", "([I)Z"⟩, 31) := ⟨⟨by decide +kernel, by decide +kernel⟩, List.mem_of_getElem? (i := 801) (by decide +kernel), List.mem_of_getElem? (i := 984) (by decide +kernel), List.mem_of_getElem? (i := 985) (by decide +kernel)⟩
theorem lw_p44 : lw_okq (⟨"CutTrailModel", "ruleTells", "([II)Z"⟩, 31) := ⟨⟨by decide +kernel, by decide +kernel⟩, List.mem_of_getElem? (i := 801) (by decide +kernel), List.mem_of_getElem? (i := 988) (by decide +kernel), List.mem_of_getElem? (i := 989) (by decide +kernel)⟩
theorem lw_p45 : lw_okq (⟨"CutTrailModel", "tell", "(II)Z"⟩, 31) := ⟨⟨by decide +kernel, by decide +kernel⟩, List.mem_of_getElem? (i := 801) (by decide +kernel), List.mem_of_getElem? (i := 995) (by decide +kernel), List.mem_of_getElem? (i := 996) (by decide +kernel)⟩
theorem lw_p46 : lw_okq (⟨"CutTrailModel", "cutTells", "([II)Z"⟩, 31) := ⟨⟨by decide +kernel, by decide +kernel⟩, List.mem_of_getElem? (i := 801) (by decide +kernel), List.mem_of_getElem? (i := 999) (by decide +kernel), List.mem_of_getElem? (i := 1000) (by decide +kernel)⟩
theorem lw_p47 : lw_okq (⟨"CutTrailModel", "isNotSo", "([II)Z"⟩, 31) := ⟨⟨by decide +kernel, by decide +kernel⟩, List.mem_of_getElem? (i := 801) (by decide +kernel), List.mem_of_getElem? (i := 1003) (by decide +kernel), List.mem_of_getElem? (i := 1004) (by decide +kernel)⟩
def lw_privs_3 : List (MethodName × Nat) := [(⟨"CutTrailModel", "drawIn", "([I)V"⟩, 31), (⟨"CutTrailModel", "breakOf", "([I)I"⟩, 31), (⟨"CutTrailModel", "leastOf", "([II)I"⟩, 31), (⟨"CutTrailModel", "weightOf", "(II)I"⟩, 31), (⟨"CutTrailModel", "low", "([II)I"⟩, 31), (⟨"CutTrailModel", "lowAt", "([III)I"⟩, 31), (⟨"CutTrailModel", "high", "([II)I"⟩, 31), (⟨"CutTrailModel", "highAt", "([III)I"⟩, 31), (⟨"CutTrailModel", "areSo", "([II)I"⟩, 31), (⟨"CutTrailModel", "cutMark", "([III)I"⟩, 31), (⟨"CutTrailModel", "isSo", "([II)Z"⟩, 31), (⟨"CutTrailModel", "tells", "([I)Z"⟩, 31), (⟨"CutTrailModel", "ruleTells", "([II)Z"⟩, 31), (⟨"CutTrailModel", "tell", "(II)Z"⟩, 31), (⟨"CutTrailModel", "cutTells", "([II)Z"⟩, 31), (⟨"CutTrailModel", "isNotSo", "([II)Z"⟩, 31)]
theorem lw_r3 : ∀ q ∈ lw_privs_3, lw_okq q := List.forall_mem_cons.mpr ⟨lw_p32, List.forall_mem_cons.mpr ⟨lw_p33, List.forall_mem_cons.mpr ⟨lw_p34, List.forall_mem_cons.mpr ⟨lw_p35, List.forall_mem_cons.mpr ⟨lw_p36, List.forall_mem_cons.mpr ⟨lw_p37, List.forall_mem_cons.mpr ⟨lw_p38, List.forall_mem_cons.mpr ⟨lw_p39, List.forall_mem_cons.mpr ⟨lw_p40, List.forall_mem_cons.mpr ⟨lw_p41, List.forall_mem_cons.mpr ⟨lw_p42, List.forall_mem_cons.mpr ⟨lw_p43, List.forall_mem_cons.mpr ⟨lw_p44, List.forall_mem_cons.mpr ⟨lw_p45, List.forall_mem_cons.mpr ⟨lw_p46, List.forall_mem_cons.mpr ⟨lw_p47, fun _ h => absurd h List.not_mem_nil⟩⟩⟩⟩⟩⟩⟩⟩⟩⟩⟩⟩⟩⟩⟩⟩
theorem lw_p48 : lw_okq (⟨"CutTrailModel", "levelOf", "([I)I"⟩, 31) := ⟨⟨by decide +kernel, by decide +kernel⟩, List.mem_of_getElem? (i := 801) (by decide +kernel), List.mem_of_getElem? (i := 1010) (by decide +kernel), List.mem_of_getElem? (i := 1011) (by decide +kernel)⟩
theorem lw_p49 : lw_okq (⟨"CutTrailModel", "append", "([IIII)V"⟩, 31) := ⟨⟨by decide +kernel, by decide +kernel⟩, List.mem_of_getElem? (i := 801) (by decide +kernel), List.mem_of_getElem? (i := 1014) (by decide +kernel), List.mem_of_getElem? (i := 1015) (by decide +kernel)⟩
theorem lw_p50 : lw_okq (⟨"CutTrailModel", "isSolved", "([I)Z"⟩, 31) := ⟨⟨by decide +kernel, by decide +kernel⟩, List.mem_of_getElem? (i := 801) (by decide +kernel), List.mem_of_getElem? (i := 1022) (by decide +kernel), List.mem_of_getElem? (i := 1023) (by decide +kernel)⟩
theorem lw_p51 : lw_okq (⟨"CutTrailModel", "openOf", "([I)I"⟩, 31) := ⟨⟨by decide +kernel, by decide +kernel⟩, List.mem_of_getElem? (i := 801) (by decide +kernel), List.mem_of_getElem? (i := 1026) (by decide +kernel), List.mem_of_getElem? (i := 1027) (by decide +kernel)⟩
theorem lw_p52 : lw_okq (⟨"CutTrailModel", "count", "(I)I"⟩, 31) := ⟨⟨by decide +kernel, by decide +kernel⟩, List.mem_of_getElem? (i := 801) (by decide +kernel), List.mem_of_getElem? (i := 1030) (by decide +kernel), List.mem_of_getElem? (i := 1031) (by decide +kernel)⟩
theorem lw_p53 : lw_okq (⟨"CutTrailModel", "layWay", "(I)Z"⟩, 31) := ⟨⟨by decide +kernel, by decide +kernel⟩, List.mem_of_getElem? (i := 801) (by decide +kernel), List.mem_of_getElem? (i := 1034) (by decide +kernel), List.mem_of_getElem? (i := 1035) (by decide +kernel)⟩
theorem lw_p54 : lw_okq (⟨"CutTrailModel", "broken", "()I"⟩, 31) := ⟨⟨by decide +kernel, by decide +kernel⟩, List.mem_of_getElem? (i := 801) (by decide +kernel), List.mem_of_getElem? (i := 1038) (by decide +kernel), List.mem_of_getElem? (i := 1039) (by decide +kernel)⟩
theorem lw_p55 : lw_okq (⟨"CutTrailModel", "isOpen", "()Z"⟩, 31) := ⟨⟨by decide +kernel, by decide +kernel⟩, List.mem_of_getElem? (i := 801) (by decide +kernel), List.mem_of_getElem? (i := 1042) (by decide +kernel), List.mem_of_getElem? (i := 1043) (by decide +kernel)⟩
theorem lw_p56 : lw_okq (⟨"CutTrailModel", "isSeen", "()Z"⟩, 31) := ⟨⟨by decide +kernel, by decide +kernel⟩, List.mem_of_getElem? (i := 801) (by decide +kernel), List.mem_of_getElem? (i := 1046) (by decide +kernel), List.mem_of_getElem? (i := 1047) (by decide +kernel)⟩
theorem lw_p57 : lw_okq (⟨"CutTrailModel", "isNumber", "(I)Z"⟩, 31) := ⟨⟨by decide +kernel, by decide +kernel⟩, List.mem_of_getElem? (i := 801) (by decide +kernel), List.mem_of_getElem? (i := 1050) (by decide +kernel), List.mem_of_getElem? (i := 1051) (by decide +kernel)⟩
theorem lw_p58 : lw_okq (⟨"CutTrailModel", "fits", "(I)Z"⟩, 31) := ⟨⟨by decide +kernel, by decide +kernel⟩, List.mem_of_getElem? (i := 801) (by decide +kernel), List.mem_of_getElem? (i := 1054) (by decide +kernel), List.mem_of_getElem? (i := 1055) (by decide +kernel)⟩
theorem lw_p59 : lw_okq (⟨"CutTrailModel", "leastOfAll", "(I)I"⟩, 31) := ⟨⟨by decide +kernel, by decide +kernel⟩, List.mem_of_getElem? (i := 801) (by decide +kernel), List.mem_of_getElem? (i := 1062) (by decide +kernel), List.mem_of_getElem? (i := 1063) (by decide +kernel)⟩
theorem lw_p60 : lw_okq (⟨"CutTrailModel", "whyOf", "([IIZ)I"⟩, 31) := ⟨⟨by decide +kernel, by decide +kernel⟩, List.mem_of_getElem? (i := 801) (by decide +kernel), List.mem_of_getElem? (i := 1075) (by decide +kernel), List.mem_of_getElem? (i := 1076) (by decide +kernel)⟩
theorem lw_p61 : lw_okq (⟨"CutTrailModel", "whyBy", "([IIIIZ)I"⟩, 31) := ⟨⟨by decide +kernel, by decide +kernel⟩, List.mem_of_getElem? (i := 801) (by decide +kernel), List.mem_of_getElem? (i := 1079) (by decide +kernel), List.mem_of_getElem? (i := 1080) (by decide +kernel)⟩
theorem lw_p62 : lw_okq (⟨"CutTrailModel", "lastOf", "([IIII)I"⟩, 31) := ⟨⟨by decide +kernel, by decide +kernel⟩, List.mem_of_getElem? (i := 801) (by decide +kernel), List.mem_of_getElem? (i := 1083) (by decide +kernel), List.mem_of_getElem? (i := 1084) (by decide +kernel)⟩
theorem lw_p63 : lw_okq (⟨"CutTrailModel", "comes", "([II)V"⟩, 31) := ⟨⟨by decide +kernel, by decide +kernel⟩, List.mem_of_getElem? (i := 801) (by decide +kernel), List.mem_of_getElem? (i := 1087) (by decide +kernel), List.mem_of_getElem? (i := 1088) (by decide +kernel)⟩
def lw_privs_4 : List (MethodName × Nat) := [(⟨"CutTrailModel", "levelOf", "([I)I"⟩, 31), (⟨"CutTrailModel", "append", "([IIII)V"⟩, 31), (⟨"CutTrailModel", "isSolved", "([I)Z"⟩, 31), (⟨"CutTrailModel", "openOf", "([I)I"⟩, 31), (⟨"CutTrailModel", "count", "(I)I"⟩, 31), (⟨"CutTrailModel", "layWay", "(I)Z"⟩, 31), (⟨"CutTrailModel", "broken", "()I"⟩, 31), (⟨"CutTrailModel", "isOpen", "()Z"⟩, 31), (⟨"CutTrailModel", "isSeen", "()Z"⟩, 31), (⟨"CutTrailModel", "isNumber", "(I)Z"⟩, 31), (⟨"CutTrailModel", "fits", "(I)Z"⟩, 31), (⟨"CutTrailModel", "leastOfAll", "(I)I"⟩, 31), (⟨"CutTrailModel", "whyOf", "([IIZ)I"⟩, 31), (⟨"CutTrailModel", "whyBy", "([IIIIZ)I"⟩, 31), (⟨"CutTrailModel", "lastOf", "([IIII)I"⟩, 31), (⟨"CutTrailModel", "comes", "([II)V"⟩, 31)]
theorem lw_r4 : ∀ q ∈ lw_privs_4, lw_okq q := List.forall_mem_cons.mpr ⟨lw_p48, List.forall_mem_cons.mpr ⟨lw_p49, List.forall_mem_cons.mpr ⟨lw_p50, List.forall_mem_cons.mpr ⟨lw_p51, List.forall_mem_cons.mpr ⟨lw_p52, List.forall_mem_cons.mpr ⟨lw_p53, List.forall_mem_cons.mpr ⟨lw_p54, List.forall_mem_cons.mpr ⟨lw_p55, List.forall_mem_cons.mpr ⟨lw_p56, List.forall_mem_cons.mpr ⟨lw_p57, List.forall_mem_cons.mpr ⟨lw_p58, List.forall_mem_cons.mpr ⟨lw_p59, List.forall_mem_cons.mpr ⟨lw_p60, List.forall_mem_cons.mpr ⟨lw_p61, List.forall_mem_cons.mpr ⟨lw_p62, List.forall_mem_cons.mpr ⟨lw_p63, fun _ h => absurd h List.not_mem_nil⟩⟩⟩⟩⟩⟩⟩⟩⟩⟩⟩⟩⟩⟩⟩⟩
theorem lw_p64 : lw_okq (⟨"CutTrailModel", "isCut", "(I)Z"⟩, 31) := ⟨⟨by decide +kernel, by decide +kernel⟩, List.mem_of_getElem? (i := 801) (by decide +kernel), List.mem_of_getElem? (i := 1095) (by decide +kernel), List.mem_of_getElem? (i := 1096) (by decide +kernel)⟩
theorem lw_p65 : lw_okq (⟨"CutTrailModel", "mayMake", "([II)Z"⟩, 31) := ⟨⟨by decide +kernel, by decide +kernel⟩, List.mem_of_getElem? (i := 801) (by decide +kernel), List.mem_of_getElem? (i := 1107) (by decide +kernel), List.mem_of_getElem? (i := 1108) (by decide +kernel)⟩
theorem lw_p66 : lw_okq (⟨"CutTrailModel", "note", "()V"⟩, 31) := ⟨⟨by decide +kernel, by decide +kernel⟩, List.mem_of_getElem? (i := 801) (by decide +kernel), List.mem_of_getElem? (i := 1111) (by decide +kernel), List.mem_of_getElem? (i := 1112) (by decide +kernel)⟩
theorem lw_p67 : lw_okq (⟨"CutTrailModel", "makeOn", "([II)V"⟩, 31) := ⟨⟨by decide +kernel, by decide +kernel⟩, List.mem_of_getElem? (i := 801) (by decide +kernel), List.mem_of_getElem? (i := 1115) (by decide +kernel), List.mem_of_getElem? (i := 1116) (by decide +kernel)⟩
theorem lw_p68 : lw_okq (⟨"CutTrailModel", "mayLearn", "([I)Z"⟩, 31) := ⟨⟨by decide +kernel, by decide +kernel⟩, List.mem_of_getElem? (i := 801) (by decide +kernel), List.mem_of_getElem? (i := 1123) (by decide +kernel), List.mem_of_getElem? (i := 1124) (by decide +kernel)⟩
theorem lw_p69 : lw_okq (⟨"CutTrailModel", "learnOn", "([I)I"⟩, 31) := ⟨⟨by decide +kernel, by decide +kernel⟩, List.mem_of_getElem? (i := 801) (by decide +kernel), List.mem_of_getElem? (i := 1127) (by decide +kernel), List.mem_of_getElem? (i := 1128) (by decide +kernel)⟩
theorem lw_p70 : lw_okq (⟨"CutTrailModel", "greatest", "([II)I"⟩, 31) := ⟨⟨by decide +kernel, by decide +kernel⟩, List.mem_of_getElem? (i := 801) (by decide +kernel), List.mem_of_getElem? (i := 1131) (by decide +kernel), List.mem_of_getElem? (i := 1132) (by decide +kernel)⟩
theorem lw_p71 : lw_okq (⟨"CutTrailModel", "manyOf", "([II)I"⟩, 31) := ⟨⟨by decide +kernel, by decide +kernel⟩, List.mem_of_getElem? (i := 801) (by decide +kernel), List.mem_of_getElem? (i := 1135) (by decide +kernel), List.mem_of_getElem? (i := 1136) (by decide +kernel)⟩
theorem lw_p72 : lw_okq (⟨"CutTrailModel", "lastInSet", "()I"⟩, 31) := ⟨⟨by decide +kernel, by decide +kernel⟩, List.mem_of_getElem? (i := 801) (by decide +kernel), List.mem_of_getElem? (i := 1139) (by decide +kernel), List.mem_of_getElem? (i := 1140) (by decide +kernel)⟩
theorem lw_p73 : lw_okq (⟨"CutTrailModel", "addCut", "([I)I"⟩, 31) := ⟨⟨by decide +kernel, by decide +kernel⟩, List.mem_of_getElem? (i := 801) (by decide +kernel), List.mem_of_getElem? (i := 1143) (by decide +kernel), List.mem_of_getElem? (i := 1144) (by decide +kernel)⟩
theorem lw_p74 : lw_okq (⟨"CutTrailModel", "isReason", "([II)Z"⟩, 31) := ⟨⟨by decide +kernel, by decide +kernel⟩, List.mem_of_getElem? (i := 801) (by decide +kernel), List.mem_of_getElem? (i := 1147) (by decide +kernel), List.mem_of_getElem? (i := 1148) (by decide +kernel)⟩
theorem lw_p75 : lw_okq (⟨"CutTrailModel", "forget", "([II)V"⟩, 31) := ⟨⟨by decide +kernel, by decide +kernel⟩, List.mem_of_getElem? (i := 801) (by decide +kernel), List.mem_of_getElem? (i := 1151) (by decide +kernel), List.mem_of_getElem? (i := 1152) (by decide +kernel)⟩
theorem lw_p76 : lw_okq (⟨"CutTrailModel", "leaveAbove", "([II)V"⟩, 31) := ⟨⟨by decide +kernel, by decide +kernel⟩, List.mem_of_getElem? (i := 801) (by decide +kernel), List.mem_of_getElem? (i := 1155) (by decide +kernel), List.mem_of_getElem? (i := 1156) (by decide +kernel)⟩
theorem lw_p77 : lw_okq (⟨"CutTrailModel", "stepOn", "([I)V"⟩, 31) := ⟨⟨by decide +kernel, by decide +kernel⟩, List.mem_of_getElem? (i := 801) (by decide +kernel), List.mem_of_getElem? (i := 1168) (by decide +kernel), List.mem_of_getElem? (i := 1169) (by decide +kernel)⟩
theorem lw_p78 : lw_okq (⟨"CutTrailModel", "judged", "(III)Z"⟩, 31) := ⟨⟨by decide +kernel, by decide +kernel⟩, List.mem_of_getElem? (i := 801) (by decide +kernel), List.mem_of_getElem? (i := 1187) (by decide +kernel), List.mem_of_getElem? (i := 1188) (by decide +kernel)⟩
theorem lw_p79 : lw_okq (⟨"CutTrailModel", "makes", "(III)Z"⟩, 31) := ⟨⟨by decide +kernel, by decide +kernel⟩, List.mem_of_getElem? (i := 801) (by decide +kernel), List.mem_of_getElem? (i := 1191) (by decide +kernel), List.mem_of_getElem? (i := 1192) (by decide +kernel)⟩
def lw_privs_5 : List (MethodName × Nat) := [(⟨"CutTrailModel", "isCut", "(I)Z"⟩, 31), (⟨"CutTrailModel", "mayMake", "([II)Z"⟩, 31), (⟨"CutTrailModel", "note", "()V"⟩, 31), (⟨"CutTrailModel", "makeOn", "([II)V"⟩, 31), (⟨"CutTrailModel", "mayLearn", "([I)Z"⟩, 31), (⟨"CutTrailModel", "learnOn", "([I)I"⟩, 31), (⟨"CutTrailModel", "greatest", "([II)I"⟩, 31), (⟨"CutTrailModel", "manyOf", "([II)I"⟩, 31), (⟨"CutTrailModel", "lastInSet", "()I"⟩, 31), (⟨"CutTrailModel", "addCut", "([I)I"⟩, 31), (⟨"CutTrailModel", "isReason", "([II)Z"⟩, 31), (⟨"CutTrailModel", "forget", "([II)V"⟩, 31), (⟨"CutTrailModel", "leaveAbove", "([II)V"⟩, 31), (⟨"CutTrailModel", "stepOn", "([I)V"⟩, 31), (⟨"CutTrailModel", "judged", "(III)Z"⟩, 31), (⟨"CutTrailModel", "makes", "(III)Z"⟩, 31)]
theorem lw_r5 : ∀ q ∈ lw_privs_5, lw_okq q := List.forall_mem_cons.mpr ⟨lw_p64, List.forall_mem_cons.mpr ⟨lw_p65, List.forall_mem_cons.mpr ⟨lw_p66, List.forall_mem_cons.mpr ⟨lw_p67, List.forall_mem_cons.mpr ⟨lw_p68, List.forall_mem_cons.mpr ⟨lw_p69, List.forall_mem_cons.mpr ⟨lw_p70, List.forall_mem_cons.mpr ⟨lw_p71, List.forall_mem_cons.mpr ⟨lw_p72, List.forall_mem_cons.mpr ⟨lw_p73, List.forall_mem_cons.mpr ⟨lw_p74, List.forall_mem_cons.mpr ⟨lw_p75, List.forall_mem_cons.mpr ⟨lw_p76, List.forall_mem_cons.mpr ⟨lw_p77, List.forall_mem_cons.mpr ⟨lw_p78, List.forall_mem_cons.mpr ⟨lw_p79, fun _ h => absurd h List.not_mem_nil⟩⟩⟩⟩⟩⟩⟩⟩⟩⟩⟩⟩⟩⟩⟩⟩
theorem lw_p80 : lw_okq (⟨"CutTrailModel", "layWorth", "()V"⟩, 31) := ⟨⟨by decide +kernel, by decide +kernel⟩, List.mem_of_getElem? (i := 801) (by decide +kernel), List.mem_of_getElem? (i := 1211) (by decide +kernel), List.mem_of_getElem? (i := 1212) (by decide +kernel)⟩
theorem lw_p81 : lw_okq (⟨"CutTrailModel", "drawOne", "(I)V"⟩, 31) := ⟨⟨by decide +kernel, by decide +kernel⟩, List.mem_of_getElem? (i := 801) (by decide +kernel), List.mem_of_getElem? (i := 1243) (by decide +kernel), List.mem_of_getElem? (i := 1244) (by decide +kernel)⟩
def lw_privs_6 : List (MethodName × Nat) := [(⟨"CutTrailModel", "layWorth", "()V"⟩, 31), (⟨"CutTrailModel", "drawOne", "(I)V"⟩, 31)]
theorem lw_r6 : ∀ q ∈ lw_privs_6, lw_okq q := List.forall_mem_cons.mpr ⟨lw_p80, List.forall_mem_cons.mpr ⟨lw_p81, fun _ h => absurd h List.not_mem_nil⟩⟩
def lw_privs : List (MethodName × Nat) := lw_privs_1 ++ (lw_privs_2 ++ (lw_privs_3 ++ (lw_privs_4 ++ (lw_privs_5 ++ (lw_privs_6)))))
def lw_tbl : List Cond := k2_sels lw_privs ++ tables_1
theorem lw_privs_ok : ∀ q ∈ lw_privs, lw_okq q := by
  show ∀ q ∈ lw_privs_1 ++ (lw_privs_2 ++ (lw_privs_3 ++ (lw_privs_4 ++ (lw_privs_5 ++ (lw_privs_6))))), lw_okq q
  exact List.forall_mem_append.mpr ⟨lw_r1, List.forall_mem_append.mpr ⟨lw_r2, List.forall_mem_append.mpr ⟨lw_r3, List.forall_mem_append.mpr ⟨lw_r4, List.forall_mem_append.mpr ⟨lw_r5, lw_r6⟩⟩⟩⟩⟩
end
section
def RX0 : String := "CutTrail$Acts"
def TX0 : u_T := fun k => match k with
  | 0 => ("CutTrail$Acts", "before", "[LCutTrail$State;", true)
  | _ => ("CutTrail$Acts", "count", "I", false)
def tyX0 : Nat → FieldType := fun k => match k with
  | 0 => .array (.object "CutTrail$State")
  | _ => .int
abbrev wsX00 : List Cond := u_ws RX0 TX0 2
theorem nmX0 : ∀ a, a < 2 → ∀ b, b < 2 → a ≠ b → (TX0 a).2.1 ≠ (TX0 b).2.1 := by decide +kernel
theorem tyX0_ok : ∀ k, k < 2 → parseFieldDescriptor (TX0 k).2.2.1 = some (tyX0 k) := by decide +kernel
abbrev cX0_init : ByteArray := prog_2_method_1_code
def yX0_init : MethodName := ⟨RX0, "<init>", "(LCutTrail$Task;)V"⟩
abbrev cX0_remember : ByteArray := prog_2_method_2_code
def yX0_remember : MethodName := ⟨RX0, "remember", "(LCutTrail$State;)V"⟩
abbrev cX0_forgetFirst : ByteArray := prog_2_method_3_code
def yX0_forgetFirst : MethodName := ⟨RX0, "forgetFirst", "()V"⟩
abbrev cX0_takeBack : ByteArray := prog_2_method_4_code
def yX0_takeBack : MethodName := ⟨RX0, "takeBack", "(LCutTrail$State;)V"⟩
def RX1 : String := "CutTrail$Chances"
def TX1 : u_T := fun k => match k with
  | 0 => ("CutTrail$Chances", "task", "LCutTrail$Task;", true)
  | 1 => ("CutTrail$Chances", "waysByLost", "[I", true)
  | _ => ("CutTrail$Chances", "counted", "Z", false)
def tyX1 : Nat → FieldType := fun k => match k with
  | 0 => .object "CutTrail$Task"
  | 1 => .array .int
  | _ => .boolean
abbrev wsX10 : List Cond := u_ws RX1 TX1 3
theorem nmX1 : ∀ a, a < 3 → ∀ b, b < 3 → a ≠ b → (TX1 a).2.1 ≠ (TX1 b).2.1 := by decide +kernel
theorem tyX1_ok : ∀ k, k < 3 → parseFieldDescriptor (TX1 k).2.2.1 = some (tyX1 k) := by decide +kernel
abbrev cX1_init : ByteArray := prog_3_method_1_code
def yX1_init : MethodName := ⟨RX1, "<init>", "(LCutTrail$Task;)V"⟩
abbrev cX1_shareOf : ByteArray := prog_3_method_2_code
def yX1_shareOf : MethodName := ⟨RX1, "shareOf", "(IZ)I"⟩
abbrev cX1_chanceOf : ByteArray := prog_3_method_3_code
def yX1_chanceOf : MethodName := ⟨RX1, "chanceOf", "(IIZ)I"⟩
abbrev cX1_weightOf : ByteArray := prog_3_method_4_code
def yX1_weightOf : MethodName := ⟨RX1, "weightOf", "(II)I"⟩
abbrev cX1_countAll : ByteArray := prog_3_method_5_code
def yX1_countAll : MethodName := ⟨RX1, "countAll", "()V"⟩
abbrev cX1_brokenBy : ByteArray := prog_3_method_6_code
def yX1_brokenBy : MethodName := ⟨RX1, "brokenBy", "(IIII)I"⟩
abbrev cX1_addSmallerSets : ByteArray := prog_3_method_7_code
def yX1_addSmallerSets : MethodName := ⟨RX1, "addSmallerSets", "()V"⟩
abbrev cX1_toldOf : ByteArray := prog_3_method_8_code
def yX1_toldOf : MethodName := ⟨RX1, "toldOf", "(IIZ)I"⟩
abbrev cX1_greatestDivisor : ByteArray := prog_3_method_9_code
def yX1_greatestDivisor : MethodName := ⟨RX1, "greatestDivisor", "(II)I"⟩
def RX2 : String := "CutTrail$Cuts"
def TX2 : u_T := fun k => match k with
  | 0 => ("CutTrail$Cuts", "marks", "[I", true)
  | 1 => ("CutTrail$Cuts", "sizes", "[I", true)
  | _ => ("CutTrail$Cuts", "count", "I", false)
def tyX2 : Nat → FieldType := fun k => match k with
  | 0 => .array .int
  | 1 => .array .int
  | _ => .int
abbrev wsX20 : List Cond := u_ws RX2 TX2 3
theorem nmX2 : ∀ a, a < 3 → ∀ b, b < 3 → a ≠ b → (TX2 a).2.1 ≠ (TX2 b).2.1 := by decide +kernel
theorem tyX2_ok : ∀ k, k < 3 → parseFieldDescriptor (TX2 k).2.2.1 = some (tyX2 k) := by decide +kernel
abbrev cX2_init : ByteArray := prog_4_method_1_code
def yX2_init : MethodName := ⟨RX2, "<init>", "()V"⟩
abbrev cX2_has : ByteArray := prog_4_method_2_code
def yX2_has : MethodName := ⟨RX2, "has", "(I)Z"⟩
abbrev cX2_at : ByteArray := prog_4_method_3_code
def yX2_at : MethodName := ⟨RX2, "at", "(II)I"⟩
abbrev cX2_addEmpty : ByteArray := prog_4_method_4_code
def yX2_addEmpty : MethodName := ⟨RX2, "addEmpty", "()V"⟩
abbrev cX2_putInLast : ByteArray := prog_4_method_5_code
def yX2_putInLast : MethodName := ⟨RX2, "putInLast", "(I)V"⟩
abbrev cX2_forget : ByteArray := prog_4_method_6_code
def yX2_forget : MethodName := ⟨RX2, "forget", "(I)V"⟩
abbrev cX2_copy : ByteArray := prog_4_method_7_code
def yX2_copy : MethodName := ⟨RX2, "copy", "(LCutTrail$Cuts;)V"⟩
def RX3 : String := "CutTrail$Seen"
def TX3 : u_T := fun k => match k with
  | 0 => ("CutTrail$Seen", "marks", "[I", true)
  | 1 => ("CutTrail$Seen", "wasSo", "[Z", true)
  | _ => ("CutTrail$Seen", "count", "I", false)
def tyX3 : Nat → FieldType := fun k => match k with
  | 0 => .array .int
  | 1 => .array .boolean
  | _ => .int
abbrev wsX30 : List Cond := u_ws RX3 TX3 3
theorem nmX3 : ∀ a, a < 3 → ∀ b, b < 3 → a ≠ b → (TX3 a).2.1 ≠ (TX3 b).2.1 := by decide +kernel
theorem tyX3_ok : ∀ k, k < 3 → parseFieldDescriptor (TX3 k).2.2.1 = some (tyX3 k) := by decide +kernel
abbrev cX3_init : ByteArray := prog_5_method_1_code
def yX3_init : MethodName := ⟨RX3, "<init>", "()V"⟩
abbrev cX3_put : ByteArray := prog_5_method_2_code
def yX3_put : MethodName := ⟨RX3, "put", "(IZ)V"⟩
def RX4 : String := "CutTrail$Slots"
def TX4 : u_T := fun k => match k with
  | 0 => ("CutTrail$Slots", "kept", "[LCutTrail$State;", true)
  | _ => ("CutTrail$Slots", "filled", "[Z", true)
def tyX4 : Nat → FieldType := fun k => match k with
  | 0 => .array (.object "CutTrail$State")
  | _ => .array .boolean
abbrev wsX40 : List Cond := u_ws RX4 TX4 2
theorem nmX4 : ∀ a, a < 2 → ∀ b, b < 2 → a ≠ b → (TX4 a).2.1 ≠ (TX4 b).2.1 := by decide +kernel
theorem tyX4_ok : ∀ k, k < 2 → parseFieldDescriptor (TX4 k).2.2.1 = some (tyX4 k) := by decide +kernel
abbrev cX4_init : ByteArray := prog_6_method_1_code
def yX4_init : MethodName := ⟨RX4, "<init>", "(LCutTrail$Task;)V"⟩
abbrev cX4_has : ByteArray := prog_6_method_2_code
def yX4_has : MethodName := ⟨RX4, "has", "(I)Z"⟩
abbrev cX4_put : ByteArray := prog_6_method_3_code
def yX4_put : MethodName := ⟨RX4, "put", "(ILCutTrail$State;)V"⟩
abbrev cX4_empty : ByteArray := prog_6_method_4_code
def yX4_empty : MethodName := ⟨RX4, "empty", "()V"⟩
def RX5 : String := "CutTrail$State"
def TX5 : u_T := fun k => match k with
  | 0 => ("CutTrail$State", "task", "LCutTrail$Task;", true)
  | 1 => ("CutTrail$State", "trail", "LCutTrail$Trail;", true)
  | 2 => ("CutTrail$State", "cuts", "LCutTrail$Cuts;", true)
  | _ => ("CutTrail$State", "hopeless", "Z", false)
def tyX5 : Nat → FieldType := fun k => match k with
  | 0 => .object "CutTrail$Task"
  | 1 => .object "CutTrail$Trail"
  | 2 => .object "CutTrail$Cuts"
  | _ => .boolean
abbrev wsX50 : List Cond := u_ws RX5 TX5 4
theorem nmX5 : ∀ a, a < 4 → ∀ b, b < 4 → a ≠ b → (TX5 a).2.1 ≠ (TX5 b).2.1 := by decide +kernel
theorem tyX5_ok : ∀ k, k < 4 → parseFieldDescriptor (TX5 k).2.2.1 = some (tyX5 k) := by decide +kernel
abbrev cX5_init : ByteArray := prog_7_method_1_code
def yX5_init : MethodName := ⟨RX5, "<init>", "(LCutTrail$Task;)V"⟩
abbrev cX5_begin : ByteArray := prog_7_method_2_code
def yX5_begin : MethodName := ⟨RX5, "begin", "()V"⟩
abbrev cX5_copy : ByteArray := prog_7_method_3_code
def yX5_copy : MethodName := ⟨RX5, "copy", "(LCutTrail$State;)V"⟩
abbrev cX5_least : ByteArray := prog_7_method_4_code
def yX5_least : MethodName := ⟨RX5, "least", "(I)I"⟩
abbrev cX5_theBreak : ByteArray := prog_7_method_5_code
def yX5_theBreak : MethodName := ⟨RX5, "theBreak", "()I"⟩
abbrev cX5_cutBreaks : ByteArray := prog_7_method_6_code
def yX5_cutBreaks : MethodName := ⟨RX5, "cutBreaks", "(I)Z"⟩
abbrev cX5_drawIn : ByteArray := prog_7_method_7_code
def yX5_drawIn : MethodName := ⟨RX5, "drawIn", "()V"⟩
abbrev cX5_drawOne : ByteArray := prog_7_method_8_code
def yX5_drawOne : MethodName := ⟨RX5, "drawOne", "()Z"⟩
abbrev cX5_toldByRule : ByteArray := prog_7_method_9_code
def yX5_toldByRule : MethodName := ⟨RX5, "toldByRule", "(I)I"⟩
abbrev cX5_toldByCut : ByteArray := prog_7_method_10_code
def yX5_toldByCut : MethodName := ⟨RX5, "toldByCut", "(I)I"⟩
abbrev cX5_isSolved : ByteArray := prog_7_method_11_code
def yX5_isSolved : MethodName := ⟨RX5, "isSolved", "()Z"⟩
abbrev cX5_canMake : ByteArray := prog_7_method_12_code
def yX5_canMake : MethodName := ⟨RX5, "canMake", "(I)Z"⟩
abbrev cX5_canLearn : ByteArray := prog_7_method_13_code
def yX5_canLearn : MethodName := ⟨RX5, "canLearn", "()Z"⟩
abbrev cX5_made : ByteArray := prog_7_method_14_code
def yX5_made : MethodName := ⟨RX5, "made", "(I)Z"⟩
abbrev cX5_left : ByteArray := prog_7_method_15_code
def yX5_left : MethodName := ⟨RX5, "left", "()V"⟩
abbrev cX5_forgetFirstFree : ByteArray := prog_7_method_16_code
def yX5_forgetFirstFree : MethodName := ⟨RX5, "forgetFirstFree", "()V"⟩
def RX6 : String := "CutTrail$Task"
def TX6 : u_T := fun k => match k with
  | 0 => ("CutTrail$Task", "numbers", "I", false)
  | 1 => ("CutTrail$Task", "rules", "I", false)
  | 2 => ("CutTrail$Task", "tops", "[I", true)
  | 3 => ("CutTrail$Task", "weights", "[[I", true)
  | _ => ("CutTrail$Task", "bounds", "[I", true)
def tyX6 : Nat → FieldType := fun k => match k with
  | 0 => .int
  | 1 => .int
  | 2 => .array .int
  | 3 => .array (.array .int)
  | _ => .array .int
abbrev wsX60 : List Cond := u_ws RX6 TX6 5
theorem nmX6 : ∀ a, a < 5 → ∀ b, b < 5 → a ≠ b → (TX6 a).2.1 ≠ (TX6 b).2.1 := by decide +kernel
theorem tyX6_ok : ∀ k, k < 5 → parseFieldDescriptor (TX6 k).2.2.1 = some (tyX6 k) := by decide +kernel
abbrev cX6_init : ByteArray := prog_8_method_1_code
def yX6_init : MethodName := ⟨RX6, "<init>", "()V"⟩
abbrev cX6_hasNumber : ByteArray := prog_8_method_2_code
def yX6_hasNumber : MethodName := ⟨RX6, "hasNumber", "(I)Z"⟩
abbrev cX6_hasRule : ByteArray := prog_8_method_3_code
def yX6_hasRule : MethodName := ⟨RX6, "hasRule", "(I)Z"⟩
def RX7 : String := "CutTrail$Text"
def TX7 : u_T := fun k => match k with
  | 0 => ("CutTrail$Text", "letters", "[I", true)
  | _ => ("CutTrail$Text", "length", "I", false)
def tyX7 : Nat → FieldType := fun k => match k with
  | 0 => .array .int
  | _ => .int
abbrev wsX70 : List Cond := u_ws RX7 TX7 2
theorem nmX7 : ∀ a, a < 2 → ∀ b, b < 2 → a ≠ b → (TX7 a).2.1 ≠ (TX7 b).2.1 := by decide +kernel
theorem tyX7_ok : ∀ k, k < 2 → parseFieldDescriptor (TX7 k).2.2.1 = some (tyX7 k) := by decide +kernel
abbrev cX7_init : ByteArray := prog_9_method_1_code
def yX7_init : MethodName := ⟨RX7, "<init>", "()V"⟩
abbrev cX7_put : ByteArray := prog_9_method_2_code
def yX7_put : MethodName := ⟨RX7, "put", "(I)V"⟩
abbrev cX7_firstFault : ByteArray := prog_9_method_3_code
def yX7_firstFault : MethodName := ⟨RX7, "firstFault", "()I"⟩
abbrev cX7_canStand : ByteArray := prog_9_method_4_code
def yX7_canStand : MethodName := ⟨RX7, "canStand", "(I)Z"⟩
abbrev cX7_canStandInRule : ByteArray := prog_9_method_5_code
def yX7_canStandInRule : MethodName := ⟨RX7, "canStandInRule", "(III)Z"⟩
abbrev cX7_isWhole : ByteArray := prog_9_method_6_code
def yX7_isWhole : MethodName := ⟨RX7, "isWhole", "()Z"⟩
abbrev cX7_numbersTold : ByteArray := prog_9_method_7_code
def yX7_numbersTold : MethodName := ⟨RX7, "numbersTold", "()I"⟩
abbrev cX7_isFigure : ByteArray := prog_9_method_8_code
def yX7_isFigure : MethodName := ⟨RX7, "isFigure", "(I)Z"⟩
abbrev cX7_tellTo : ByteArray := prog_9_method_9_code
def yX7_tellTo : MethodName := ⟨RX7, "tellTo", "(LCutTrail$Task;)V"⟩
abbrev cX7_tellRule : ByteArray := prog_9_method_10_code
def yX7_tellRule : MethodName := ⟨RX7, "tellRule", "(LCutTrail$Task;II)V"⟩
abbrev cX7_weightOf : ByteArray := prog_9_method_11_code
def yX7_weightOf : MethodName := ⟨RX7, "weightOf", "(I)I"⟩
def RX8 : String := "CutTrail$Tracer"
def TX8 : u_T := fun k => match k with
  | 0 => ("CutTrail$Tracer", "set", "[I", true)
  | _ => ("CutTrail$Tracer", "why", "[I", true)
def tyX8 : Nat → FieldType := fun k => match k with
  | 0 => .array .int
  | _ => .array .int
abbrev wsX80 : List Cond := u_ws RX8 TX8 2
theorem nmX8 : ∀ a, a < 2 → ∀ b, b < 2 → a ≠ b → (TX8 a).2.1 ≠ (TX8 b).2.1 := by decide +kernel
theorem tyX8_ok : ∀ k, k < 2 → parseFieldDescriptor (TX8 k).2.2.1 = some (tyX8 k) := by decide +kernel
abbrev cX8_init : ByteArray := prog_10_method_1_code
def yX8_init : MethodName := ⟨RX8, "<init>", "()V"⟩
abbrev cX8_countWhy : ByteArray := prog_10_method_2_code
def yX8_countWhy : MethodName := ⟨RX8, "countWhy", "(LCutTrail$State;I)I"⟩
abbrev cX8_learnt : ByteArray := prog_10_method_3_code
def yX8_learnt : MethodName := ⟨RX8, "learnt", "(LCutTrail$State;)I"⟩
abbrev cX8_traceLast : ByteArray := prog_10_method_4_code
def yX8_traceLast : MethodName := ⟨RX8, "traceLast", "(LCutTrail$State;)Z"⟩
abbrev cX8_greatestBelow : ByteArray := prog_10_method_5_code
def yX8_greatestBelow : MethodName := ⟨RX8, "greatestBelow", "(I)I"⟩
abbrev cX8_takeWhyIn : ByteArray := prog_10_method_6_code
def yX8_takeWhyIn : MethodName := ⟨RX8, "takeWhyIn", "(LCutTrail$Trail;)V"⟩
abbrev cX8_lookUpWhy : ByteArray := prog_10_method_7_code
def yX8_lookUpWhy : MethodName := ⟨RX8, "lookUpWhy", "(LCutTrail$State;III)V"⟩
abbrev cX8_lookUpByRule : ByteArray := prog_10_method_8_code
def yX8_lookUpByRule : MethodName := ⟨RX8, "lookUpByRule", "(LCutTrail$State;III)V"⟩
abbrev cX8_lookUpByCut : ByteArray := prog_10_method_9_code
def yX8_lookUpByCut : MethodName := ⟨RX8, "lookUpByCut", "(LCutTrail$State;III)V"⟩
abbrev cX8_addCut : ByteArray := prog_10_method_10_code
def yX8_addCut : MethodName := ⟨RX8, "addCut", "(LCutTrail$State;)I"⟩
def RX9 : String := "CutTrail$Trail"
def TX9 : u_T := fun k => match k with
  | 0 => ("CutTrail$Trail", "task", "LCutTrail$Task;", true)
  | 1 => ("CutTrail$Trail", "marks", "[I", true)
  | 2 => ("CutTrail$Trail", "levels", "[I", true)
  | 3 => ("CutTrail$Trail", "reasons", "[I", true)
  | 4 => ("CutTrail$Trail", "low", "[I", true)
  | 5 => ("CutTrail$Trail", "high", "[I", true)
  | _ => ("CutTrail$Trail", "size", "I", false)
def tyX9 : Nat → FieldType := fun k => match k with
  | 0 => .object "CutTrail$Task"
  | 1 => .array .int
  | 2 => .array .int
  | 3 => .array .int
  | 4 => .array .int
  | 5 => .array .int
  | _ => .int
abbrev wsX90 : List Cond := u_ws RX9 TX9 7
theorem nmX9 : ∀ a, a < 7 → ∀ b, b < 7 → a ≠ b → (TX9 a).2.1 ≠ (TX9 b).2.1 := by decide +kernel
theorem tyX9_ok : ∀ k, k < 7 → parseFieldDescriptor (TX9 k).2.2.1 = some (tyX9 k) := by decide +kernel
abbrev cX9_init : ByteArray := prog_11_method_1_code
def yX9_init : MethodName := ⟨RX9, "<init>", "(LCutTrail$Task;)V"⟩
abbrev cX9_level : ByteArray := prog_11_method_2_code
def yX9_level : MethodName := ⟨RX9, "level", "()I"⟩
abbrev cX9_put : ByteArray := prog_11_method_3_code
def yX9_put : MethodName := ⟨RX9, "put", "(III)V"⟩
abbrev cX9_draw : ByteArray := prog_11_method_4_code
def yX9_draw : MethodName := ⟨RX9, "draw", "(I)V"⟩
abbrev cX9_cutOff : ByteArray := prog_11_method_5_code
def yX9_cutOff : MethodName := ⟨RX9, "cutOff", "(I)V"⟩
abbrev cX9_cutAbove : ByteArray := prog_11_method_6_code
def yX9_cutAbove : MethodName := ⟨RX9, "cutAbove", "(I)V"⟩
abbrev cX9_isSo : ByteArray := prog_11_method_7_code
def yX9_isSo : MethodName := ⟨RX9, "isSo", "(I)Z"⟩
abbrev cX9_isNotSo : ByteArray := prog_11_method_8_code
def yX9_isNotSo : MethodName := ⟨RX9, "isNotSo", "(I)Z"⟩
abbrev cX9_firstOpen : ByteArray := prog_11_method_9_code
def yX9_firstOpen : MethodName := ⟨RX9, "firstOpen", "()I"⟩
abbrev cX9_lastAhead : ByteArray := prog_11_method_10_code
def yX9_lastAhead : MethodName := ⟨RX9, "lastAhead", "(III)I"⟩
abbrev cX9_hasReason : ByteArray := prog_11_method_11_code
def yX9_hasReason : MethodName := ⟨RX9, "hasReason", "(I)Z"⟩
abbrev cX9_lowerReasonsAbove : ByteArray := prog_11_method_12_code
def yX9_lowerReasonsAbove : MethodName := ⟨RX9, "lowerReasonsAbove", "(I)V"⟩
abbrev cX9_copy : ByteArray := prog_11_method_13_code
def yX9_copy : MethodName := ⟨RX9, "copy", "(LCutTrail$Trail;)V"⟩
def RX10 : String := "CutTrail$Ways"
def TX10 : u_T := fun k => match k with
  | 0 => ("CutTrail$Ways", "task", "LCutTrail$Task;", true)
  | 1 => ("CutTrail$Ways", "from", "[I", true)
  | _ => ("CutTrail$Ways", "to", "[I", true)
def tyX10 : Nat → FieldType := fun k => match k with
  | 0 => .object "CutTrail$Task"
  | 1 => .array .int
  | _ => .array .int
abbrev wsX100 : List Cond := u_ws RX10 TX10 3
theorem nmX10 : ∀ a, a < 3 → ∀ b, b < 3 → a ≠ b → (TX10 a).2.1 ≠ (TX10 b).2.1 := by decide +kernel
theorem tyX10_ok : ∀ k, k < 3 → parseFieldDescriptor (TX10 k).2.2.1 = some (tyX10 k) := by decide +kernel
abbrev cX10_init : ByteArray := prog_12_method_1_code
def yX10_init : MethodName := ⟨RX10, "<init>", "(LCutTrail$Task;)V"⟩
abbrev cX10_all : ByteArray := prog_12_method_2_code
def yX10_all : MethodName := ⟨RX10, "all", "()I"⟩
abbrev cX10_along : ByteArray := prog_12_method_3_code
def yX10_along : MethodName := ⟨RX10, "along", "(LCutTrail$Trail;)I"⟩
abbrev cX10_within : ByteArray := prog_12_method_4_code
def yX10_within : MethodName := ⟨RX10, "within", "(LCutTrail$Cuts;I)I"⟩
abbrev cX10_bySeen : ByteArray := prog_12_method_5_code
def yX10_bySeen : MethodName := ⟨RX10, "bySeen", "(LCutTrail$Seen;)I"⟩
abbrev cX10_leastOfAll : ByteArray := prog_12_method_6_code
def yX10_leastOfAll : MethodName := ⟨RX10, "leastOfAll", "(I)I"⟩
abbrev cX10_openBox : ByteArray := prog_12_method_7_code
def yX10_openBox : MethodName := ⟨RX10, "openBox", "()V"⟩
abbrev cX10_hold : ByteArray := prog_12_method_8_code
def yX10_hold : MethodName := ⟨RX10, "hold", "(IZ)V"⟩
abbrev cX10_countInBox : ByteArray := prog_12_method_9_code
def yX10_countInBox : MethodName := ⟨RX10, "countInBox", "()I"⟩
abbrev cX10_countOfLast : ByteArray := prog_12_method_10_code
def yX10_countOfLast : MethodName := ⟨RX10, "countOfLast", "(III)I"⟩
def RX11 : String := "CutTrail"
def TX11 : u_T := fun k => match k with
  | 0 => ("CutTrail", "told", "LCutTrail$Task;", true)
  | 1 => ("CutTrail", "text", "LCutTrail$Text;", true)
  | 2 => ("CutTrail", "now", "LCutTrail$State;", true)
  | 3 => ("CutTrail", "trial", "LCutTrail$State;", true)
  | 4 => ("CutTrail", "tracer", "LCutTrail$Tracer;", true)
  | 5 => ("CutTrail", "acts", "LCutTrail$Acts;", true)
  | 6 => ("CutTrail", "slots", "LCutTrail$Slots;", true)
  | 7 => ("CutTrail", "seen", "LCutTrail$Seen;", true)
  | 8 => ("CutTrail", "ways", "LCutTrail$Ways;", true)
  | 9 => ("CutTrail", "chances", "LCutTrail$Chances;", true)
  | _ => ("CutTrail", "seedNow", "J", false)
def tyX11 : Nat → FieldType := fun k => match k with
  | 0 => .object "CutTrail$Task"
  | 1 => .object "CutTrail$Text"
  | 2 => .object "CutTrail$State"
  | 3 => .object "CutTrail$State"
  | 4 => .object "CutTrail$Tracer"
  | 5 => .object "CutTrail$Acts"
  | 6 => .object "CutTrail$Slots"
  | 7 => .object "CutTrail$Seen"
  | 8 => .object "CutTrail$Ways"
  | 9 => .object "CutTrail$Chances"
  | _ => .long
abbrev wsX110 : List Cond := u_ws RX11 TX11 11
theorem nmX11 : ∀ a, a < 11 → ∀ b, b < 11 → a ≠ b → (TX11 a).2.1 ≠ (TX11 b).2.1 := by decide +kernel
theorem tyX11_ok : ∀ k, k < 11 → parseFieldDescriptor (TX11 k).2.2.1 = some (tyX11 k) := by decide +kernel
abbrev cX11_init : ByteArray := prog_1_method_1_code
def yX11_init : MethodName := ⟨RX11, "<init>", "()V"⟩
abbrev cX11_write : ByteArray := prog_1_method_2_code
def yX11_write : MethodName := ⟨RX11, "write", "(I)I"⟩
abbrev cX11_wipe : ByteArray := prog_1_method_3_code
def yX11_wipe : MethodName := ⟨RX11, "wipe", "()I"⟩
abbrev cX11_fault : ByteArray := prog_1_method_4_code
def yX11_fault : MethodName := ⟨RX11, "fault", "()I"⟩
abbrev cX11_task : ByteArray := prog_1_method_5_code
def yX11_task : MethodName := ⟨RX11, "task", "()I"⟩
abbrev cX11_about : ByteArray := prog_1_method_6_code
def yX11_about : MethodName := ⟨RX11, "about", "(I)I"⟩
abbrev cX11_number : ByteArray := prog_1_method_7_code
def yX11_number : MethodName := ⟨RX11, "number", "(II)I"⟩
abbrev cX11_rule : ByteArray := prog_1_method_8_code
def yX11_rule : MethodName := ⟨RX11, "rule", "(II)I"⟩
abbrev cX11_mark : ByteArray := prog_1_method_9_code
def yX11_mark : MethodName := ⟨RX11, "mark", "(II)I"⟩
abbrev cX11_cut : ByteArray := prog_1_method_10_code
def yX11_cut : MethodName := ⟨RX11, "cut", "(II)I"⟩
abbrev cX11_follows : ByteArray := prog_1_method_11_code
def yX11_follows : MethodName := ⟨RX11, "follows", "(I)I"⟩
abbrev cX11_make : ByteArray := prog_1_method_12_code
def yX11_make : MethodName := ⟨RX11, "make", "(III)I"⟩
abbrev cX11_learn : ByteArray := prog_1_method_13_code
def yX11_learn : MethodName := ⟨RX11, "learn", "()I"⟩
abbrev cX11_leave : ByteArray := prog_1_method_14_code
def yX11_leave : MethodName := ⟨RX11, "leave", "()I"⟩
abbrev cX11_run : ByteArray := prog_1_method_15_code
def yX11_run : MethodName := ⟨RX11, "run", "(I)I"⟩
abbrev cX11_undo : ByteArray := prog_1_method_16_code
def yX11_undo : MethodName := ⟨RX11, "undo", "()I"⟩
abbrev cX11_judge : ByteArray := prog_1_method_17_code
def yX11_judge : MethodName := ⟨RX11, "judge", "(IJ)I"⟩
abbrev cX11_see : ByteArray := prog_1_method_18_code
def yX11_see : MethodName := ⟨RX11, "see", "(IIII)I"⟩
abbrev cX11_unsee : ByteArray := prog_1_method_19_code
def yX11_unsee : MethodName := ⟨RX11, "unsee", "()I"⟩
abbrev cX11_which : ByteArray := prog_1_method_20_code
def yX11_which : MethodName := ⟨RX11, "which", "()I"⟩
abbrev cX11_share : ByteArray := prog_1_method_21_code
def yX11_share : MethodName := ⟨RX11, "share", "(IZ)I"⟩
abbrev cX11_chance : ByteArray := prog_1_method_22_code
def yX11_chance : MethodName := ⟨RX11, "chance", "(IIZ)I"⟩
abbrev cX11_seed : ByteArray := prog_1_method_23_code
def yX11_seed : MethodName := ⟨RX11, "seed", "(J)J"⟩
abbrev cX11_drawn : ByteArray := prog_1_method_24_code
def yX11_drawn : MethodName := ⟨RX11, "drawn", "(I)I"⟩
abbrev cX11_keep : ByteArray := prog_1_method_25_code
def yX11_keep : MethodName := ⟨RX11, "keep", "(I)I"⟩
abbrev cX11_again : ByteArray := prog_1_method_26_code
def yX11_again : MethodName := ⟨RX11, "again", "(I)I"⟩
abbrev cX11_oneStep : ByteArray := prog_1_method_27_code
def yX11_oneStep : MethodName := ⟨RX11, "oneStep", "()Z"⟩
abbrev cX11_canBe : ByteArray := prog_1_method_28_code
def yX11_canBe : MethodName := ⟨RX11, "canBe", "(I)Z"⟩
abbrev cX11_drawOnTrial : ByteArray := prog_1_method_29_code
def yX11_drawOnTrial : MethodName := ⟨RX11, "drawOnTrial", "(I)V"⟩
abbrev cX11_isSide : ByteArray := prog_1_method_30_code
def yX11_isSide : MethodName := ⟨RX11, "isSide", "(I)Z"⟩
abbrev cX11_isValue : ByteArray := prog_1_method_31_code
def yX11_isValue : MethodName := ⟨RX11, "isValue", "(I)Z"⟩
abbrev cX11_markOf : ByteArray := prog_1_method_32_code
def yX11_markOf : MethodName := ⟨RX11, "markOf", "(III)I"⟩
abbrev cX11_negated : ByteArray := prog_1_method_33_code
def yX11_negated : MethodName := ⟨RX11, "negated", "(I)I"⟩
abbrev cX11_sideRow : ByteArray := prog_1_method_34_code
def yX11_sideRow : MethodName := ⟨RX11, "sideRow", "(I)I"⟩
def RX12 : String := "CutTrailModel"
def TX12 : u_T := fun k => match k with
  | 0 => ("CutTrailModel", "text", "[I", true)
  | 1 => ("CutTrailModel", "length", "I", false)
  | 2 => ("CutTrailModel", "numbers", "I", false)
  | 3 => ("CutTrailModel", "top", "[I", true)
  | 4 => ("CutTrailModel", "rules", "I", false)
  | 5 => ("CutTrailModel", "weight", "[I", true)
  | 6 => ("CutTrailModel", "bound", "[I", true)
  | 7 => ("CutTrailModel", "now", "[I", true)
  | 8 => ("CutTrailModel", "trial", "[I", true)
  | 9 => ("CutTrailModel", "diary", "[I", true)
  | 10 => ("CutTrailModel", "acts", "I", false)
  | 11 => ("CutTrailModel", "next", "I", false)
  | 12 => ("CutTrailModel", "kept", "[I", true)
  | 13 => ("CutTrailModel", "isKept", "[Z", true)
  | 14 => ("CutTrailModel", "seenMark", "[I", true)
  | 15 => ("CutTrailModel", "seenIs", "[I", true)
  | 16 => ("CutTrailModel", "seen", "I", false)
  | 17 => ("CutTrailModel", "seed", "J", false)
  | 18 => ("CutTrailModel", "toldMark", "I", false)
  | 19 => ("CutTrailModel", "toldReason", "I", false)
  | 20 => ("CutTrailModel", "set", "[I", true)
  | 21 => ("CutTrailModel", "value", "[I", true)
  | 22 => ("CutTrailModel", "ways", "[I", true)
  | 23 => ("CutTrailModel", "worth", "[I", true)
  | 24 => ("CutTrailModel", "readNumbers", "I", false)
  | 25 => ("CutTrailModel", "readTop", "[I", true)
  | 26 => ("CutTrailModel", "readRules", "I", false)
  | 27 => ("CutTrailModel", "readWeight", "[I", true)
  | 28 => ("CutTrailModel", "readBound", "[I", true)
  | 29 => ("CutTrailModel", "step", "I", false)
  | _ => ("CutTrailModel", "sign", "I", false)
def tyX12 : Nat → FieldType := fun k => match k with
  | 0 => .array .int
  | 1 => .int
  | 2 => .int
  | 3 => .array .int
  | 4 => .int
  | 5 => .array .int
  | 6 => .array .int
  | 7 => .array .int
  | 8 => .array .int
  | 9 => .array .int
  | 10 => .int
  | 11 => .int
  | 12 => .array .int
  | 13 => .array .boolean
  | 14 => .array .int
  | 15 => .array .int
  | 16 => .int
  | 17 => .long
  | 18 => .int
  | 19 => .int
  | 20 => .array .int
  | 21 => .array .int
  | 22 => .array .int
  | 23 => .array .int
  | 24 => .int
  | 25 => .array .int
  | 26 => .int
  | 27 => .array .int
  | 28 => .array .int
  | 29 => .int
  | _ => .int
abbrev wsX120 : List Cond := u_ws RX12 TX12 31
theorem nmX12 : ∀ a, a < 31 → ∀ b, b < 31 → a ≠ b → (TX12 a).2.1 ≠ (TX12 b).2.1 := by decide +kernel
theorem tyX12_ok : ∀ k, k < 31 → parseFieldDescriptor (TX12 k).2.2.1 = some (tyX12 k) := by decide +kernel
abbrev cX12_init : ByteArray := prog_14_method_1_code
def yX12_init : MethodName := ⟨RX12, "<init>", "()V"⟩
abbrev cX12_copy : ByteArray := prog_14_method_3_code
def yX12_copy : MethodName := ⟨RX12, "copy", "([I[I)V"⟩
abbrev cX12_in : ByteArray := prog_14_method_4_code
def yX12_in : MethodName := ⟨RX12, "in", "(JJJ)Z"⟩
abbrev cX12_ones : ByteArray := prog_14_method_5_code
def yX12_ones : MethodName := ⟨RX12, "ones", "(I)I"⟩
abbrev cX12_power : ByteArray := prog_14_method_6_code
def yX12_power : MethodName := ⟨RX12, "power", "(II)I"⟩
abbrev cX12_factorial : ByteArray := prog_14_method_7_code
def yX12_factorial : MethodName := ⟨RX12, "factorial", "(I)I"⟩
abbrev cX12_fraction : ByteArray := prog_14_method_8_code
def yX12_fraction : MethodName := ⟨RX12, "fraction", "(IIZ)I"⟩
abbrev cX12_isNumber : ByteArray := prog_14_method_9_code
def yX12_isNumber : MethodName := ⟨RX12, "isNumber", "(I)Z"⟩
abbrev cX12_write : ByteArray := prog_14_method_10_code
def yX12_write : MethodName := ⟨RX12, "write", "(I)I"⟩
abbrev cX12_wipe : ByteArray := prog_14_method_11_code
def yX12_wipe : MethodName := ⟨RX12, "wipe", "()I"⟩
abbrev cX12_takeHead : ByteArray := prog_14_method_12_code
def yX12_takeHead : MethodName := ⟨RX12, "takeHead", "(II)Z"⟩
abbrev cX12_takeOfRule : ByteArray := prog_14_method_13_code
def yX12_takeOfRule : MethodName := ⟨RX12, "takeOfRule", "(I)Z"⟩
abbrev cX12_readText : ByteArray := prog_14_method_14_code
def yX12_readText : MethodName := ⟨RX12, "readText", "()I"⟩
abbrev cX12_fault : ByteArray := prog_14_method_15_code
def yX12_fault : MethodName := ⟨RX12, "fault", "()I"⟩
abbrev cX12_codeOf : ByteArray := prog_14_method_16_code
def yX12_codeOf : MethodName := ⟨RX12, "codeOf", "(III)I"⟩
abbrev cX12_lowAt : ByteArray := prog_14_method_17_code
def yX12_lowAt : MethodName := ⟨RX12, "lowAt", "([III)I"⟩
abbrev cX12_highAt : ByteArray := prog_14_method_18_code
def yX12_highAt : MethodName := ⟨RX12, "highAt", "([III)I"⟩
abbrev cX12_low : ByteArray := prog_14_method_19_code
def yX12_low : MethodName := ⟨RX12, "low", "([II)I"⟩
abbrev cX12_high : ByteArray := prog_14_method_20_code
def yX12_high : MethodName := ⟨RX12, "high", "([II)I"⟩
abbrev cX12_isSo : ByteArray := prog_14_method_21_code
def yX12_isSo : MethodName := ⟨RX12, "isSo", "([II)Z"⟩
abbrev cX12_isNotSo : ByteArray := prog_14_method_22_code
def yX12_isNotSo : MethodName := ⟨RX12, "isNotSo", "([II)Z"⟩
abbrev cX12_negated : ByteArray := prog_14_method_23_code
def yX12_negated : MethodName := ⟨RX12, "negated", "(I)I"⟩
abbrev cX12_levelOf : ByteArray := prog_14_method_24_code
def yX12_levelOf : MethodName := ⟨RX12, "levelOf", "([I)I"⟩
abbrev cX12_weightOf : ByteArray := prog_14_method_25_code
def yX12_weightOf : MethodName := ⟨RX12, "weightOf", "(II)I"⟩
abbrev cX12_leastOf : ByteArray := prog_14_method_26_code
def yX12_leastOf : MethodName := ⟨RX12, "leastOf", "([II)I"⟩
abbrev cX12_cutMark : ByteArray := prog_14_method_27_code
def yX12_cutMark : MethodName := ⟨RX12, "cutMark", "([III)I"⟩
abbrev cX12_areSo : ByteArray := prog_14_method_28_code
def yX12_areSo : MethodName := ⟨RX12, "areSo", "([II)I"⟩
abbrev cX12_breakOf : ByteArray := prog_14_method_29_code
def yX12_breakOf : MethodName := ⟨RX12, "breakOf", "([I)I"⟩
abbrev cX12_tell : ByteArray := prog_14_method_30_code
def yX12_tell : MethodName := ⟨RX12, "tell", "(II)Z"⟩
abbrev cX12_ruleTells : ByteArray := prog_14_method_31_code
def yX12_ruleTells : MethodName := ⟨RX12, "ruleTells", "([II)Z"⟩
abbrev cX12_cutTells : ByteArray := prog_14_method_32_code
def yX12_cutTells : MethodName := ⟨RX12, "cutTells", "([II)Z"⟩
abbrev cX12_tells : ByteArray := prog_14_method_33_code
def yX12_tells : MethodName := ⟨RX12, "tells", "([I)Z"⟩
abbrev cX12_append : ByteArray := prog_14_method_34_code
def yX12_append : MethodName := ⟨RX12, "append", "([IIII)V"⟩
abbrev cX12_drawIn : ByteArray := prog_14_method_35_code
def yX12_drawIn : MethodName := ⟨RX12, "drawIn", "([I)V"⟩
abbrev cX12_task : ByteArray := prog_14_method_36_code
def yX12_task : MethodName := ⟨RX12, "task", "()I"⟩
abbrev cX12_lastOf : ByteArray := prog_14_method_37_code
def yX12_lastOf : MethodName := ⟨RX12, "lastOf", "([IIII)I"⟩
abbrev cX12_comes : ByteArray := prog_14_method_38_code
def yX12_comes : MethodName := ⟨RX12, "comes", "([II)V"⟩
abbrev cX12_whyBy : ByteArray := prog_14_method_39_code
def yX12_whyBy : MethodName := ⟨RX12, "whyBy", "([IIIIZ)I"⟩
abbrev cX12_whyOf : ByteArray := prog_14_method_40_code
def yX12_whyOf : MethodName := ⟨RX12, "whyOf", "([IIZ)I"⟩
abbrev cX12_greatest : ByteArray := prog_14_method_41_code
def yX12_greatest : MethodName := ⟨RX12, "greatest", "([II)I"⟩
abbrev cX12_manyOf : ByteArray := prog_14_method_42_code
def yX12_manyOf : MethodName := ⟨RX12, "manyOf", "([II)I"⟩
abbrev cX12_lastInSet : ByteArray := prog_14_method_43_code
def yX12_lastInSet : MethodName := ⟨RX12, "lastInSet", "()I"⟩
abbrev cX12_isReason : ByteArray := prog_14_method_44_code
def yX12_isReason : MethodName := ⟨RX12, "isReason", "([II)Z"⟩
abbrev cX12_forget : ByteArray := prog_14_method_45_code
def yX12_forget : MethodName := ⟨RX12, "forget", "([II)V"⟩
abbrev cX12_addCut : ByteArray := prog_14_method_46_code
def yX12_addCut : MethodName := ⟨RX12, "addCut", "([I)I"⟩
abbrev cX12_leaveAbove : ByteArray := prog_14_method_47_code
def yX12_leaveAbove : MethodName := ⟨RX12, "leaveAbove", "([II)V"⟩
abbrev cX12_learnOn : ByteArray := prog_14_method_48_code
def yX12_learnOn : MethodName := ⟨RX12, "learnOn", "([I)I"⟩
abbrev cX12_mayLearn : ByteArray := prog_14_method_49_code
def yX12_mayLearn : MethodName := ⟨RX12, "mayLearn", "([I)Z"⟩
abbrev cX12_mayMake : ByteArray := prog_14_method_50_code
def yX12_mayMake : MethodName := ⟨RX12, "mayMake", "([II)Z"⟩
abbrev cX12_makeOn : ByteArray := prog_14_method_51_code
def yX12_makeOn : MethodName := ⟨RX12, "makeOn", "([II)V"⟩
abbrev cX12_openOf : ByteArray := prog_14_method_52_code
def yX12_openOf : MethodName := ⟨RX12, "openOf", "([I)I"⟩
abbrev cX12_isSolved : ByteArray := prog_14_method_53_code
def yX12_isSolved : MethodName := ⟨RX12, "isSolved", "([I)Z"⟩
abbrev cX12_stepOn : ByteArray := prog_14_method_54_code
def yX12_stepOn : MethodName := ⟨RX12, "stepOn", "([I)V"⟩
abbrev cX12_layWay : ByteArray := prog_14_method_55_code
def yX12_layWay : MethodName := ⟨RX12, "layWay", "(I)Z"⟩
abbrev cX12_broken : ByteArray := prog_14_method_56_code
def yX12_broken : MethodName := ⟨RX12, "broken", "()I"⟩
abbrev cX12_isOpen : ByteArray := prog_14_method_57_code
def yX12_isOpen : MethodName := ⟨RX12, "isOpen", "()Z"⟩
abbrev cX12_fits : ByteArray := prog_14_method_58_code
def yX12_fits : MethodName := ⟨RX12, "fits", "(I)Z"⟩
abbrev cX12_isSeen : ByteArray := prog_14_method_59_code
def yX12_isSeen : MethodName := ⟨RX12, "isSeen", "()Z"⟩
abbrev cX12_count : ByteArray := prog_14_method_60_code
def yX12_count : MethodName := ⟨RX12, "count", "(I)I"⟩
abbrev cX12_leastOfAll : ByteArray := prog_14_method_61_code
def yX12_leastOfAll : MethodName := ⟨RX12, "leastOfAll", "(I)I"⟩
abbrev cX12_about : ByteArray := prog_14_method_62_code
def yX12_about : MethodName := ⟨RX12, "about", "(I)I"⟩
abbrev cX12_number : ByteArray := prog_14_method_63_code
def yX12_number : MethodName := ⟨RX12, "number", "(II)I"⟩
abbrev cX12_rule : ByteArray := prog_14_method_64_code
def yX12_rule : MethodName := ⟨RX12, "rule", "(II)I"⟩
abbrev cX12_mark : ByteArray := prog_14_method_65_code
def yX12_mark : MethodName := ⟨RX12, "mark", "(II)I"⟩
abbrev cX12_isCut : ByteArray := prog_14_method_66_code
def yX12_isCut : MethodName := ⟨RX12, "isCut", "(I)Z"⟩
abbrev cX12_cut : ByteArray := prog_14_method_67_code
def yX12_cut : MethodName := ⟨RX12, "cut", "(II)I"⟩
abbrev cX12_follows : ByteArray := prog_14_method_68_code
def yX12_follows : MethodName := ⟨RX12, "follows", "(I)I"⟩
abbrev cX12_note : ByteArray := prog_14_method_69_code
def yX12_note : MethodName := ⟨RX12, "note", "()V"⟩
abbrev cX12_make : ByteArray := prog_14_method_70_code
def yX12_make : MethodName := ⟨RX12, "make", "(III)I"⟩
abbrev cX12_learn : ByteArray := prog_14_method_71_code
def yX12_learn : MethodName := ⟨RX12, "learn", "()I"⟩
abbrev cX12_leave : ByteArray := prog_14_method_72_code
def yX12_leave : MethodName := ⟨RX12, "leave", "()I"⟩
abbrev cX12_run : ByteArray := prog_14_method_73_code
def yX12_run : MethodName := ⟨RX12, "run", "(I)I"⟩
abbrev cX12_undo : ByteArray := prog_14_method_74_code
def yX12_undo : MethodName := ⟨RX12, "undo", "()I"⟩
abbrev cX12_makes : ByteArray := prog_14_method_75_code
def yX12_makes : MethodName := ⟨RX12, "makes", "(III)Z"⟩
abbrev cX12_judged : ByteArray := prog_14_method_76_code
def yX12_judged : MethodName := ⟨RX12, "judged", "(III)Z"⟩
abbrev cX12_thousands : ByteArray := prog_14_method_77_code
def yX12_thousands : MethodName := ⟨RX12, "thousands", "(I)J"⟩
abbrev cX12_judge : ByteArray := prog_14_method_78_code
def yX12_judge : MethodName := ⟨RX12, "judge", "(IJ)I"⟩
abbrev cX12_see : ByteArray := prog_14_method_79_code
def yX12_see : MethodName := ⟨RX12, "see", "(IIII)I"⟩
abbrev cX12_unsee : ByteArray := prog_14_method_80_code
def yX12_unsee : MethodName := ⟨RX12, "unsee", "()I"⟩
abbrev cX12_which : ByteArray := prog_14_method_81_code
def yX12_which : MethodName := ⟨RX12, "which", "()I"⟩
abbrev cX12_layWorth : ByteArray := prog_14_method_82_code
def yX12_layWorth : MethodName := ⟨RX12, "layWorth", "()V"⟩
abbrev cX12_share : ByteArray := prog_14_method_83_code
def yX12_share : MethodName := ⟨RX12, "share", "(IZ)I"⟩
abbrev cX12_chance : ByteArray := prog_14_method_84_code
def yX12_chance : MethodName := ⟨RX12, "chance", "(IIZ)I"⟩
abbrev cX12_seed : ByteArray := prog_14_method_85_code
def yX12_seed : MethodName := ⟨RX12, "seed", "(J)J"⟩
abbrev cX12_drawOne : ByteArray := prog_14_method_86_code
def yX12_drawOne : MethodName := ⟨RX12, "drawOne", "(I)V"⟩
abbrev cX12_drawn : ByteArray := prog_14_method_87_code
def yX12_drawn : MethodName := ⟨RX12, "drawn", "(I)I"⟩
abbrev cX12_keep : ByteArray := prog_14_method_88_code
def yX12_keep : MethodName := ⟨RX12, "keep", "(I)I"⟩
abbrev cX12_again : ByteArray := prog_14_method_89_code
def yX12_again : MethodName := ⟨RX12, "again", "(I)I"⟩
def RJ6 : String := "java/lang/Integer"
def TJ6 : u_T := fun k => match k with
  | _ => ("", "", "", false)
def tyJ6 : Nat → FieldType := fun k => match k with
  | _ => .int
abbrev wsJ60 : List Cond := u_ws RJ6 TJ6 0
theorem nmJ6 : ∀ a, a < 0 → ∀ b, b < 0 → a ≠ b → (TJ6 a).2.1 ≠ (TJ6 b).2.1 := by decide +kernel
theorem tyJ6_ok : ∀ k, k < 0 → parseFieldDescriptor (TJ6 k).2.2.1 = some (tyJ6 k) := by decide +kernel
abbrev cJ6_bitCount_0f7a4 : ByteArray := prog_15_method_49_code
def yJ6_bitCount_0f7a4 : MethodName := ⟨RJ6, "bitCount", "(I)I"⟩
def RJ9 : String := "java/lang/Math"
def TJ9 : u_T := fun k => match k with
  | _ => ("", "", "", false)
def tyJ9 : Nat → FieldType := fun k => match k with
  | _ => .int
abbrev wsJ90 : List Cond := u_ws RJ9 TJ9 0
theorem nmJ9 : ∀ a, a < 0 → ∀ b, b < 0 → a ≠ b → (TJ9 a).2.1 ≠ (TJ9 b).2.1 := by decide +kernel
theorem tyJ9_ok : ∀ k, k < 0 → parseFieldDescriptor (TJ9 k).2.2.1 = some (tyJ9 k) := by decide +kernel
abbrev cJ9_floorDiv_7cf53 : ByteArray := prog_16_method_47_code
def yJ9_floorDiv_7cf53 : MethodName := ⟨RJ9, "floorDiv", "(II)I"⟩
abbrev cJ9_max_7cf53 : ByteArray := prog_16_method_65_code
def yJ9_max_7cf53 : MethodName := ⟨RJ9, "max", "(II)I"⟩
abbrev cJ9_min_7cf53 : ByteArray := prog_16_method_69_code
def yJ9_min_7cf53 : MethodName := ⟨RJ9, "min", "(II)I"⟩
def RJ10 : String := "java/lang/System"
def TJ10 : u_T := fun k => match k with
  | _ => ("", "", "", false)
def tyJ10 : Nat → FieldType := fun k => match k with
  | _ => .int
abbrev wsJ100 : List Cond := u_ws RJ10 TJ10 0
theorem nmJ10 : ∀ a, a < 0 → ∀ b, b < 0 → a ≠ b → (TJ10 a).2.1 ≠ (TJ10 b).2.1 := by decide +kernel
theorem tyJ10_ok : ∀ k, k < 0 → parseFieldDescriptor (TJ10 k).2.2.1 = some (tyJ10 k) := by decide +kernel
def RL : String := "CutTrailLaw"
abbrev cL_law : ByteArray := code
def yL_law : MethodName := ⟨RL, "law", "([I)Z"⟩
abbrev vwCl : List vw_C := [(RX0, TX0, 2), (RX1, TX1, 3), (RX2, TX2, 3), (RX3, TX3, 3), (RX4, TX4, 2), (RX5, TX5, 4), (RX6, TX6, 5), (RX7, TX7, 2), (RX8, TX8, 2), (RX9, TX9, 7), (RX10, TX10, 3), (RX11, TX11, 11), (RX12, TX12, 31)]
end
section
/-! THE LAYER: values and cells as plain numbers (ints as Int, references as places in a list of cells), a judgement CV over them, a contract CM; each rule below is one of the kit's rows said in these words. -/
abbrev ct_V : Type := Int ⊕ (Int ⊕ Option Nat)
abbrev ct_C : Type := (Nat × List ct_V) ⊕ ((Nat × Nat × (Nat → Int)) ⊕ (Nat × Nat × (Nat → Option Nat)))
abbrev vI (i : Int) : ct_V := Sum.inl i
abbrev vL (i : Int) : ct_V := Sum.inr (Sum.inl i)
abbrev vO (r : Option Nat) : ct_V := Sum.inr (Sum.inr r)
abbrev vR (q : Nat) : ct_V := Sum.inr (Sum.inr (some q))
abbrev cO (ci : Nat) (fs : List ct_V) : ct_C := Sum.inl (ci, fs)
abbrev cA (t n : Nat) (f : Nat → Int) : ct_C := Sum.inr (Sum.inl (t, n, f))
abbrev cQ (t n : Nat) (f : Nat → Option Nat) : ct_C := Sum.inr (Sum.inr (t, n, f))
/-- a value, by the addresses of the places -/
def ct_tv (as : Nat → Nat) (v : ct_V) : Value := match v with
  | .inl i => .int (Int32.ofInt i)
  | .inr (.inl i) => .long (Int64.ofInt i)
  | .inr (.inr r) => va_rf (r.map as)
def ct_te (kA : Nat → ClassId) (as : Nat → Nat) (c : ct_C) : va_E := match c with
  | .inl o => .inr (o.1, o.2.map (ct_tv as))
  | .inr (.inl a) => .inl (kA a.1, a.2.1, .inl (fun j => Int32.ofInt (a.2.2 j)))
  | .inr (.inr a) => .inl (kA a.1, a.2.1, .inr (.inr (.inr (.inr (fun j => (a.2.2 j).map as)))))
def ct_wd (kA : Nat → ClassId) (as : Nat → Nat) (w : List ct_C) : va_W := w.mapIdx (fun i c => (as i, ct_te kA as c))
theorem ct_wd_at {kA : Nat → ClassId} {as : Nat → Nat} {w : List ct_C} {i : Nat} {c : ct_C} (h : w[i]? = some c) : (ct_wd kA as w)[i]? = some (as i, ct_te kA as c) := by
  simp [ct_wd, List.getElem?_mapIdx, h]
theorem ct_wd_inv {kA : Nat → ClassId} {as : Nat → Nat} {w : List ct_C} {i : Nat} {q : Nat × va_E} (h : (ct_wd kA as w)[i]? = some q) : ∃ c, w[i]? = some c ∧ q = (as i, ct_te kA as c) := by
  simp only [ct_wd, List.getElem?_mapIdx, Option.map_eq_some_iff] at h
  obtain ⟨c, h1, h2⟩ := h
  exact ⟨c, h1, h2.symm⟩
theorem ct_wd_len {kA : Nat → ClassId} {as : Nat → Nat} {w : List ct_C} : (ct_wd kA as w).length = w.length := by simp [ct_wd]
theorem ct_wd_set {kA : Nat → ClassId} {as : Nat → Nat} {w : List ct_C} {q : Nat} {c : ct_C} : (ct_wd kA as w).set q (as q, ct_te kA as c) = ct_wd kA as (w.set q c) := by
  apply List.ext_getElem?
  intro i
  by_cases h : q = i
  · subst h
    by_cases hl : q < w.length
    · rw [List.getElem?_set_self (by rw [ct_wd_len]; exact hl), ct_wd_at (List.getElem?_set_self hl)]
    · rw [List.getElem?_eq_none (by simp [ct_wd_len]; omega), List.getElem?_eq_none (by simp [ct_wd_len]; omega)]
  · simp [ct_wd, List.getElem?_mapIdx, List.getElem?_set_ne h]
/-- the array classes -/
def ct_tys (kA : Nat → ClassId) : List (ClassId × FieldType) := [(kA 0, .int), (kA 1, .boolean), (kA 2, .object "CutTrail$State"), (kA 3, .array .int)]
/-- a method: its name, bytes, locals, what it returns -/
abbrev ct_M : Type := MethodName × ByteArray × Nat × Option FieldType
/-- the tables' words that stay as they are; the nest's words -/
def ct_isN : Cond → Bool
  | .fieldLinkNest .. => true
  | .methodLinkNest .. => true
  | _ => false
def ct_tbl : List Cond := lw_tbl.filter goodWord
def ct_nst : List Cond := lw_tbl.filter ct_isN
def ct_AOA (U : State) : Prop := (Cond.arrayOver (.array .int)).before #[] U = true
/-- the static row of orders -/
def ct_ord : Nat → Value := fun j => .int (match j with | 0 => 1 | 1 => 1 | 2 => 2 | 3 => 6 | 4 => 24 | 5 => 120 | _ => 720)
def ct_st (A : Nat → Prop) (U : State) : Prop := ∃ t : Nat, va_Z "CutTrail" "ORDERS" "[I" (.ref t) A U U.heap ∧ va_T .int t 7 ct_ord A U U.heap
def ct_nw (U : State) : Prop := (∀ w ∈ ct_nst, va_Nw w U) ∧ va_AO "CutTrail$State" U ∧ ct_AOA U
def ct_ws (M : ct_M) : List Cond := Cond.code M.1 M.2.1 M.2.2.1 M.2.2.2 :: ct_tbl
def ct_rm (r : Nat × Nat × Nat) : Room := { frames := r.1, cells := r.2.1, slots := r.2.2, locals := 39 * r.1 }
/-- what holds at a call's start -/
def ct_B (D : va_G) (kA : Nat → ClassId) (as : Nat → Nat) (w : List ct_C) (sz : Nat) (U : State) : Prop :=
  U.heap.size = sz ∧ va_P D vwCl (ct_wd kA as w) U.heap ∧ va_K D vwCl (ct_tys kA) U ∧ ct_nw U ∧ ct_st (va_A (ct_wd kA as w) sz) U ∧ va_D (fun _ => True) (ct_wd kA as w)
/-- what holds at its end -/
def ct_Qc (D : va_G) (kA : Nat → ClassId) (as : Nat → Nat) (k0 n0 : Nat) (A : Nat → Prop) (Q : Option ct_V → List ct_C → Prop) : Array Value → State → Outcome → State → Prop := fun _ st oc t =>
  (∃ (r : Option ct_V) (w' : List ct_C) (as' : Nat → Nat), oc = .returned (r.map (ct_tv as')) ∧ Q r w' ∧ (∀ i, k0 = 0 ∨ i < n0 → as' i = as i) ∧ va_P D vwCl (ct_wd kA as' w') t.heap ∧ va_D A (ct_wd kA as' w')) ∧ va_F A st t
/-- THE CONTRACT: method M, room r, from these arguments and cells: it returns with Q -/
def CM (M : ct_M) (r : Nat × Nat × Nat) (args : List ct_V) (w : List ct_C) (Q : Option ct_V → List ct_C → Prop) : Prop :=
  ∀ (l : Launch) (D : va_G) (kA : Nat → ClassId) (as : Nat → Nat) (sz : Nat),
    Met l M.1 (ct_ws M) (ct_rm r) (va_Pc (args.map (ct_tv as)) (ct_B D kA as w sz)) (ct_Qc D kA as r.2.1 w.length (va_A (ct_wd kA as w) sz) Q) r.2.1 r.2.2 (va_A (ct_wd kA as w) sz)
/-- the standing facts of a body -/
def ct_cx (M : ct_M) (D : va_G) (kA : Nat → ClassId) (A : Nat → Prop) (p : Program) (s : State) (m : MethodId) (args : Array Value) (meth : Method) (c : Code) : Prop :=
  p.tables.exec = Jvm.exec ∧ c.code = M.2.1 ∧ meth.sig.returnType = M.2.2.2 ∧ c.maxLocals = M.2.2.1 ∧ s.vm.findClass M.1.cls = some m.cls ∧ (∀ w ∈ ct_tbl, w.before args s = true) ∧ ct_nw s ∧ va_K D vwCl (ct_tys kA) s ∧ (∀ q, s.heap.size ≤ q → A q) ∧ meth.locks = false ∧ ct_st A s ∧ meth.name = M.1.name
def ct_lm (as : Nat → Nat) (ls : List (Nat × ct_V)) : List (Nat × Value) := ls.map (fun q => (q.1, ct_tv as q.2))
/-- THE JUDGEMENT: at pc, with these locals, stack and cells, it comes to its end with Q -/
def CV (M : ct_M) (r : Nat × Nat × Nat) (n0 : Nat) (z : Nat × Nat) (pc : Nat) (ls : List (Nat × ct_V)) (st : List ct_V) (w : List ct_C) (Q : Option ct_V → List ct_C → Prop) : Prop :=
  ∀ (p : Program) (l : Launch) (e : Env) (s : State) (m : MethodId) (args : Array Value) (below : List Frame) (meth : Method) (c : Code) (D : va_G) (kA : Nat → ClassId) (as0 as : Nat → Nat) (A : Nat → Prop) (H : Heap) (locs : List Loc) (la : Array Slot),
    ct_cx M D kA A p s m args meth c → (∀ i, r.2.1 = 0 ∨ i < n0 → as i = as0 i) → va_P D vwCl (ct_wd kA as w) H → va_D A (ct_wd kA as w) → va_S A s.heap H locs → lv_has la M.2.2.1 (ct_lm as ls) →
    W p l e (ct_rm r) s m args below meth c H locs z.1 z.2 (MQ below (ct_Qc D kA as0 r.2.1 n0 A Q) args s r.2.1 r.2.2 A) (F0 m pc la (st.map (ct_tv as)))
theorem ct_cat (as : Nat → Nat) (v : ct_V) : (ct_tv as v).category = (match v with | .inr (.inl _) => 2 | _ => 1) := by
  rcases v with i | i | r
  · rfl
  · rfl
  · cases r <;> rfl
def ct_args : Nat → List ct_V → List (Nat × ct_V)
  | _, [] => []
  | i, (.inr (.inl x)) :: t => (i, .inr (.inl x)) :: ct_args (i + 2) t
  | i, v :: t => (i, v) :: ct_args (i + 1) t
def ct_alen : List ct_V → Nat
  | [] => 0
  | (.inr (.inl _)) :: t => ct_alen t + 2
  | _ :: t => ct_alen t + 1
theorem ct_args_eq (as : Nat → Nat) : ∀ (vs : List ct_V) (i : Nat), lv_args i (vs.map (ct_tv as)) = ct_lm as (ct_args i vs)
  | [], _ => rfl
  | .inl x :: t, i => by
    have h := ct_args_eq as t (i + 1)
    simp only [List.map_cons, lv_args, ct_args, ct_lm, ct_cat] at h ⊢
    simp [h]
  | .inr (.inl x) :: t, i => by
    have h := ct_args_eq as t (i + 2)
    simp only [List.map_cons, lv_args, ct_args, ct_lm, ct_cat] at h ⊢
    simp [h]
  | .inr (.inr x) :: t, i => by
    have h := ct_args_eq as t (i + 1)
    simp only [List.map_cons, lv_args, ct_args, ct_lm, ct_cat] at h ⊢
    simp [h]
theorem ct_alen_eq (as : Nat → Nat) : ∀ (vs : List ct_V), (lg_sl (vs.map (ct_tv as))).length = ct_alen vs
  | [] => rfl
  | .inl x :: t => by
    have h := ct_alen_eq as t
    simp only [List.map_cons, lg_sl, List.flatMap_cons, List.length_append, ct_alen, ct_cat] at h ⊢
    simp [h]; omega
  | .inr (.inl x) :: t => by
    have h := ct_alen_eq as t
    simp only [List.map_cons, lg_sl, List.flatMap_cons, List.length_append, ct_alen, ct_cat] at h ⊢
    simp [h]; omega
  | .inr (.inr x) :: t => by
    have h := ct_alen_eq as t
    simp only [List.map_cons, lg_sl, List.flatMap_cons, List.length_append, ct_alen, ct_cat] at h ⊢
    simp [h]; omega
/-- a contract out of the judgement at its entry -/
theorem CM.of {M : ct_M} {r : Nat × Nat × Nat} {av : List ct_V} {w : List ct_C} {Q : Option ct_V → List ct_C → Prop} (hy : plainName M.1.cls = true) (hn : ct_alen av ≤ M.2.2.1)
    (k : CV M r w.length (0, 0) 0 (ct_args 0 av) [] w Q) : CM M r av w Q := by
  intro l D kA as sz
  refine Met.ofW (cc := M.2.1) (maxL := M.2.2.1) (ret := M.2.2.2) hy rfl ?_
  intro p e s m args below meth c s₁ B hml hv
  obtain ⟨rfl, hsz, hP, hK, hN, hT, hD0⟩ := hv
  subst hsz
  have hts := atoms_spec (ws := ct_ws M) B.pre
  have hown : s.vm.findClass M.1.cls = some m.cls := findClass_of_methodNamed B.named
  have hnm : meth.name = M.1.name := (name_of_methodNamed B.named B.method).1
  have hl := lv_entry (av.map (ct_tv as)) (n := M.2.2.1) (by rw [ct_alen_eq]; exact hn)
  rw [ct_args_eq] at hl
  rw [lg_entry_eq]
  exact k p l e s m _ below meth c D kA as as (va_A (ct_wd kA as w) s.heap.size) s.heap [] _ ⟨B.exec, B.bytes, B.returns, hml, hown, fun w hw => hts w (List.mem_cons_of_mem _ hw), hN, hK, fun q h => Or.inr h, B.notSynchronized, hT, hnm⟩ (fun _ _ => rfl) hP hD0.self va_S.rf hl
end
section
/-! THE RULES of the layer, an instruction each -/
section CVR
variable {M : ct_M} {r : Nat × Nat × Nat} {n0 : Nat} {z : Nat × Nat} {pc : Nat} {ls : List (Nat × ct_V)} {st : List ct_V} {w : List ct_C} {Q : Option ct_V → List ct_C → Prop}
/-- fewer locals -/
def ct_pick (l : List (Nat × ct_V)) (ks : List Nat) : List (Nat × ct_V) := ks.filterMap (fun k => l[k]?)
theorem cv_loc {ls' : List (Nat × ct_V)} (ks : List Nat) (h : ct_pick ls ks = ls') (k : CV M r n0 z pc ls' st w Q) : CV M r n0 z pc ls st w Q := by
  intro p l e s m args below meth c D kA as0 as A H locs la hc ha hP hD hS hl
  refine k p l e s m args below meth c D kA as0 as A H locs la hc ha hP hD hS ?_
  refine ⟨hl.1, hl.2.1, fun q hq => hl.2.2 q ?_⟩
  subst h
  obtain ⟨x, hx, rfl⟩ := List.mem_map.mp hq
  obtain ⟨i, -, hi⟩ := List.mem_filterMap.mp hx
  exact List.mem_map.mpr ⟨x, List.mem_of_getElem? hi, rfl⟩
def ct_get (ls : List (Nat × ct_V)) (k : Nat) : Option ct_V := match ls with
  | [] => none
  | q :: t => if q.1 = k then some q.2 else ct_get t k
theorem ct_get_mem {k : Nat} {v : ct_V} : ∀ {ls : List (Nat × ct_V)}, ct_get ls k = some v → (k, v) ∈ ls
  | [], h => by simp [ct_get] at h
  | q :: t, h => by
    unfold ct_get at h
    split at h
    · rename_i h1
      cases h
      subst h1
      exact List.mem_cons_self
    · exact List.mem_cons_of_mem _ (ct_get_mem h)
theorem ct_la {as : Nat → Nat} {la : Array Slot} {n k : Nat} {v : ct_V} (hl : lv_has la n (ct_lm as ls)) (h : ct_get ls k = some v) : la[k]? = some (.val (ct_tv as v)) :=
  hl.2.2 (k, ct_tv as v) (List.mem_map.mpr ⟨(k, v), ct_get_mem h, rfl⟩)
/-- a local's new value, the list in order -/
def ct_put (k : Nat) (v : ct_V) : List (Nat × ct_V) → List (Nat × ct_V)
  | [] => [(k, v)]
  | q :: t => if q.1 = k then (k, v) :: t else if k < q.1 then (k, v) :: q :: t else q :: ct_put k v t
theorem ct_put_mem {k : Nat} {v : ct_V} {q : Nat × ct_V} : ∀ {ls : List (Nat × ct_V)}, q ∈ ct_put k v ls → q = (k, v) ∨ q ∈ ls
  | [], h => by simpa [ct_put] using h
  | x :: t, h => by
    unfold ct_put at h
    split at h
    · rcases List.mem_cons.mp h with h | h
      · exact Or.inl h
      · exact Or.inr (List.mem_cons_of_mem _ h)
    · split at h
      · rcases List.mem_cons.mp h with h | h
        · exact Or.inl h
        · exact Or.inr h
      · rcases List.mem_cons.mp h with h | h
        · exact Or.inr (h ▸ List.mem_cons_self)
        · exact (ct_put_mem h).imp id (List.mem_cons_of_mem _)
def ct_isL : ct_V → Bool
  | .inr (.inl _) => true
  | _ => false
/-- a store at k is plain: each local's place stands once, in order, and none is a long that ends there -/
def ct_ok1 (k : Nat) (ls : List (Nat × ct_V)) : Bool := match ls with
  | [] => true
  | q :: t => (!(q.1 + 1 == k && ct_isL q.2)) && ct_ok1 k t
def ct_del (k : Nat) : List (Nat × ct_V) → List (Nat × ct_V)
  | [] => []
  | q :: t => if q.1 = k then ct_del k t else q :: ct_del k t
theorem ct_del_mem {k : Nat} {q : Nat × ct_V} : ∀ {ls : List (Nat × ct_V)}, q ∈ ct_del k ls → q ∈ ls ∧ q.1 ≠ k
  | [], h => by simp [ct_del] at h
  | x :: t, h => by
    unfold ct_del at h
    split at h
    · exact ⟨List.mem_cons_of_mem _ (ct_del_mem h).1, (ct_del_mem h).2⟩
    · rename_i hx
      rcases List.mem_cons.mp h with h | h
      · subst h
        exact ⟨List.mem_cons_self, hx⟩
      · exact ⟨List.mem_cons_of_mem _ (ct_del_mem h).1, (ct_del_mem h).2⟩
theorem ct_ok1_mem {k : Nat} {q : Nat × ct_V} : ∀ {ls : List (Nat × ct_V)}, ct_ok1 k ls = true → q ∈ ls → ¬ (q.1 + 1 = k ∧ ct_isL q.2 = true)
  | [], _, h => by simp at h
  | x :: t, h0, h => by
    simp only [ct_ok1, Bool.and_eq_true, Bool.not_eq_true', Bool.and_eq_false_iff, beq_eq_false_iff_ne] at h0
    rcases List.mem_cons.mp h with h | h
    · subst h
      rintro ⟨h1, h2⟩
      rcases h0.1 with h3 | h3
      · exact h3 h1
      · rw [h2] at h3; cases h3
    · exact ct_ok1_mem h0.2 h
theorem ct_cat2 {as : Nat → Nat} {v : ct_V} : ((ct_tv as v).category == 2) = ct_isL v := by
  rcases v with i | i | r
  · rfl
  · rfl
  · cases r <;> rfl
/-- the new locals out of the kit's, of one word -/
theorem ct_st1 {as : Nat → Nat} {la : Array Slot} {n k : Nat} {v : ct_V} (hk : ct_ok1 k ls = true) (h : lv_has la n ((k, ct_tv as v) :: (ct_lm as ls).filter (fun q => !(q.1 == k) && !(q.1 + 1 == k && q.2.category == 2)))) : lv_has la n (ct_lm as (ct_put k v (ct_del k ls))) := by
  refine ⟨h.1, h.2.1, fun q hq => h.2.2 q ?_⟩
  obtain ⟨x, hx, rfl⟩ := List.mem_map.mp hq
  rcases ct_put_mem hx with rfl | hx
  · exact List.mem_cons_self
  · obtain ⟨h1, h2⟩ := ct_del_mem hx
    refine List.mem_cons_of_mem _ (List.mem_filter.mpr ⟨List.mem_map.mpr ⟨x, h1, rfl⟩, ?_⟩)
    have h3 := ct_ok1_mem hk h1
    simp only [ct_cat2, Bool.and_eq_true, Bool.not_eq_true', beq_eq_false_iff_ne, Bool.and_eq_false_iff]
    refine ⟨h2, ?_⟩
    by_cases h4 : x.1 + 1 = k
    · right
      cases h5 : ct_isL x.2
      · rfl
      · exact absurd ⟨h4, h5⟩ h3
    · exact Or.inl h4
theorem ct_st2 {as : Nat → Nat} {la : Array Slot} {n k : Nat} {v : ct_V} (hk : ct_ok1 k ls = true) (h : lv_has la n ((k, ct_tv as v) :: (ct_lm as ls).filter (fun q => !(q.1 == k) && (!(q.1 == k + 1) && !(q.1 + 1 == k && q.2.category == 2))))) : lv_has la n (ct_lm as (ct_put k v (ct_del (k + 1) (ct_del k ls)))) := by
  refine ⟨h.1, h.2.1, fun q hq => h.2.2 q ?_⟩
  obtain ⟨x, hx, rfl⟩ := List.mem_map.mp hq
  rcases ct_put_mem hx with rfl | hx
  · exact List.mem_cons_self
  · obtain ⟨h1, h2⟩ := ct_del_mem hx
    obtain ⟨h1, h6⟩ := ct_del_mem h1
    refine List.mem_cons_of_mem _ (List.mem_filter.mpr ⟨List.mem_map.mpr ⟨x, h1, rfl⟩, ?_⟩)
    have h3 := ct_ok1_mem hk h1
    simp only [ct_cat2, Bool.and_eq_true, Bool.not_eq_true', beq_eq_false_iff_ne, Bool.and_eq_false_iff]
    refine ⟨h6, h2, ?_⟩
    by_cases h4 : x.1 + 1 = k
    · right
      cases h5 : ct_isL x.2
      · rfl
      · exact absurd ⟨h4, h5⟩ h3
    · exact Or.inl h4
-- constants
theorem cv_iconst {n : Int} (hd : decode M.2.1 pc = .ok (.iconst n, 1)) (k : CV M r n0 z (pc + 1) ls (vI n :: st) w Q) : CV M r n0 z pc ls st w Q := by
  intro p l e s m args below meth c D kA as0 as A H locs la hc ha hP hD hS hl
  exact lv_iconst hc.1 hc.2.1 hd rfl (k p l e s m args below meth c D kA as0 as A H locs la hc ha hP hD hS hl)
theorem cv_bipush {n : Int} (hd : decode M.2.1 pc = .ok (.bipush n, 2)) (hn : (Int8.ofInt n).toInt32 = Int32.ofInt n) (k : CV M r n0 z (pc + 2) ls (vI n :: st) w Q) : CV M r n0 z pc ls st w Q := by
  intro p l e s m args below meth c D kA as0 as A H locs la hc ha hP hD hS hl
  exact lv_bipush hc.1 hc.2.1 hd hn (k p l e s m args below meth c D kA as0 as A H locs la hc ha hP hD hS hl)
theorem cv_sipush {n : Int} (hd : decode M.2.1 pc = .ok (.sipush n, 3)) (hn : (Int16.ofInt n).toInt32 = Int32.ofInt n) (k : CV M r n0 z (pc + 3) ls (vI n :: st) w Q) : CV M r n0 z pc ls st w Q := by
  intro p l e s m args below meth c D kA as0 as A H locs la hc ha hP hD hS hl
  exact lv_sipush hc.1 hc.2.1 hd hn (k p l e s m args below meth c D kA as0 as A H locs la hc ha hP hD hS hl)
theorem cv_lconst {n : Fin 2} {v : Int} (hd : decode M.2.1 pc = .ok (.lconst n, 1)) (hn : Int64.ofNat (n : Nat) = Int64.ofInt v) (k : CV M r n0 z (pc + 1) ls (vL v :: st) w Q) : CV M r n0 z pc ls st w Q := by
  intro p l e s m args below meth c D kA as0 as A H locs la hc ha hP hD hS hl
  exact lv_lconst hc.1 hc.2.1 hd hn (k p l e s m args below meth c D kA as0 as A H locs la hc ha hP hD hS hl)
-- locals
theorem cv_iload_n {i : Fin 4} {x : Int} (hd : decode M.2.1 pc = .ok (.iload_n i, 1)) (h : ct_get ls (i : Nat) = some (vI x)) (k : CV M r n0 z (pc + 1) ls (vI x :: st) w Q) : CV M r n0 z pc ls st w Q := by
  intro p l e s m args below meth c D kA as0 as A H locs la hc ha hP hD hS hl
  exact lv_iload_n hc.1 hc.2.1 hd rfl (ct_la hl h) (k p l e s m args below meth c D kA as0 as A H locs la hc ha hP hD hS hl)
theorem cv_iload {i : Nat} {x : Int} (hd : decode M.2.1 pc = .ok (.iload i, 2)) (h : ct_get ls i = some (vI x)) (k : CV M r n0 z (pc + 2) ls (vI x :: st) w Q) : CV M r n0 z pc ls st w Q := by
  intro p l e s m args below meth c D kA as0 as A H locs la hc ha hP hD hS hl
  exact lv_iload hc.1 hc.2.1 hd (ct_la hl h) (k p l e s m args below meth c D kA as0 as A H locs la hc ha hP hD hS hl)
theorem cv_lload_n {i : Fin 4} {x : Int} (hd : decode M.2.1 pc = .ok (.lload_n i, 1)) (h : ct_get ls (i : Nat) = some (vL x)) (k : CV M r n0 z (pc + 1) ls (vL x :: st) w Q) : CV M r n0 z pc ls st w Q := by
  intro p l e s m args below meth c D kA as0 as A H locs la hc ha hP hD hS hl
  exact lv_lload_n hc.1 hc.2.1 hd rfl (ct_la hl h) (k p l e s m args below meth c D kA as0 as A H locs la hc ha hP hD hS hl)
theorem cv_lload {i : Nat} {x : Int} (hd : decode M.2.1 pc = .ok (.lload i, 2)) (h : ct_get ls i = some (vL x)) (k : CV M r n0 z (pc + 2) ls (vL x :: st) w Q) : CV M r n0 z pc ls st w Q := by
  intro p l e s m args below meth c D kA as0 as A H locs la hc ha hP hD hS hl
  exact lv_lload hc.1 hc.2.1 hd (ct_la hl h) (k p l e s m args below meth c D kA as0 as A H locs la hc ha hP hD hS hl)
theorem cv_aload_n {i : Fin 4} {x : Nat} (hd : decode M.2.1 pc = .ok (.aload_n i, 1)) (h : ct_get ls (i : Nat) = some (vR x)) (k : CV M r n0 z (pc + 1) ls (vR x :: st) w Q) : CV M r n0 z pc ls st w Q := by
  intro p l e s m args below meth c D kA as0 as A H locs la hc ha hP hD hS hl
  exact lv_aload_n hc.1 hc.2.1 hd rfl (ct_la hl h) (k p l e s m args below meth c D kA as0 as A H locs la hc ha hP hD hS hl)
theorem cv_aload {i : Nat} {x : Nat} (hd : decode M.2.1 pc = .ok (.aload i, 2)) (h : ct_get ls i = some (vR x)) (k : CV M r n0 z (pc + 2) ls (vR x :: st) w Q) : CV M r n0 z pc ls st w Q := by
  intro p l e s m args below meth c D kA as0 as A H locs la hc ha hP hD hS hl
  exact lv_aload hc.1 hc.2.1 hd (ct_la hl h) (k p l e s m args below meth c D kA as0 as A H locs la hc ha hP hD hS hl)
theorem cv_istore_n {i : Fin 4} {x : Int} {ls' : List (Nat × ct_V)} (hd : decode M.2.1 pc = .ok (.istore_n i, 1)) (hn : (i : Nat) < M.2.2.1) (ho : ct_ok1 (i : Nat) ls = true) (h : ct_put (i : Nat) (vI x) (ct_del (i : Nat) ls) = ls') (k : CV M r n0 z (pc + 1) ls' st w Q) : CV M r n0 z pc ls (vI x :: st) w Q := by
  intro p l e s m args below meth c D kA as0 as A H locs la hc ha hP hD hS hl
  subst h
  exact lv_istore_n hc.1 hc.2.1 hd rfl hl hn rfl (fun la' hl' => k p l e s m args below meth c D kA as0 as A H locs la' hc ha hP hD hS (ct_st1 (v := vI x) ho hl'))
theorem cv_istore {i : Nat} {x : Int} {ls' : List (Nat × ct_V)} (hd : decode M.2.1 pc = .ok (.istore i, 2)) (hn : i < M.2.2.1) (ho : ct_ok1 i ls = true) (h : ct_put i (vI x) (ct_del i ls) = ls') (k : CV M r n0 z (pc + 2) ls' st w Q) : CV M r n0 z pc ls (vI x :: st) w Q := by
  intro p l e s m args below meth c D kA as0 as A H locs la hc ha hP hD hS hl
  subst h
  exact lv_istore hc.1 hc.2.1 hd hl hn rfl (fun la' hl' => k p l e s m args below meth c D kA as0 as A H locs la' hc ha hP hD hS (ct_st1 (v := vI x) ho hl'))
theorem cv_lstore_n {i : Fin 4} {x : Int} {ls' : List (Nat × ct_V)} (hd : decode M.2.1 pc = .ok (.lstore_n i, 1)) (hn : (i : Nat) + 1 < M.2.2.1) (ho : ct_ok1 (i : Nat) ls = true) (h : ct_put (i : Nat) (vL x) (ct_del ((i : Nat) + 1) (ct_del (i : Nat) ls)) = ls') (k : CV M r n0 z (pc + 1) ls' st w Q) : CV M r n0 z pc ls (vL x :: st) w Q := by
  intro p l e s m args below meth c D kA as0 as A H locs la hc ha hP hD hS hl
  subst h
  exact lv_lstore_n hc.1 hc.2.1 hd rfl hl hn rfl (fun la' hl' => k p l e s m args below meth c D kA as0 as A H locs la' hc ha hP hD hS (ct_st2 (v := vL x) ho hl'))
theorem cv_lstore {i : Nat} {x : Int} {ls' : List (Nat × ct_V)} (hd : decode M.2.1 pc = .ok (.lstore i, 2)) (hn : i + 1 < M.2.2.1) (ho : ct_ok1 i ls = true) (h : ct_put i (vL x) (ct_del (i + 1) (ct_del i ls)) = ls') (k : CV M r n0 z (pc + 2) ls' st w Q) : CV M r n0 z pc ls (vL x :: st) w Q := by
  intro p l e s m args below meth c D kA as0 as A H locs la hc ha hP hD hS hl
  subst h
  exact lv_lstore hc.1 hc.2.1 hd hl hn rfl (fun la' hl' => k p l e s m args below meth c D kA as0 as A H locs la' hc ha hP hD hS (ct_st2 (v := vL x) ho hl'))
theorem cv_astore_n {i : Fin 4} {x : Nat} {ls' : List (Nat × ct_V)} (hd : decode M.2.1 pc = .ok (.astore_n i, 1)) (hn : (i : Nat) < M.2.2.1) (ho : ct_ok1 (i : Nat) ls = true) (h : ct_put (i : Nat) (vR x) (ct_del (i : Nat) ls) = ls') (k : CV M r n0 z (pc + 1) ls' st w Q) : CV M r n0 z pc ls (vR x :: st) w Q := by
  intro p l e s m args below meth c D kA as0 as A H locs la hc ha hP hD hS hl
  subst h
  exact lv_astore_n hc.1 hc.2.1 hd rfl hl hn rfl (fun la' hl' => k p l e s m args below meth c D kA as0 as A H locs la' hc ha hP hD hS (ct_st1 (v := vR x) ho hl'))
theorem cv_astore {i : Nat} {x : Nat} {ls' : List (Nat × ct_V)} (hd : decode M.2.1 pc = .ok (.astore i, 2)) (hn : i < M.2.2.1) (ho : ct_ok1 i ls = true) (h : ct_put i (vR x) (ct_del i ls) = ls') (k : CV M r n0 z (pc + 2) ls' st w Q) : CV M r n0 z pc ls (vR x :: st) w Q := by
  intro p l e s m args below meth c D kA as0 as A H locs la hc ha hP hD hS hl
  subst h
  exact lv_astore hc.1 hc.2.1 hd hl hn rfl (fun la' hl' => k p l e s m args below meth c D kA as0 as A H locs la' hc ha hP hD hS (ct_st1 (v := vR x) ho hl'))
theorem ct_lm_at {as : Nat → Nat} {i : Nat} {v : ct_V} (h : ct_get ls i = some v) : ∃ k : Nat, (ct_lm as ls)[k]? = some (i, ct_tv as v) := List.getElem?_of_mem (List.mem_map.mpr ⟨(i, v), ct_get_mem h, rfl⟩)
theorem cv_iinc {i : Nat} {n x : Int} {ls' : List (Nat × ct_V)} (hd : decode M.2.1 pc = .ok (.iinc i n, 3)) (hn : i < M.2.2.1) (hx : ct_get ls i = some (vI x)) (ho : ct_ok1 i ls = true) (h : ct_put i (vI (x + n)) (ct_del i ls) = ls') (k : CV M r n0 z (pc + 3) ls' st w Q) : CV M r n0 z pc ls st w Q := by
  intro p l e s m args below meth c D kA as0 as A H locs la hc ha hP hD hS hl
  subst h
  obtain ⟨j, hj⟩ := ct_lm_at (as := as) hx
  exact lv_iinc (v := Int32.ofInt (x + n)) hc.1 hc.2.1 hd hl hj (by rw [Int32.ofInt_add]) hn rfl (fun la' hl' => k p l e s m args below meth c D kA as0 as A H locs la' hc ha hP hD hS (ct_st1 (v := vI (x + n)) ho hl'))
-- whole numbers
theorem cv_iadd {x y : Int} (hd : decode M.2.1 pc = .ok (.iadd, 1)) (k : CV M r n0 z (pc + 1) ls (vI (x + y) :: st) w Q) : CV M r n0 z pc ls (vI y :: vI x :: st) w Q := by
  intro p l e s m args below meth c D kA as0 as A H locs la hc ha hP hD hS hl
  refine lv_iadd hc.1 hc.2.1 hd ?_
  rw [← Int32.ofInt_add]
  exact k p l e s m args below meth c D kA as0 as A H locs la hc ha hP hD hS hl
theorem cv_isub {x y : Int} (hd : decode M.2.1 pc = .ok (.isub, 1)) (k : CV M r n0 z (pc + 1) ls (vI (x - y) :: st) w Q) : CV M r n0 z pc ls (vI y :: vI x :: st) w Q := by
  intro p l e s m args below meth c D kA as0 as A H locs la hc ha hP hD hS hl
  refine lv_isub hc.1 hc.2.1 hd ?_
  rw [← Int32.ofInt_sub]
  exact k p l e s m args below meth c D kA as0 as A H locs la hc ha hP hD hS hl
theorem cv_imul {x y : Int} (hd : decode M.2.1 pc = .ok (.imul, 1)) (k : CV M r n0 z (pc + 1) ls (vI (x * y) :: st) w Q) : CV M r n0 z pc ls (vI y :: vI x :: st) w Q := by
  intro p l e s m args below meth c D kA as0 as A H locs la hc ha hP hD hS hl
  refine lv_imul hc.1 hc.2.1 hd ?_
  rw [← Int32.ofInt_mul]
  exact k p l e s m args below meth c D kA as0 as A H locs la hc ha hP hD hS hl
theorem cv_ineg {x : Int} (hd : decode M.2.1 pc = .ok (.ineg, 1)) (k : CV M r n0 z (pc + 1) ls (vI (-x) :: st) w Q) : CV M r n0 z pc ls (vI x :: st) w Q := by
  intro p l e s m args below meth c D kA as0 as A H locs la hc ha hP hD hS hl
  refine lv_ineg hc.1 hc.2.1 hd ?_
  rw [← Int32.ofInt_neg]
  exact k p l e s m args below meth c D kA as0 as A H locs la hc ha hP hD hS hl
end CVR
end
section
/-! bit facts: nx_ and wb_ rows begin as kit/laws/BITS.to-paste has them; ct_ rows are ours -/
theorem nx_and (a b : Nat) : nI a &&& nI b = nI (a &&& b) := by
  apply Int32.toBitVec_inj.1
  show BitVec.ofNat 32 a &&& BitVec.ofNat 32 b = BitVec.ofNat 32 (a &&& b)
  apply BitVec.eq_of_getLsbD_eq
  intro i hi
  simp [hi]
theorem nx_xor (a b : Nat) : nI a ^^^ nI b = nI (a ^^^ b) := by
  apply Int32.toBitVec_inj.1
  show BitVec.ofNat 32 a ^^^ BitVec.ofNat 32 b = BitVec.ofNat 32 (a ^^^ b)
  apply BitVec.eq_of_getLsbD_eq
  intro i hi
  simp [hi]
theorem nx_cnt : ∀ j : Fin 32, (UInt32.ofNat j.val &&& Int32.toUInt32 31).toNat % 32 = j.val := by decide +kernel
theorem wb_tb (n : Nat) : (lN n).toBitVec = BitVec.ofNat 64 n := rfl
theorem wb_inj {a b : Int64} (h : a.toBitVec = b.toBitVec) : a = b := Int64.toBitVec_inj.mp h
theorem wb_tn {n : Nat} (h : n < 2 ^ 64) : (lN n).toBitVec.toNat = n := by rw [wb_tb, BitVec.toNat_ofNat, Nat.mod_eq_of_lt h]
theorem wb_c : ∀ k, k < 64 → ((nI k).toInt64 &&& 63) = lN k := by decide +kernel
theorem wb_cu : ∀ k, k < 64 → ((nI k).toInt64.toUInt64 &&& Int64.toUInt64 63) = UInt64.ofNat k := by decide +kernel
theorem wb_sm : ∀ k, k < 64 → (BitVec.ofNat 64 k).smod 64 = BitVec.ofNat 64 k := by decide +kernel
theorem wb_pw {a b : Nat} (h : a ≤ b) : 2 ^ b = 2 ^ a * 2 ^ (b - a) := by rw [← Nat.pow_add]; congr 1; omega
theorem wb_lt2 {a b : Nat} (h : a < b) : 2 ^ a < 2 ^ b := Nat.pow_lt_pow_right (by decide) h
theorem wb_mod (n : Nat) : lN n = lN (n % 2 ^ 64) := wb_inj (by rw [wb_tb, wb_tb]; apply BitVec.eq_of_toNat_eq; rw [BitVec.toNat_ofNat, BitVec.toNat_ofNat, Nat.mod_mod])
theorem wb_shr {n k : Nat} (hn : n < 2 ^ 64) (hk : k < 64) : ((lN n).toUInt64 >>> ((nI k).toInt64.toUInt64 &&& Int64.toUInt64 63)).toInt64 = lN (n / 2 ^ k) := by
  rw [wb_cu k hk]
  apply wb_inj
  apply BitVec.eq_of_toNat_eq
  show ((lN n).toUInt64 >>> UInt64.ofNat k).toNat = (BitVec.ofNat 64 _).toNat
  have h1 : (UInt64.ofNat k).toNat = k := by
    show (BitVec.ofNat 64 k).toNat = k
    rw [BitVec.toNat_ofNat, Nat.mod_eq_of_lt (by omega)]
  have h2 : (lN n).toUInt64.toNat = n := wb_tn hn
  rw [UInt64.toNat_shiftRight, h1, h2, Nat.mod_eq_of_lt hk, Nat.shiftRight_eq_div_pow, BitVec.toNat_ofNat, Nat.mod_eq_of_lt (Nat.lt_of_le_of_lt (Nat.div_le_self _ _) hn)]
theorem wb_shl (n : Nat) {k : Nat} (hk : k < 64) : lN n <<< ((nI k).toInt64 &&& 63) = lN (n * 2 ^ k) := by
  rw [wb_c k hk]
  apply wb_inj
  rw [Int64.toBitVec_shiftLeft, wb_tb, wb_tb, wb_tb, wb_sm k hk]
  apply BitVec.eq_of_toNat_eq
  rw [BitVec.shiftLeft_eq', BitVec.toNat_shiftLeft, BitVec.toNat_ofNat, BitVec.toNat_ofNat, BitVec.toNat_ofNat, Nat.mod_eq_of_lt (show k < 2 ^ 64 by omega), Nat.shiftLeft_eq, Nat.mul_mod, Nat.mod_mod, ← Nat.mul_mod]
theorem wb_and {a b : Nat} (ha : a < 2 ^ 64) (hb : b < 2 ^ 64) : lN a &&& lN b = lN (a &&& b) := by
  apply wb_inj
  rw [Int64.toBitVec_and, wb_tb, wb_tb, wb_tb]
  apply BitVec.eq_of_toNat_eq
  rw [BitVec.toNat_and, BitVec.toNat_ofNat, BitVec.toNat_ofNat, BitVec.toNat_ofNat, Nat.mod_eq_of_lt ha, Nat.mod_eq_of_lt hb, Nat.mod_eq_of_lt (Nat.and_lt_two_pow _ hb)]
theorem wb_or {a b : Nat} (ha : a < 2 ^ 64) (hb : b < 2 ^ 64) : lN a ||| lN b = lN (a ||| b) := by
  apply wb_inj
  rw [Int64.toBitVec_or, wb_tb, wb_tb, wb_tb]
  apply BitVec.eq_of_toNat_eq
  rw [BitVec.toNat_or, BitVec.toNat_ofNat, BitVec.toNat_ofNat, BitVec.toNat_ofNat, Nat.mod_eq_of_lt ha, Nat.mod_eq_of_lt hb, Nat.mod_eq_of_lt (Nat.or_lt_two_pow ha hb)]
theorem nx_or (a b : Nat) : nI a ||| nI b = nI (a ||| b) := by
  apply Int32.toBitVec_inj.mp
  rw [Int32.toBitVec_or]
  show BitVec.ofNat 32 a ||| BitVec.ofNat 32 b = BitVec.ofNat 32 (a ||| b)
  exact (BitVec.ofNat_or).symm
theorem ct_c31 : ∀ k, k < 32 → (nI k &&& 31).toBitVec.smod 32 = BitVec.ofNat 32 k := by decide +kernel
theorem ct_shl {a b : Nat} (hb : b < 32) : nI a <<< (nI b &&& 31) = nI (a * 2 ^ b) := by
  apply Int32.toBitVec_inj.mp
  rw [Int32.toBitVec_shiftLeft, ct_c31 b hb]
  show BitVec.ofNat 32 a <<< (BitVec.ofNat 32 b) = BitVec.ofNat 32 (a * 2 ^ b)
  apply BitVec.eq_of_toNat_eq
  rw [BitVec.shiftLeft_eq', BitVec.toNat_shiftLeft, BitVec.toNat_ofNat, BitVec.toNat_ofNat, BitVec.toNat_ofNat, Nat.mod_eq_of_lt (a := b) (by omega), Nat.shiftLeft_eq, Nat.mod_mul_mod]
theorem ct_shr {a b : Nat} (ha : a < 2 ^ 31) (hb : b < 32) : nI a >>> (nI b &&& 31) = nI (a / 2 ^ b) := by
  apply Int32.toBitVec_inj.mp
  rw [Int32.toBitVec_shiftRight, ct_c31 b hb]
  show (BitVec.ofNat 32 a).sshiftRight' (BitVec.ofNat 32 b) = BitVec.ofNat 32 (a / 2 ^ b)
  apply BitVec.eq_of_toNat_eq
  have h1 : (BitVec.ofNat 32 a).msb = false := by
    rw [BitVec.msb_eq_false_iff_two_mul_lt, BitVec.toNat_ofNat, Nat.mod_eq_of_lt (by omega)]
    omega
  rw [BitVec.sshiftRight_eq', BitVec.sshiftRight_eq_of_msb_false h1, BitVec.toNat_ushiftRight, BitVec.toNat_ofNat, BitVec.toNat_ofNat, BitVec.toNat_ofNat, Nat.mod_eq_of_lt (a := b) (by omega), Nat.mod_eq_of_lt (a := a) (by omega), Nat.shiftRight_eq_div_pow, Nat.mod_eq_of_lt]
  exact Nat.lt_of_le_of_lt (Nat.div_le_self _ _) (by omega)
theorem ct_ushr {a b : Nat} (ha : a < 2 ^ 31) (hb : b < 32) : ((nI a).toUInt32 >>> ((nI b).toUInt32 &&& Int32.toUInt32 31)).toInt32 = nI (a / 2 ^ b) := by
  have hc := nx_cnt ⟨b, hb⟩
  apply Int32.toBitVec_inj.mp
  show (((nI a).toUInt32 >>> (UInt32.ofNat b &&& Int32.toUInt32 31)).toBitVec) = BitVec.ofNat 32 (a / 2 ^ b)
  apply BitVec.eq_of_toNat_eq
  rw [UInt32.toBitVec_shiftRight]
  show ((BitVec.ofNat 32 a) >>> ((UInt32.ofNat b &&& Int32.toUInt32 31).toBitVec % 32)).toNat = _
  rw [BitVec.ushiftRight_eq', BitVec.toNat_ushiftRight, BitVec.toNat_umod, BitVec.toNat_ofNat, BitVec.toNat_ofNat, Nat.mod_eq_of_lt (a := a) (by omega)]
  have eE : (UInt32.ofNat b &&& Int32.toUInt32 31).toBitVec.toNat % (32 : BitVec 32).toNat = b := hc
  rw [eE, Nat.shiftRight_eq_div_pow, Nat.mod_eq_of_lt]
  exact Nat.lt_of_le_of_lt (Nat.div_le_self _ _) (by omega)
theorem ct_m64 (x : Int) : Int64.ofInt x = Int64.ofInt (x % 18446744073709551616) := by
  apply Int64.toInt_inj.mp
  rw [Int64.toInt_ofInt, Int64.toInt_ofInt]
  exact (Int.emod_bmod (n := 18446744073709551616) x).symm
theorem ct_c1 {as : Nat → Nat} {v : ct_V} (h : ct_isL v = false) : (ct_tv as v).category = 1 := by
  rcases v with i | i | r
  · rfl
  · cases h
  · cases r <;> rfl
/-! THE RULES, second: bits, quotients, longs, branches -/
section CVS
variable {M : ct_M} {r : Nat × Nat × Nat} {n0 : Nat} {z : Nat × Nat} {pc : Nat} {ls : List (Nat × ct_V)} {st : List ct_V} {w : List ct_C} {Q : Option ct_V → List ct_C → Prop}
theorem ct_t32 {x : Int} (h : -2147483648 ≤ x) (h' : x ≤ 2147483647) : (Int32.ofInt x).toInt = x := Int32.toInt_ofInt_of_le (by omega) (by omega)
theorem ct_lt32 {x y : Int} (h : -2147483648 ≤ x ∧ x ≤ 2147483647 ∧ -2147483648 ≤ y ∧ y ≤ 2147483647) : Int32.ofInt x < Int32.ofInt y ↔ x < y := by
  rw [Int32.lt_iff_toInt_lt, ct_t32 h.1 h.2.1, ct_t32 h.2.2.1 h.2.2.2]
theorem ct_le32 {x y : Int} (h : -2147483648 ≤ x ∧ x ≤ 2147483647 ∧ -2147483648 ≤ y ∧ y ≤ 2147483647) : Int32.ofInt x ≤ Int32.ofInt y ↔ x ≤ y := by
  rw [Int32.le_iff_toInt_le, ct_t32 h.1 h.2.1, ct_t32 h.2.2.1 h.2.2.2]
theorem ct_eq32 {x y : Int} (h : -2147483648 ≤ x ∧ x ≤ 2147483647 ∧ -2147483648 ≤ y ∧ y ≤ 2147483647) : Int32.ofInt x = Int32.ofInt y ↔ x = y := by
  rw [← Int32.toInt_inj, ct_t32 h.1 h.2.1, ct_t32 h.2.2.1 h.2.2.2]
theorem ct_nat {x : Int} (h : 0 ≤ x) : Int32.ofInt x = nI x.toNat := by
  obtain ⟨n, rfl⟩ := Int.eq_ofNat_of_zero_le h
  exact Int32.ofInt_eq_ofNat
theorem ct_natL {x : Int} (h : 0 ≤ x) : Int64.ofInt x = lN x.toNat := by
  obtain ⟨n, rfl⟩ := Int.eq_ofNat_of_zero_le h
  exact Int64.ofInt_eq_ofNat
theorem ct_ofN (n : Nat) : Int32.ofInt (n : Int) = nI n := Int32.ofInt_eq_ofNat
theorem ct_ofNL (n : Nat) : Int64.ofInt (n : Int) = lN n := Int64.ofInt_eq_ofNat
theorem ct_t64 {x : Int} (h : -9223372036854775808 ≤ x) (h' : x ≤ 9223372036854775807) : (Int64.ofInt x).toInt = x := Int64.toInt_ofInt_of_le (by omega) (by omega)
theorem cv_idiv {x y : Int} (hd : decode M.2.1 pc = .ok (.idiv, 1)) (h : 0 ≤ x ∧ x ≤ 2147483647 ∧ 0 < y ∧ y ≤ 2147483647) (k : CV M r n0 z (pc + 1) ls (vI (x / y) :: st) w Q) : CV M r n0 z pc ls (vI y :: vI x :: st) w Q := by
  intro p l e s m args below meth c D kA as0 as A H locs la hc ha hP hD hS hl
  refine lv_idiv hc.1 hc.2.1 hd (fun q => ?_) ?_
  · have := (ct_eq32 (x := y) (y := 0) (by omega)).mp q
    omega
  · have eE : Int32.ofInt x / Int32.ofInt y = Int32.ofInt (x / y) := by
      rw [← Int32.ofInt_tdiv (by show (-2147483648 : Int) ≤ x; omega) (by show x ≤ (2147483647 : Int); omega) (by show (-2147483648 : Int) ≤ y; omega) (by show y ≤ (2147483647 : Int); omega), Int.tdiv_eq_ediv_of_nonneg h.1]
    rw [eE]
    exact k p l e s m args below meth c D kA as0 as A H locs la hc ha hP hD hS hl
theorem cv_irem {x y : Int} (hd : decode M.2.1 pc = .ok (.irem, 1)) (h : 0 ≤ x ∧ x ≤ 2147483647 ∧ 0 < y ∧ y ≤ 2147483647) (k : CV M r n0 z (pc + 1) ls (vI (x % y) :: st) w Q) : CV M r n0 z pc ls (vI y :: vI x :: st) w Q := by
  intro p l e s m args below meth c D kA as0 as A H locs la hc ha hP hD hS hl
  refine lv_irem hc.1 hc.2.1 hd (fun q => ?_) ?_
  · have := (ct_eq32 (x := y) (y := 0) (by omega)).mp q
    omega
  · have eE : Int32.ofInt x - Int32.ofInt x / Int32.ofInt y * Int32.ofInt y = Int32.ofInt (x % y) := by
      rw [← Int32.ofInt_tdiv (by show (-2147483648 : Int) ≤ x; omega) (by show x ≤ (2147483647 : Int); omega) (by show (-2147483648 : Int) ≤ y; omega) (by show y ≤ (2147483647 : Int); omega), Int.tdiv_eq_ediv_of_nonneg h.1, ← Int32.ofInt_mul, ← Int32.ofInt_sub, Int.emod_def, Int.mul_comm]
    rw [eE]
    exact k p l e s m args below meth c D kA as0 as A H locs la hc ha hP hD hS hl
theorem cv_idivT {x y : Int} (hd : decode M.2.1 pc = .ok (.idiv, 1)) (h : -2147483648 < x ∧ x ≤ 2147483647 ∧ -2147483648 ≤ y ∧ y ≤ 2147483647 ∧ y ≠ 0) (k : CV M r n0 z (pc + 1) ls (vI (x.tdiv y) :: st) w Q) : CV M r n0 z pc ls (vI y :: vI x :: st) w Q := by
  intro p l e s m args below meth c D kA as0 as A H locs la hc ha hP hD hS hl
  refine lv_idiv hc.1 hc.2.1 hd (fun q => ?_) ?_
  · have := (ct_eq32 (x := y) (y := 0) (by omega)).mp q
    omega
  · have eE : Int32.ofInt x / Int32.ofInt y = Int32.ofInt (x.tdiv y) := by
      rw [← Int32.ofInt_tdiv (by show (-2147483648 : Int) ≤ x; omega) (by show x ≤ (2147483647 : Int); omega) (by show (-2147483648 : Int) ≤ y; omega) (by show y ≤ (2147483647 : Int); omega)]
    rw [eE]
    exact k p l e s m args below meth c D kA as0 as A H locs la hc ha hP hD hS hl
theorem cv_iand {x y : Int} (hd : decode M.2.1 pc = .ok (.iand, 1)) (h : 0 ≤ x ∧ 0 ≤ y) (k : CV M r n0 z (pc + 1) ls (vI ((x.toNat &&& y.toNat : Nat) : Int) :: st) w Q) : CV M r n0 z pc ls (vI y :: vI x :: st) w Q := by
  intro p l e s m args below meth c D kA as0 as A H locs la hc ha hP hD hS hl
  refine lv_iand hc.1 hc.2.1 hd ?_
  rw [ct_nat h.1, ct_nat h.2, nx_and, ← ct_ofN]
  exact k p l e s m args below meth c D kA as0 as A H locs la hc ha hP hD hS hl
theorem cv_ixor {x y : Int} (hd : decode M.2.1 pc = .ok (.ixor, 1)) (h : 0 ≤ x ∧ 0 ≤ y) (k : CV M r n0 z (pc + 1) ls (vI ((x.toNat ^^^ y.toNat : Nat) : Int) :: st) w Q) : CV M r n0 z pc ls (vI y :: vI x :: st) w Q := by
  intro p l e s m args below meth c D kA as0 as A H locs la hc ha hP hD hS hl
  refine lv_ixor hc.1 hc.2.1 hd ?_
  rw [ct_nat h.1, ct_nat h.2, nx_xor, ← ct_ofN]
  exact k p l e s m args below meth c D kA as0 as A H locs la hc ha hP hD hS hl
theorem cv_ior {x y : Int} (hd : decode M.2.1 pc = .ok (.ior, 1)) (h : 0 ≤ x ∧ 0 ≤ y) (k : CV M r n0 z (pc + 1) ls (vI ((x.toNat ||| y.toNat : Nat) : Int) :: st) w Q) : CV M r n0 z pc ls (vI y :: vI x :: st) w Q := by
  intro p l e s m args below meth c D kA as0 as A H locs la hc ha hP hD hS hl
  refine lv_ior hc.1 hc.2.1 hd ?_
  rw [ct_nat h.1, ct_nat h.2, nx_or, ← ct_ofN]
  exact k p l e s m args below meth c D kA as0 as A H locs la hc ha hP hD hS hl
theorem cv_ishl {x y : Int} (hd : decode M.2.1 pc = .ok (.ishl, 1)) (h : 0 ≤ x ∧ 0 ≤ y ∧ y < 32) (k : CV M r n0 z (pc + 1) ls (vI (x * ((2 ^ y.toNat : Nat) : Int)) :: st) w Q) : CV M r n0 z pc ls (vI y :: vI x :: st) w Q := by
  intro p l e s m args below meth c D kA as0 as A H locs la hc ha hP hD hS hl
  refine lv_ishl hc.1 hc.2.1 hd ?_
  have eE : Int32.ofInt x <<< (Int32.ofInt y &&& 31) = Int32.ofInt (x * ((2 ^ y.toNat : Nat) : Int)) := by
    obtain ⟨a, rfl⟩ := Int.eq_ofNat_of_zero_le h.1
    obtain ⟨b, rfl⟩ := Int.eq_ofNat_of_zero_le h.2.1
    rw [← Int.natCast_mul, ct_ofN, ct_ofN, ct_ofN, Int.toNat_natCast]
    exact ct_shl (by omega)
  rw [eE]
  exact k p l e s m args below meth c D kA as0 as A H locs la hc ha hP hD hS hl
theorem cv_ishr {x y : Int} (hd : decode M.2.1 pc = .ok (.ishr, 1)) (h : 0 ≤ x ∧ x ≤ 2147483647 ∧ 0 ≤ y ∧ y < 32) (k : CV M r n0 z (pc + 1) ls (vI (x / ((2 ^ y.toNat : Nat) : Int)) :: st) w Q) : CV M r n0 z pc ls (vI y :: vI x :: st) w Q := by
  intro p l e s m args below meth c D kA as0 as A H locs la hc ha hP hD hS hl
  refine lv_ishr hc.1 hc.2.1 hd ?_
  have eE : Int32.ofInt x >>> (Int32.ofInt y &&& 31) = Int32.ofInt (x / ((2 ^ y.toNat : Nat) : Int)) := by
    obtain ⟨a, rfl⟩ := Int.eq_ofNat_of_zero_le h.1
    obtain ⟨b, rfl⟩ := Int.eq_ofNat_of_zero_le h.2.2.1
    rw [← Int.natCast_ediv, ct_ofN, ct_ofN, ct_ofN, Int.toNat_natCast]
    exact ct_shr (by omega) (by omega)
  rw [eE]
  exact k p l e s m args below meth c D kA as0 as A H locs la hc ha hP hD hS hl
theorem cv_iushr {x y : Int} (hd : decode M.2.1 pc = .ok (.iushr, 1)) (h : 0 ≤ x ∧ x ≤ 2147483647 ∧ 0 ≤ y ∧ y < 32) (k : CV M r n0 z (pc + 1) ls (vI (x / ((2 ^ y.toNat : Nat) : Int)) :: st) w Q) : CV M r n0 z pc ls (vI y :: vI x :: st) w Q := by
  intro p l e s m args below meth c D kA as0 as A H locs la hc ha hP hD hS hl
  refine lv_iushr (v := Int32.ofInt (x / ((2 ^ y.toNat : Nat) : Int))) hc.1 hc.2.1 hd ?_ (k p l e s m args below meth c D kA as0 as A H locs la hc ha hP hD hS hl)
  obtain ⟨a, rfl⟩ := Int.eq_ofNat_of_zero_le h.1
  obtain ⟨b, rfl⟩ := Int.eq_ofNat_of_zero_le h.2.2.1
  rw [← Int.natCast_ediv, ct_ofN, ct_ofN, ct_ofN, Int.toNat_natCast]
  exact ct_ushr (by omega) (by omega)
theorem cv_ladd {x y : Int} (hd : decode M.2.1 pc = .ok (.ladd, 1))  (k : CV M r n0 z (pc + 1) ls (vL (x + y) :: st) w Q) : CV M r n0 z pc ls (vL y :: vL x :: st) w Q := by
  intro p l e s m args below meth c D kA as0 as A H locs la hc ha hP hD hS hl
  refine lv_ladd hc.1 hc.2.1 hd ?_
  rw [← Int64.ofInt_add]
  exact k p l e s m args below meth c D kA as0 as A H locs la hc ha hP hD hS hl
theorem cv_lsub {x y : Int} (hd : decode M.2.1 pc = .ok (.lsub, 1))  (k : CV M r n0 z (pc + 1) ls (vL (x - y) :: st) w Q) : CV M r n0 z pc ls (vL y :: vL x :: st) w Q := by
  intro p l e s m args below meth c D kA as0 as A H locs la hc ha hP hD hS hl
  refine lv_lsub hc.1 hc.2.1 hd ?_
  rw [← Int64.ofInt_sub]
  exact k p l e s m args below meth c D kA as0 as A H locs la hc ha hP hD hS hl
theorem cv_lmul {x y : Int} (hd : decode M.2.1 pc = .ok (.lmul, 1))  (k : CV M r n0 z (pc + 1) ls (vL (x * y) :: st) w Q) : CV M r n0 z pc ls (vL y :: vL x :: st) w Q := by
  intro p l e s m args below meth c D kA as0 as A H locs la hc ha hP hD hS hl
  refine lv_lmul hc.1 hc.2.1 hd ?_
  rw [← Int64.ofInt_mul]
  exact k p l e s m args below meth c D kA as0 as A H locs la hc ha hP hD hS hl
theorem cv_ldiv {x y : Int} (hd : decode M.2.1 pc = .ok (.ldiv, 1)) (h : 0 ≤ x ∧ x ≤ 9223372036854775807 ∧ 0 < y ∧ y ≤ 9223372036854775807) (k : CV M r n0 z (pc + 1) ls (vL (x / y) :: st) w Q) : CV M r n0 z pc ls (vL y :: vL x :: st) w Q := by
  intro p l e s m args below meth c D kA as0 as A H locs la hc ha hP hD hS hl
  have hy : ¬ Int64.ofInt y = 0 := fun q => by
    have h1 : (Int64.ofInt y).toInt = (0 : Int64).toInt := congrArg Int64.toInt q
    rw [ct_t64 (by omega) (by omega)] at h1
    have h2 : (0 : Int64).toInt = 0 := rfl
    omega
  refine lv_ldiv hc.1 hc.2.1 hd hy ?_
  rw [← Int64.ofInt_tdiv (by show (-9223372036854775808 : Int) ≤ x; omega) (by show x ≤ (9223372036854775807 : Int); omega) (by show (-9223372036854775808 : Int) ≤ y; omega) (by show y ≤ (9223372036854775807 : Int); omega), Int.tdiv_eq_ediv_of_nonneg h.1]
  exact k p l e s m args below meth c D kA as0 as A H locs la hc ha hP hD hS hl
theorem cv_lrem {x y : Int} (hd : decode M.2.1 pc = .ok (.lrem, 1)) (h : 0 ≤ x ∧ x ≤ 9223372036854775807 ∧ 0 < y ∧ y ≤ 9223372036854775807) (k : CV M r n0 z (pc + 1) ls (vL (x % y) :: st) w Q) : CV M r n0 z pc ls (vL y :: vL x :: st) w Q := by
  intro p l e s m args below meth c D kA as0 as A H locs la hc ha hP hD hS hl
  have hy : ¬ Int64.ofInt y = 0 := fun q => by
    have h1 : (Int64.ofInt y).toInt = (0 : Int64).toInt := congrArg Int64.toInt q
    rw [ct_t64 (by omega) (by omega)] at h1
    have h2 : (0 : Int64).toInt = 0 := rfl
    omega
  refine lv_lrem hc.1 hc.2.1 hd hy ?_
  rw [← Int64.ofInt_tdiv (by show (-9223372036854775808 : Int) ≤ x; omega) (by show x ≤ (9223372036854775807 : Int); omega) (by show (-9223372036854775808 : Int) ≤ y; omega) (by show y ≤ (9223372036854775807 : Int); omega), Int.tdiv_eq_ediv_of_nonneg h.1, ← Int64.ofInt_mul, ← Int64.ofInt_sub, Int.mul_comm, ← Int.emod_def]
  exact k p l e s m args below meth c D kA as0 as A H locs la hc ha hP hD hS hl
theorem cv_i2l {x : Int} (hd : decode M.2.1 pc = .ok (.i2l, 1)) (h : -2147483648 ≤ x ∧ x ≤ 2147483647) (k : CV M r n0 z (pc + 1) ls (vL x :: st) w Q) : CV M r n0 z pc ls (vI x :: st) w Q := by
  intro p l e s m args below meth c D kA as0 as A H locs la hc ha hP hD hS hl
  exact lv_i2l hc.1 hc.2.1 hd (Int32.toInt64_ofInt (by show (-2147483648 : Int) ≤ x; omega) (by show x ≤ (2147483647 : Int); omega)) (k p l e s m args below meth c D kA as0 as A H locs la hc ha hP hD hS hl)
theorem cv_l2i {x : Int} (hd : decode M.2.1 pc = .ok (.l2i, 1))  (k : CV M r n0 z (pc + 1) ls (vI x :: st) w Q) : CV M r n0 z pc ls (vL x :: st) w Q := by
  intro p l e s m args below meth c D kA as0 as A H locs la hc ha hP hD hS hl
  exact lv_l2i hc.1 hc.2.1 hd Int64.toInt32_ofInt (k p l e s m args below meth c D kA as0 as A H locs la hc ha hP hD hS hl)
theorem cv_lushr {x y : Int} (hd : decode M.2.1 pc = .ok (.lushr, 1)) (h : 0 ≤ y ∧ y < 64) (k : CV M r n0 z (pc + 1) ls (vL (x % 18446744073709551616 / ((2 ^ y.toNat : Nat) : Int)) :: st) w Q) : CV M r n0 z pc ls (vI y :: vL x :: st) w Q := by
  intro p l e s m args below meth c D kA as0 as A H locs la hc ha hP hD hS hl
  refine lv_lushr (v := Int64.ofInt (x % 18446744073709551616 / ((2 ^ y.toNat : Nat) : Int))) hc.1 hc.2.1 hd ?_ (k p l e s m args below meth c D kA as0 as A H locs la hc ha hP hD hS hl)
  have eE : Int64.ofInt x = Int64.ofInt (x % 18446744073709551616) := ct_m64 x
  rw [eE]
  obtain ⟨a, ea⟩ := Int.eq_ofNat_of_zero_le (Int.emod_nonneg x (by decide : (18446744073709551616 : Int) ≠ 0))
  have hlt : x % 18446744073709551616 < 18446744073709551616 := Int.emod_lt_of_pos x (by decide)
  rw [ea] at hlt ⊢
  obtain ⟨b, rfl⟩ := Int.eq_ofNat_of_zero_le h.1
  rw [← Int.natCast_ediv, ct_ofNL, ct_ofNL, ct_ofN, Int.toNat_natCast]
  exact wb_shr (by omega) (by omega)
def ct_cmp (x y : Int) : Int := if x < y then -1 else if x = y then 0 else 1
theorem ct_cmp_lt {x y : Int} (h : x < y) : ct_cmp x y = -1 := if_pos h
theorem ct_cmp_ge {x y : Int} : 0 ≤ ct_cmp x y ↔ y ≤ x := by
  unfold ct_cmp; split
  · constructor <;> intro <;> omega
  · split <;> constructor <;> intro <;> omega
theorem ct_cmp_le {x y : Int} : ct_cmp x y ≤ 0 ↔ x ≤ y := by
  unfold ct_cmp; split
  · constructor <;> intro <;> omega
  · split <;> constructor <;> intro <;> omega
theorem ct_cmp_0 {x y : Int} : ct_cmp x y = 0 ↔ x = y := by
  unfold ct_cmp; split
  · constructor <;> intro <;> omega
  · split <;> constructor <;> intro <;> omega
theorem ct_cmp_r (x y : Int) : -1 ≤ ct_cmp x y ∧ ct_cmp x y ≤ 1 := by
  unfold ct_cmp; split
  · omega
  · split <;> omega
theorem cv_lcmp {x y : Int} (hd : decode M.2.1 pc = .ok (.lcmp, 1)) (h : -9223372036854775808 ≤ x ∧ x ≤ 9223372036854775807 ∧ -9223372036854775808 ≤ y ∧ y ≤ 9223372036854775807) (k : CV M r n0 z (pc + 1) ls (vI (ct_cmp x y) :: st) w Q) : CV M r n0 z pc ls (vL y :: vL x :: st) w Q := by
  intro p l e s m args below meth c D kA as0 as A H locs la hc ha hP hD hS hl
  refine W.lcmp hc.1 hc.2.1 hd ?_
  have eE : lg_cmp (Int64.ofInt x) (Int64.ofInt y) = Int32.ofInt (ct_cmp x y) := by
    unfold lg_cmp ct_cmp
    simp only [gt_iff_lt, Int64.lt_iff_toInt_lt, ← Int64.toInt_inj, ct_t64 h.1 h.2.1, ct_t64 h.2.2.1 h.2.2.2]
    by_cases h1 : x < y
    · rw [if_neg (by omega), if_neg (by omega), if_pos h1]
      rfl
    · rw [if_neg h1]
      by_cases h2 : x = y
      · rw [if_neg (by omega), if_pos h2, if_pos h2]
        rfl
      · rw [if_pos (by omega), if_neg h2]
        rfl
  rw [eE]
  exact k p l e s m args below meth c D kA as0 as A H locs la hc ha hP hD hS hl
theorem cv_lcmpE {x : Int} (hd : decode M.2.1 pc = .ok (.lcmp, 1))  (k : CV M r n0 z (pc + 1) ls (vI 0 :: st) w Q) : CV M r n0 z pc ls (vL x :: vL x :: st) w Q := by
  intro p l e s m args below meth c D kA as0 as A H locs la hc ha hP hD hS hl
  refine W.lcmp hc.1 hc.2.1 hd ?_
  have eE : lg_cmp (Int64.ofInt x) (Int64.ofInt x) = Int32.ofInt 0 := by
    unfold lg_cmp
    rw [if_neg (by rw [gt_iff_lt, Int64.lt_iff_toInt_lt]; omega), if_pos rfl]
    rfl
  rw [eE]
  exact k p l e s m args below meth c D kA as0 as A H locs la hc ha hP hD hS hl
theorem cv_dup {v : ct_V} (hd : decode M.2.1 pc = .ok (.dup, 1)) (h : ct_isL v = false) (k : CV M r n0 z (pc + 1) ls (v :: v :: st) w Q) : CV M r n0 z pc ls (v :: st) w Q := by
  intro p l e s m args below meth c D kA as0 as A H locs la hc ha hP hD hS hl
  exact lv_dup hc.1 hc.2.1 hd (ct_c1 h) (k p l e s m args below meth c D kA as0 as A H locs la hc ha hP hD hS hl)
theorem cv_dup2 {u v : ct_V} (hd : decode M.2.1 pc = .ok (.dup2, 1)) (h : ct_isL u = false) (h2 : ct_isL v = false) (k : CV M r n0 z (pc + 1) ls (u :: v :: u :: v :: st) w Q) : CV M r n0 z pc ls (u :: v :: st) w Q := by
  intro p l e s m args below meth c D kA as0 as A H locs la hc ha hP hD hS hl
  exact lv_dup2_11 hc.1 hc.2.1 hd (ct_c1 h) (ct_c1 h2) (k p l e s m args below meth c D kA as0 as A H locs la hc ha hP hD hS hl)
theorem cv_pop {v : ct_V} (hd : decode M.2.1 pc = .ok (.pop, 1)) (h : ct_isL v = false) (k : CV M r n0 z (pc + 1) ls (st) w Q) : CV M r n0 z pc ls (v :: st) w Q := by
  intro p l e s m args below meth c D kA as0 as A H locs la hc ha hP hD hS hl
  exact lv_pop hc.1 hc.2.1 hd (ct_c1 h) (k p l e s m args below meth c D kA as0 as A H locs la hc ha hP hD hS hl)
theorem cv_goto {off : Int} {tgt : Nat} (hd : decode M.2.1 pc = .ok (.goto off, 3)) (ht : (pc : Int) + off = (tgt : Int)) (k : CV M r n0 z tgt ls st w Q) : CV M r n0 z pc ls st w Q := by
  intro p l e s m args below meth c D kA as0 as A H locs la hc ha hP hD hS hl
  exact lv_goto hc.1 hc.2.1 hd ht (k p l e s m args below meth c D kA as0 as A H locs la hc ha hP hD hS hl)
theorem cv_icmp_eq {x y off : Int} {tgt : Nat} (hd : decode M.2.1 pc = .ok (.if_icmp .eq off, 3)) (ht : (pc : Int) + off = (tgt : Int)) (h : -2147483648 ≤ x ∧ x ≤ 2147483647 ∧ -2147483648 ≤ y ∧ y ≤ 2147483647) (kt : x = y → CV M r n0 z tgt ls st w Q) (kf : ¬ x = y → CV M r n0 z (pc + 3) ls st w Q) : CV M r n0 z pc ls (vI y :: vI x :: st) w Q := by
  intro p l e s m args below meth c D kA as0 as A H locs la hc ha hP hD hS hl
  exact lv_icmp_eq hc.1 hc.2.1 hd ht (fun q => kt ((ct_eq32 h).mp q) p l e s m args below meth c D kA as0 as A H locs la hc ha hP hD hS hl) (fun q => kf (fun h0 => q ((ct_eq32 h).mpr h0)) p l e s m args below meth c D kA as0 as A H locs la hc ha hP hD hS hl)
theorem cv_if_eq {x off : Int} {tgt : Nat} (hd : decode M.2.1 pc = .ok (.ifCond .eq off, 3)) (ht : (pc : Int) + off = (tgt : Int)) (h : -2147483648 ≤ x ∧ x ≤ 2147483647) (kt : x = 0 → CV M r n0 z tgt ls st w Q) (kf : ¬ x = 0 → CV M r n0 z (pc + 3) ls st w Q) : CV M r n0 z pc ls (vI x :: st) w Q := by
  intro p l e s m args below meth c D kA as0 as A H locs la hc ha hP hD hS hl
  exact lv_if_eq hc.1 hc.2.1 hd ht (fun q => kt ((ct_eq32 (y := 0) (by omega)).mp q) p l e s m args below meth c D kA as0 as A H locs la hc ha hP hD hS hl) (fun q => kf (fun h0 => q ((ct_eq32 (y := 0) (by omega)).mpr h0)) p l e s m args below meth c D kA as0 as A H locs la hc ha hP hD hS hl)
theorem cv_icmp_ne {x y off : Int} {tgt : Nat} (hd : decode M.2.1 pc = .ok (.if_icmp .ne off, 3)) (ht : (pc : Int) + off = (tgt : Int)) (h : -2147483648 ≤ x ∧ x ≤ 2147483647 ∧ -2147483648 ≤ y ∧ y ≤ 2147483647) (kt : ¬ x = y → CV M r n0 z tgt ls st w Q) (kf : x = y → CV M r n0 z (pc + 3) ls st w Q) : CV M r n0 z pc ls (vI y :: vI x :: st) w Q := by
  intro p l e s m args below meth c D kA as0 as A H locs la hc ha hP hD hS hl
  exact lv_icmp_ne hc.1 hc.2.1 hd ht (fun q => kt (fun h0 => q ((ct_eq32 h).mpr h0)) p l e s m args below meth c D kA as0 as A H locs la hc ha hP hD hS hl) (fun q => kf ((ct_eq32 h).mp q) p l e s m args below meth c D kA as0 as A H locs la hc ha hP hD hS hl)
theorem cv_if_ne {x off : Int} {tgt : Nat} (hd : decode M.2.1 pc = .ok (.ifCond .ne off, 3)) (ht : (pc : Int) + off = (tgt : Int)) (h : -2147483648 ≤ x ∧ x ≤ 2147483647) (kt : ¬ x = 0 → CV M r n0 z tgt ls st w Q) (kf : x = 0 → CV M r n0 z (pc + 3) ls st w Q) : CV M r n0 z pc ls (vI x :: st) w Q := by
  intro p l e s m args below meth c D kA as0 as A H locs la hc ha hP hD hS hl
  exact lv_if_ne hc.1 hc.2.1 hd ht (fun q => kt (fun h0 => q ((ct_eq32 (y := 0) (by omega)).mpr h0)) p l e s m args below meth c D kA as0 as A H locs la hc ha hP hD hS hl) (fun q => kf ((ct_eq32 (y := 0) (by omega)).mp q) p l e s m args below meth c D kA as0 as A H locs la hc ha hP hD hS hl)
theorem cv_icmp_lt {x y off : Int} {tgt : Nat} (hd : decode M.2.1 pc = .ok (.if_icmp .lt off, 3)) (ht : (pc : Int) + off = (tgt : Int)) (h : -2147483648 ≤ x ∧ x ≤ 2147483647 ∧ -2147483648 ≤ y ∧ y ≤ 2147483647) (kt : x < y → CV M r n0 z tgt ls st w Q) (kf : ¬ x < y → CV M r n0 z (pc + 3) ls st w Q) : CV M r n0 z pc ls (vI y :: vI x :: st) w Q := by
  intro p l e s m args below meth c D kA as0 as A H locs la hc ha hP hD hS hl
  exact lv_icmp_lt hc.1 hc.2.1 hd ht (fun q => kt ((ct_lt32 h).mp q) p l e s m args below meth c D kA as0 as A H locs la hc ha hP hD hS hl) (fun q => kf (fun h0 => q ((ct_lt32 h).mpr h0)) p l e s m args below meth c D kA as0 as A H locs la hc ha hP hD hS hl)
theorem cv_if_lt {x off : Int} {tgt : Nat} (hd : decode M.2.1 pc = .ok (.ifCond .lt off, 3)) (ht : (pc : Int) + off = (tgt : Int)) (h : -2147483648 ≤ x ∧ x ≤ 2147483647) (kt : x < 0 → CV M r n0 z tgt ls st w Q) (kf : ¬ x < 0 → CV M r n0 z (pc + 3) ls st w Q) : CV M r n0 z pc ls (vI x :: st) w Q := by
  intro p l e s m args below meth c D kA as0 as A H locs la hc ha hP hD hS hl
  exact lv_if_lt hc.1 hc.2.1 hd ht (fun q => kt ((ct_lt32 (y := 0) (by omega)).mp q) p l e s m args below meth c D kA as0 as A H locs la hc ha hP hD hS hl) (fun q => kf (fun h0 => q ((ct_lt32 (y := 0) (by omega)).mpr h0)) p l e s m args below meth c D kA as0 as A H locs la hc ha hP hD hS hl)
theorem cv_icmp_ge {x y off : Int} {tgt : Nat} (hd : decode M.2.1 pc = .ok (.if_icmp .ge off, 3)) (ht : (pc : Int) + off = (tgt : Int)) (h : -2147483648 ≤ x ∧ x ≤ 2147483647 ∧ -2147483648 ≤ y ∧ y ≤ 2147483647) (kt : y ≤ x → CV M r n0 z tgt ls st w Q) (kf : ¬ y ≤ x → CV M r n0 z (pc + 3) ls st w Q) : CV M r n0 z pc ls (vI y :: vI x :: st) w Q := by
  intro p l e s m args below meth c D kA as0 as A H locs la hc ha hP hD hS hl
  exact lv_icmp_ge hc.1 hc.2.1 hd ht (fun q => kt ((ct_le32 ⟨h.2.2.1, h.2.2.2, h.1, h.2.1⟩).mp q) p l e s m args below meth c D kA as0 as A H locs la hc ha hP hD hS hl) (fun q => kf (fun h0 => q ((ct_le32 ⟨h.2.2.1, h.2.2.2, h.1, h.2.1⟩).mpr h0)) p l e s m args below meth c D kA as0 as A H locs la hc ha hP hD hS hl)
theorem cv_if_ge {x off : Int} {tgt : Nat} (hd : decode M.2.1 pc = .ok (.ifCond .ge off, 3)) (ht : (pc : Int) + off = (tgt : Int)) (h : -2147483648 ≤ x ∧ x ≤ 2147483647) (kt : 0 ≤ x → CV M r n0 z tgt ls st w Q) (kf : ¬ 0 ≤ x → CV M r n0 z (pc + 3) ls st w Q) : CV M r n0 z pc ls (vI x :: st) w Q := by
  intro p l e s m args below meth c D kA as0 as A H locs la hc ha hP hD hS hl
  exact lv_if_ge hc.1 hc.2.1 hd ht (fun q => kt ((ct_le32 (x := 0) (by omega)).mp q) p l e s m args below meth c D kA as0 as A H locs la hc ha hP hD hS hl) (fun q => kf (fun h0 => q ((ct_le32 (x := 0) (by omega)).mpr h0)) p l e s m args below meth c D kA as0 as A H locs la hc ha hP hD hS hl)
theorem cv_icmp_gt {x y off : Int} {tgt : Nat} (hd : decode M.2.1 pc = .ok (.if_icmp .gt off, 3)) (ht : (pc : Int) + off = (tgt : Int)) (h : -2147483648 ≤ x ∧ x ≤ 2147483647 ∧ -2147483648 ≤ y ∧ y ≤ 2147483647) (kt : y < x → CV M r n0 z tgt ls st w Q) (kf : ¬ y < x → CV M r n0 z (pc + 3) ls st w Q) : CV M r n0 z pc ls (vI y :: vI x :: st) w Q := by
  intro p l e s m args below meth c D kA as0 as A H locs la hc ha hP hD hS hl
  exact lv_icmp_gt hc.1 hc.2.1 hd ht (fun q => kt ((ct_lt32 ⟨h.2.2.1, h.2.2.2, h.1, h.2.1⟩).mp q) p l e s m args below meth c D kA as0 as A H locs la hc ha hP hD hS hl) (fun q => kf (fun h0 => q ((ct_lt32 ⟨h.2.2.1, h.2.2.2, h.1, h.2.1⟩).mpr h0)) p l e s m args below meth c D kA as0 as A H locs la hc ha hP hD hS hl)
theorem cv_if_gt {x off : Int} {tgt : Nat} (hd : decode M.2.1 pc = .ok (.ifCond .gt off, 3)) (ht : (pc : Int) + off = (tgt : Int)) (h : -2147483648 ≤ x ∧ x ≤ 2147483647) (kt : 0 < x → CV M r n0 z tgt ls st w Q) (kf : ¬ 0 < x → CV M r n0 z (pc + 3) ls st w Q) : CV M r n0 z pc ls (vI x :: st) w Q := by
  intro p l e s m args below meth c D kA as0 as A H locs la hc ha hP hD hS hl
  exact lv_if_gt hc.1 hc.2.1 hd ht (fun q => kt ((ct_lt32 (x := 0) (by omega)).mp q) p l e s m args below meth c D kA as0 as A H locs la hc ha hP hD hS hl) (fun q => kf (fun h0 => q ((ct_lt32 (x := 0) (by omega)).mpr h0)) p l e s m args below meth c D kA as0 as A H locs la hc ha hP hD hS hl)
theorem cv_icmp_le {x y off : Int} {tgt : Nat} (hd : decode M.2.1 pc = .ok (.if_icmp .le off, 3)) (ht : (pc : Int) + off = (tgt : Int)) (h : -2147483648 ≤ x ∧ x ≤ 2147483647 ∧ -2147483648 ≤ y ∧ y ≤ 2147483647) (kt : x ≤ y → CV M r n0 z tgt ls st w Q) (kf : ¬ x ≤ y → CV M r n0 z (pc + 3) ls st w Q) : CV M r n0 z pc ls (vI y :: vI x :: st) w Q := by
  intro p l e s m args below meth c D kA as0 as A H locs la hc ha hP hD hS hl
  exact lv_icmp_le hc.1 hc.2.1 hd ht (fun q => kt ((ct_le32 h).mp q) p l e s m args below meth c D kA as0 as A H locs la hc ha hP hD hS hl) (fun q => kf (fun h0 => q ((ct_le32 h).mpr h0)) p l e s m args below meth c D kA as0 as A H locs la hc ha hP hD hS hl)
theorem cv_if_le {x off : Int} {tgt : Nat} (hd : decode M.2.1 pc = .ok (.ifCond .le off, 3)) (ht : (pc : Int) + off = (tgt : Int)) (h : -2147483648 ≤ x ∧ x ≤ 2147483647) (kt : x ≤ 0 → CV M r n0 z tgt ls st w Q) (kf : ¬ x ≤ 0 → CV M r n0 z (pc + 3) ls st w Q) : CV M r n0 z pc ls (vI x :: st) w Q := by
  intro p l e s m args below meth c D kA as0 as A H locs la hc ha hP hD hS hl
  exact lv_if_le hc.1 hc.2.1 hd ht (fun q => kt ((ct_le32 (y := 0) (by omega)).mp q) p l e s m args below meth c D kA as0 as A H locs la hc ha hP hD hS hl) (fun q => kf (fun h0 => q ((ct_le32 (y := 0) (by omega)).mpr h0)) p l e s m args below meth c D kA as0 as A H locs la hc ha hP hD hS hl)
theorem cv_tableOut {x dflt lo hi : Int} {offs : Array Int} {len tgt : Nat} (hd : decode M.2.1 pc = .ok (.tableswitch dflt lo hi offs, len)) (ht : (pc : Int) + dflt = (tgt : Int)) (hr : -2147483648 ≤ x ∧ x ≤ 2147483647) (h : x < lo ∨ hi < x) (k : CV M r n0 z tgt ls st w Q) : CV M r n0 z pc ls (vI x :: st) w Q := by
  intro p l e s m args below meth c D kA as0 as A H locs la hc ha hP hD hS hl
  exact lv_tableOut hc.1 hc.2.1 hd (by rw [ct_t32 hr.1 hr.2]; exact h) ht (k p l e s m args below meth c D kA as0 as A H locs la hc ha hP hD hS hl)
theorem cv_tableIn {x dflt lo hi off : Int} {offs : Array Int} {len tgt : Nat} (hd : decode M.2.1 pc = .ok (.tableswitch dflt lo hi offs, len)) (hr : -2147483648 ≤ x ∧ x ≤ 2147483647) (h1 : lo ≤ x) (h2 : x ≤ hi) (ho : offs[(x - lo).toNat]? = some off) (ht : (pc : Int) + off = (tgt : Int)) (k : CV M r n0 z tgt ls st w Q) : CV M r n0 z pc ls (vI x :: st) w Q := by
  intro p l e s m args below meth c D kA as0 as A H locs la hc ha hP hD hS hl
  exact lv_tableIn hc.1 hc.2.1 hd (by rw [ct_t32 hr.1 hr.2]; omega) (by rw [ct_t32 hr.1 hr.2]; omega) (by rw [ct_t32 hr.1 hr.2]; exact ho) ht (k p l e s m args below meth c D kA as0 as A H locs la hc ha hP hD hS hl)
theorem cv_lookup {x dflt off : Int} {ps : Array (Int × Int)} {len tgt : Nat} (hd : decode M.2.1 pc = .ok (.lookupswitch dflt ps, len)) (hr : -2147483648 ≤ x ∧ x ≤ 2147483647) (hp : (ps.toList.zip (ps.toList.drop 1)).all (fun (a, next) => a.1 < next.1) = true) (ho : Op.lookupswitch.offset ps.toList dflt x = off) (ht : (pc : Int) + off = (tgt : Int)) (k : CV M r n0 z tgt ls st w Q) : CV M r n0 z pc ls (vI x :: st) w Q := by
  intro p l e s m args below meth c D kA as0 as A H locs la hc ha hP hD hS hl
  exact lv_lookup hc.1 hc.2.1 hd hp (by rw [ct_t32 hr.1 hr.2]; exact ho) ht (k p l e s m args below meth c D kA as0 as A H locs la hc ha hP hD hS hl)
end CVS
end
section
/-! THE RULES, third: fields, arrays, constants of the pool, returns -/
section CVT
variable {M : ct_M} {r : Nat × Nat × Nat} {n0 : Nat} {z : Nat × Nat} {pc : Nat} {ls : List (Nat × ct_V)} {st : List ct_V} {w : List ct_C} {Q : Option ct_V → List ct_C → Prop}
/-- a class of the worlds: its words are in the tables, its types, its names are apart -/
def ct_cl (ci : Nat) (C : String) (T : u_T) (N : Nat) (ty : Nat → FieldType) : Prop := vwCl[ci]? = some (C, T, N) ∧ (∀ w ∈ u_ws C T N, w ∈ ct_tbl) ∧ (∀ k, k < N → parseFieldDescriptor (T k).2.2.1 = some (ty k)) ∧ (∀ a, a < N → ∀ b, b < N → a ≠ b → (T a).2.1 ≠ (T b).2.1)
/-- a field's link: the k-th of class ci -/
def ct_fl (own : String) (idx ci k : Nat) : Prop := ∃ (C : String) (T : u_T) (N : Nat) (ty : Nat → FieldType), ct_cl ci C T N ty ∧ k < N ∧ Cond.fieldLink own idx (T k).1 (T k).2.1 (T k).2.2.1 ∈ ct_tbl
def ct_fp (own : String) (idx ci k : Nat) (fin : Bool) (t : FieldType) : Prop := ∃ (C : String) (T : u_T) (N : Nat) (ty : Nat → FieldType), ct_cl ci C T N ty ∧ k < N ∧ Cond.fieldLink own idx (T k).1 (T k).2.1 (T k).2.2.1 ∈ ct_tbl ∧ (T k).2.2.2 = fin ∧ parseFieldDescriptor (T k).2.2.1 = some t ∧ (T k).1 = C
theorem cv_getf {idx ci k q : Nat} {fs : List ct_V} {v : ct_V} (hf : ct_fl M.1.cls idx ci k) (hd : decode M.2.1 pc = .ok (.getfield idx, 3)) (hw : w[q]? = some (cO ci fs)) (hv : fs[k]? = some v)
    (kk : CV M r n0 z (pc + 3) ls (v :: st) w Q) : CV M r n0 z pc ls (vR q :: st) w Q := by
  intro p l e s m args below meth c D kA as0 as A H locs la hc ha hP hD hS hl
  obtain ⟨C, T, N, ty, ⟨h1, h2, h3, h4⟩, h5, h6⟩ := hf
  have hts := hc.2.2.2.2.2.1
  exact va_get hc.1 hc.2.1 hts h2 hc.2.2.2.2.1 hc.2.2.2.2.2.2.2.1 hP q (ct_wd_at hw) h1 k h5 (hts _ h6) (fun _ h => h) (by rw [List.getElem?_map, hv]; rfl) hd (kk p l e s m args below meth c D kA as0 as A H locs la hc ha hP hD hS hl)
theorem cv_putf {idx ci k q : Nat} {fs : List ct_V} {v : ct_V} {t : FieldType} (hf : ct_fp M.1.cls idx ci k false t) (hd : decode M.2.1 pc = .ok (.putfield idx, 3)) (hw : w[q]? = some (cO ci fs)) (hk : k < fs.length) (hn : ∀ as, narrow t (ct_tv as v) = ct_tv as v ∧ fits t (ct_tv as v) = true)
    (kk : CV M r n0 z (pc + 3) ls st (w.set q (cO ci (fs.set k v))) Q) : CV M r n0 z pc ls (v :: vR q :: st) w Q := by
  intro p l e s m args below meth c D kA as0 as A H locs la hc ha hP hD hS hl
  obtain ⟨C, T, N, ty, ⟨h1, h2, h3, h4⟩, h5, h6, h7, h8, -⟩ := hf
  have hts := hc.2.2.2.2.2.1
  refine va_put hc.1 hc.2.1 hts h2 ty h3 h4 hc.2.2.2.2.1 hc.2.2.2.2.2.2.2.1 hP hD hS q (ct_wd_at hw) h1 k h5 (hts _ h6) (fun _ h => h) h7 h8 (hn as).1 (hn as).2 (by rw [List.length_map]; exact hk) hd (fun H1 locs1 hP1 hD1 hS1 => ?_)
  have eE : (ct_wd kA as w).set q (as q, .inr (ci, (fs.map (ct_tv as)).set k (ct_tv as v))) = ct_wd kA as (w.set q (cO ci (fs.set k v))) := by
    rw [← ct_wd_set]
    show _ = (ct_wd kA as w).set q (as q, .inr (ci, (fs.set k v).map (ct_tv as)))
    rw [List.map_set]
  rw [eE] at hP1 hD1
  exact kk p l e s m args below meth c D kA as0 as A H1 locs1 la hc ha hP1 hD1 hS1 hl
/-- a final field, in a constructor -/
theorem cv_putF {idx ci k q : Nat} {fs : List ct_V} {v : ct_V} {t : FieldType} (hf : ct_fp M.1.cls idx ci k true t) (hi : M.1.name = "<init>") (hci : ∀ C, vwCl[ci]? = some C → C.1 = M.1.cls) (hd : decode M.2.1 pc = .ok (.putfield idx, 3)) (hw : w[q]? = some (cO ci fs)) (hk : k < fs.length) (hn : ∀ as, narrow t (ct_tv as v) = ct_tv as v ∧ fits t (ct_tv as v) = true)
    (kk : CV M r n0 z (pc + 3) ls st (w.set q (cO ci (fs.set k v))) Q) : CV M r n0 z pc ls (v :: vR q :: st) w Q := by
  intro p l e s m args below meth c D kA as0 as A H locs la hc ha hP hD hS hl
  obtain ⟨C, T, N, ty, ⟨h1, h2, h3, h4⟩, h5, h6, h7, h8, h9⟩ := hf
  have hts := hc.2.2.2.2.2.1
  have hC : C = M.1.cls := hci _ h1
  refine va_putF hc.1 hc.2.1 hts h2 ty h3 h4 hc.2.2.2.2.1 hc.2.2.2.2.2.2.2.1 hP hD hS q (ct_wd_at hw) h1 k h5 (hts _ h6) (fun _ h => h) h7 (hc.2.2.2.2.2.2.2.2.2.2.2.trans hi) (h9.trans hC) h8 (hn as).1 (hn as).2 (by rw [List.length_map]; exact hk) hd (fun H1 locs1 hP1 hD1 hS1 => ?_)
  have eE : (ct_wd kA as w).set q (as q, .inr (ci, (fs.map (ct_tv as)).set k (ct_tv as v))) = ct_wd kA as (w.set q (cO ci (fs.set k v))) := by
    rw [← ct_wd_set]
    show _ = (ct_wd kA as w).set q (as q, .inr (ci, (fs.set k v).map (ct_tv as)))
    rw [List.map_set]
  rw [eE] at hP1 hD1
  exact kk p l e s m args below meth c D kA as0 as A H1 locs1 la hc ha hP1 hD1 hS1 hl
theorem ct_in {i : Int} {n : Nat} (h : 0 ≤ i ∧ i < (n : Int) ∧ (n : Int) ≤ 2147483647) : vp_in (Int32.ofInt i) n := by
  rw [vp_in_iff, ct_t32 (by omega) (by omega)]
  exact ⟨h.1, h.2.1⟩
theorem ct_cl32 {i : Int} {n : Nat} (h : 0 ≤ i ∧ i < (n : Int) ∧ (n : Int) ≤ 2147483647) : (Int32.ofInt i).toNatClampNeg = i.toNat := by
  rw [ct_nat h.1]
  exact nI_clamp (by omega)
/-- a row's new content -/
def ct_up {α : Type} (f : Nat → α) (k : Nat) (x : α) : Nat → α := fun j => if j = k then x else f j
theorem ct_up_s {α : Type} {f : Nat → α} {k : Nat} {x : α} : ct_up f k x k = x := if_pos rfl
theorem ct_up_n {α : Type} {f : Nat → α} {k j : Nat} {x : α} (h : j ≠ k) : ct_up f k x j = f j := if_neg h
theorem cv_iald {q n : Nat} {f : Nat → Int} {i : Int} (hd : decode M.2.1 pc = .ok (.iaload, 1)) (hw : w[q]? = some (cA 0 n f)) (hi : 0 ≤ i ∧ i < (n : Int) ∧ (n : Int) ≤ 2147483647)
    (kk : CV M r n0 z (pc + 1) ls (vI (f i.toNat) :: st) w Q) : CV M r n0 z pc ls (vI i :: vR q :: st) w Q := by
  intro p l e s m args below meth c D kA as0 as A H locs la hc ha hP hD hS hl
  refine va_iald hc.1 hc.2.1 hc.2.2.2.2.2.2.2.1 hP q 0 (ct_wd_at hw) rfl (ct_in hi) hd ?_
  rw [ct_cl32 hi]
  exact kk p l e s m args below meth c D kA as0 as A H locs la hc ha hP hD hS hl
theorem cv_zald {q n : Nat} {f : Nat → Int} {i : Int} (hd : decode M.2.1 pc = .ok (.baload, 1)) (hw : w[q]? = some (cA 1 n f)) (hi : 0 ≤ i ∧ i < (n : Int) ∧ (n : Int) ≤ 2147483647)
    (kk : CV M r n0 z (pc + 1) ls (vI (f i.toNat) :: st) w Q) : CV M r n0 z pc ls (vI i :: vR q :: st) w Q := by
  intro p l e s m args below meth c D kA as0 as A H locs la hc ha hP hD hS hl
  refine va_zald hc.1 hc.2.1 hc.2.2.2.2.2.2.2.1 hP q 1 (ct_wd_at hw) rfl (ct_in hi) hd ?_
  rw [ct_cl32 hi]
  exact kk p l e s m args below meth c D kA as0 as A H locs la hc ha hP hD hS hl
theorem ct_updI {f : Nat → Int} {k : Nat} {x : Int} : upd (fun j => Int32.ofInt (f j)) k (Int32.ofInt x) = fun j => Int32.ofInt (ct_up f k x j) := by
  funext j
  unfold upd ct_up
  split <;> rfl
theorem cv_iast {q n : Nat} {f : Nat → Int} {i x : Int} (hd : decode M.2.1 pc = .ok (.iastore, 1)) (hw : w[q]? = some (cA 0 n f)) (hi : 0 ≤ i ∧ i < (n : Int) ∧ (n : Int) ≤ 2147483647)
    (kk : CV M r n0 z (pc + 1) ls st (w.set q (cA 0 n (ct_up f i.toNat x))) Q) : CV M r n0 z pc ls (vI x :: vI i :: vR q :: st) w Q := by
  intro p l e s m args below meth c D kA as0 as A H locs la hc ha hP hD hS hl
  refine va_iast hc.1 hc.2.1 hc.2.2.2.2.2.2.2.1 hP hD hS q 0 (ct_wd_at hw) rfl (ct_in hi) hd (fun H1 locs1 hP1 hD1 hS1 => ?_)
  rw [ct_cl32 hi, ct_updI] at hP1 hD1
  have eE : (ct_wd kA as w).set q (as q, ct_te kA as (cA 0 n (ct_up f i.toNat x))) = ct_wd kA as (w.set q (cA 0 n (ct_up f i.toNat x))) := ct_wd_set
  exact kk p l e s m args below meth c D kA as0 as A H1 locs1 la hc ha (eE ▸ hP1) (eE ▸ hD1) hS1 hl
theorem ct_narZ {x : Int} (h : x = 0 ∨ x = 1) : vp_nar .boolean (Int32.ofInt x) = Int32.ofInt x := by
  rcases h with rfl | rfl <;> decide +kernel
theorem cv_zast {q n : Nat} {f : Nat → Int} {i x : Int} (hd : decode M.2.1 pc = .ok (.bastore, 1)) (hw : w[q]? = some (cA 1 n f)) (hi : 0 ≤ i ∧ i < (n : Int) ∧ (n : Int) ≤ 2147483647) (hx : x = 0 ∨ x = 1)
    (kk : CV M r n0 z (pc + 1) ls st (w.set q (cA 1 n (ct_up f i.toNat x))) Q) : CV M r n0 z pc ls (vI x :: vI i :: vR q :: st) w Q := by
  intro p l e s m args below meth c D kA as0 as A H locs la hc ha hP hD hS hl
  refine va_zast hc.1 hc.2.1 hc.2.2.2.2.2.2.2.1 hP hD hS q 1 (ct_wd_at hw) rfl (ct_in hi) hd (fun H1 locs1 hP1 hD1 hS1 => ?_)
  rw [ct_cl32 hi, ct_narZ hx, ct_updI] at hP1 hD1
  have eE : (ct_wd kA as w).set q (as q, ct_te kA as (cA 1 n (ct_up f i.toNat x))) = ct_wd kA as (w.set q (cA 1 n (ct_up f i.toNat x))) := ct_wd_set
  exact kk p l e s m args below meth c D kA as0 as A H1 locs1 la hc ha (eE ▸ hP1) (eE ▸ hD1) hS1 hl
/-- a row of States, a row of int rows -/
theorem cv_aald {q n t x : Nat} {f : Nat → Option Nat} {i : Int} (ht : t = 2 ∨ t = 3) (hd : decode M.2.1 pc = .ok (.aaload, 1)) (hw : w[q]? = some (cQ t n f)) (hi : 0 ≤ i ∧ i < (n : Int) ∧ (n : Int) ≤ 2147483647) (hx : f i.toNat = some x)
    (kk : CV M r n0 z (pc + 1) ls (vR x :: st) w Q) : CV M r n0 z pc ls (vI i :: vR q :: st) w Q := by
  intro p l e s m args below meth c D kA as0 as A H locs la hc ha hP hD hS hl
  have hin := ct_in hi
  have hlt : (Int32.ofInt i).toNatClampNeg < n := Nat.not_le.mp fun q => hin (Or.inr q)
  have hK := hc.2.2.2.2.2.2.2.1
  have hv : (f (Int32.ofInt i).toNatClampNeg).map as = some (as x) := by rw [ct_cl32 hi, hx]; rfl
  have go : ∀ ty : FieldType, (ct_tys kA)[t]? = some (kA t, ty) → ty.isReference = true → W p l e (ct_rm r) s m args below meth c H locs z.1 z.2 (MQ below (ct_Qc D kA as0 r.2.1 n0 A Q) args s r.2.1 r.2.2 A) (F0 m pc la (.int (Int32.ofInt i) :: .ref (as q) :: st.map (ct_tv as))) := by
    intro ty hty hrf
    refine W.aald (v := va_rf (some (as x))) (ty := ty) hc.1 hc.2.1 (hP q _ (ct_wd_at hw)) ((hK.2 t _ hty).1 n (fun j => va_rf ((f j).map as))) hrf (fun q => by cases q) (by show ¬ (_ ∨ (arrV _ _ _).slots.size ≤ _); rw [arrV_size]; exact hin) (by show (arrV _ _ _).slots[_]? = _; rw [arrV_read _ _ hlt]; exact congrArg (fun o => some (va_rf o)) hv) rfl rfl hd ?_
    exact kk p l e s m args below meth c D kA as0 as A H locs la hc ha hP hD hS hl
  rcases ht with rfl | rfl
  · exact go _ rfl rfl
  · exact go _ rfl rfl
theorem ct_upQ {as : Nat → Nat} {f : Nat → Option Nat} {k x : Nat} : va_up (fun j => (f j).map as) k (some (as x)) = fun j => (ct_up f k (some x) j).map as := by
  funext j
  unfold va_up ct_up
  split <;> rfl
theorem cv_aast {q n x : Nat} {f : Nat → Option Nat} {i : Int} {fs : List ct_V} (hd : decode M.2.1 pc = .ok (.aastore, 1)) (hw : w[q]? = some (cQ 2 n f)) (hi : 0 ≤ i ∧ i < (n : Int) ∧ (n : Int) ≤ 2147483647) (hx : w[x]? = some (cO 5 fs))
    (kk : CV M r n0 z (pc + 1) ls st (w.set q (cQ 2 n (ct_up f i.toNat (some x)))) Q) : CV M r n0 z pc ls (vR x :: vI i :: vR q :: st) w Q := by
  intro p l e s m args below meth c D kA as0 as A H locs la hc ha hP hD hS hl
  refine va_astq (r := (RX5, TX5, 4)) hc.1 hc.2.1 hc.2.2.2.2.2.2.2.1 hP hD hS q 2 x 5 (ct_wd_at hw) rfl (ct_wd_at hx) rfl (ct_in hi) hd (fun H1 locs1 hP1 hD1 hS1 => ?_)
  rw [ct_cl32 hi, ct_upQ] at hP1 hD1
  have eE : (ct_wd kA as w).set q (as q, ct_te kA as (cQ 2 n (ct_up f i.toNat (some x)))) = ct_wd kA as (w.set q (cQ 2 n (ct_up f i.toNat (some x)))) := ct_wd_set
  exact kk p l e s m args below meth c D kA as0 as A H1 locs1 la hc ha (eE ▸ hP1) (eE ▸ hD1) hS1 hl
-- constants of the pool
theorem cv_ldc2 {idx : Nat} {v : Int} (hd : decode M.2.1 pc = .ok (.ldc2_w idx, 3)) (hw : Cond.constantLong M.1.cls idx (Int64.ofInt v) ∈ ct_tbl) (k : CV M r n0 z (pc + 3) ls (vL v :: st) w Q) : CV M r n0 z pc ls st w Q := by
  intro p l e s m args below meth c D kA as0 as A H locs la hc ha hP hD hS hl
  exact lv_ldc2 hc.1 hc.2.1 hc.2.2.2.2.1 (hc.2.2.2.2.2.1 _ hw) hd (k p l e s m args below meth c D kA as0 as A H locs la hc ha hP hD hS hl)
theorem cv_ldcw {idx : Nat} {v : Int} (hd : decode M.2.1 pc = .ok (.ldc_w idx, 3)) (hw : Cond.constant M.1.cls idx (Int32.ofInt v) ∈ ct_tbl) (k : CV M r n0 z (pc + 3) ls (vI v :: st) w Q) : CV M r n0 z pc ls st w Q := by
  intro p l e s m args below meth c D kA as0 as A H locs la hc ha hP hD hS hl
  exact lv_ldcw hc.1 hc.2.1 hc.2.2.2.2.1 (hc.2.2.2.2.2.1 _ hw) hd (k p l e s m args below meth c D kA as0 as A H locs la hc ha hP hD hS hl)
/-- ORDERS[i]: getstatic, the index, iaload -/
theorem cv_ord {idx : Nat} {host : String} {i v : Int} {pc1 : Nat} (hd : decode M.2.1 pc = .ok (.getstatic idx, 3)) (hn : Cond.fieldLinkNest M.1.cls idx "CutTrail" "ORDERS" "[I" host ∈ ct_nst) (hi : 0 ≤ i ∧ i < 7) (hv : ct_ord i.toNat = .int (Int32.ofInt v))
    (go : ∀ (p : Program) (l : Launch) (e : Env) (s : State) (m : MethodId) (args : Array Value) (below : List Frame) (meth : Method) (c : Code) (D : va_G) (kA : Nat → ClassId) (as : Nat → Nat) (A : Nat → Prop) (H : Heap) (locs : List Loc) (la : Array Slot) (x : Value) (QQ : State → Prop), ct_cx M D kA A p s m args meth c → va_P D vwCl (ct_wd kA as w) H → va_D A (ct_wd kA as w) → lv_has la M.2.2.1 (ct_lm as ls) → W p l e (ct_rm r) s m args below meth c H locs z.1 z.2 QQ (F0 m pc1 la (.int (Int32.ofInt i) :: x :: st.map (ct_tv as))) → W p l e (ct_rm r) s m args below meth c H locs z.1 z.2 QQ (F0 m (pc + 3) la (x :: st.map (ct_tv as))))
    (hd2 : decode M.2.1 pc1 = .ok (.iaload, 1)) (k : CV M r n0 z (pc1 + 1) ls (vI v :: st) w Q) : CV M r n0 z pc ls st w Q := by
  intro p l e s m args below meth c D kA as0 as A H locs la hc ha hP hD hS hl
  obtain ⟨t, hZ, hT⟩ := hc.2.2.2.2.2.2.2.2.2.2.1
  refine va_getsN hc.1 hc.2.1 hZ hS hc.2.2.2.2.1 (va_Nw.use rfl (hc.2.2.2.2.2.2.1.1 _ hn)) (fun _ h => h) hd ?_
  refine go p l e s m args below meth c D kA as A H locs la (.ref t) _ hc hP hD hl ?_
  refine va_ti hc.1 hc.2.1 hT hS (ct_in (n := 7) (by omega)) (v := .int (Int32.ofInt v)) ?_ hd2 ?_
  · rw [ct_cl32 (n := 7) (by omega)]
    exact hv
  · exact k p l e s m args below meth c D kA as0 as A H locs la hc ha hP hD hS hl
-- returns
theorem cv_iret {x : Int} (hr : M.2.2.2 = some .int) (hd : decode M.2.1 pc = .ok (.ireturn, 1)) (hz : z.1 ≤ r.2.1 ∧ z.2 ≤ r.2.2) (hQ : Q (some (vI x)) w) : CV M r n0 z pc ls [vI x] w Q := by
  intro p l e s m args below meth c D kA as0 as A H locs la hc ha hP hD hS hl
  refine W.widen hz.1 hz.2 ?_
  exact W.iret hc.1 hc.2.1 (hc.2.2.1.trans hr) (fun t ht hW => ⟨⟨some (vI x), w, as, rfl, hQ, ha, by rw [ht]; exact hP, hD⟩, hS.F ht⟩) hS.2.2 hd hc.2.2.2.2.2.2.2.2.2.1
theorem cv_zret {x : Int} (hr : M.2.2.2 = some .boolean) (hd : decode M.2.1 pc = .ok (.ireturn, 1)) (hz : z.1 ≤ r.2.1 ∧ z.2 ≤ r.2.2) (hx : x = 0 ∨ x = 1) (hQ : Q (some (vI x)) w) : CV M r n0 z pc ls [vI x] w Q := by
  intro p l e s m args below meth c D kA as0 as A H locs la hc ha hP hD hS hl
  refine W.widen hz.1 hz.2 ?_
  exact W.zret hc.1 hc.2.1 (hc.2.2.1.trans hr) (by rcases hx with rfl | rfl <;> decide +kernel) (fun t ht hW => ⟨⟨some (vI x), w, as, rfl, hQ, ha, by rw [ht]; exact hP, hD⟩, hS.F ht⟩) hS.2.2 hd hc.2.2.2.2.2.2.2.2.2.1
theorem cv_lret {x : Int} (hr : M.2.2.2 = some .long) (hd : decode M.2.1 pc = .ok (.lreturn, 1)) (hz : z.1 ≤ r.2.1 ∧ z.2 ≤ r.2.2) (hQ : Q (some (vL x)) w) : CV M r n0 z pc ls [vL x] w Q := by
  intro p l e s m args below meth c D kA as0 as A H locs la hc ha hP hD hS hl
  refine W.widen hz.1 hz.2 ?_
  exact W.lret hc.1 hc.2.1 (hc.2.2.1.trans hr) (fun t ht hW => ⟨⟨some (vL x), w, as, rfl, hQ, ha, by rw [ht]; exact hP, hD⟩, hS.F ht⟩) hS.2.2 hd hc.2.2.2.2.2.2.2.2.2.1
theorem cv_ret (hr : M.2.2.2 = none) (hd : decode M.2.1 pc = .ok (.return_, 1)) (hz : z.1 ≤ r.2.1 ∧ z.2 ≤ r.2.2) (hQ : Q none w) : CV M r n0 z pc ls [] w Q := by
  intro p l e s m args below meth c D kA as0 as A H locs la hc ha hP hD hS hl
  refine W.widen hz.1 hz.2 ?_
  exact W.vret hc.1 hc.2.1 (hc.2.2.1.trans hr) (fun t ht hW => ⟨⟨none, w, as, rfl, hQ, ha, by rw [ht]; exact hP, hD⟩, hS.F ht⟩) hS.2.2 hd hc.2.2.2.2.2.2.2.2.2.1
end CVT
end
section
/-! CALLS: the callee's cells are places of the caller's list -/
def ct_rv (g : Nat → Nat) (v : ct_V) : ct_V := match v with
  | .inl i => .inl i
  | .inr (.inl i) => .inr (.inl i)
  | .inr (.inr q) => .inr (.inr (q.map g))
def ct_rc (g : Nat → Nat) (c : ct_C) : ct_C := match c with
  | .inl o => .inl (o.1, o.2.map (ct_rv g))
  | .inr (.inl a) => .inr (.inl a)
  | .inr (.inr a) => .inr (.inr (a.1, a.2.1, fun j => (a.2.2 j).map g))
theorem ct_rv_eq (as g : Nat → Nat) (v : ct_V) : ct_tv (fun i => as (g i)) v = ct_tv as (ct_rv g v) := by
  rcases v with i | i | q
  · rfl
  · rfl
  · cases q <;> rfl
theorem ct_rc_eq (kA : Nat → ClassId) (as g : Nat → Nat) (c : ct_C) : ct_te kA (fun i => as (g i)) c = ct_te kA as (ct_rc g c) := by
  rcases c with o | a | a
  · show Sum.inr (o.1, o.2.map _) = Sum.inr (o.1, (o.2.map (ct_rv g)).map (ct_tv as))
    rw [List.map_map]
    congr 2
    apply List.map_congr_left
    intro v _
    exact ct_rv_eq as g v
  · rfl
  · show Sum.inl (kA a.1, a.2.1, Sum.inr (Sum.inr (Sum.inr (Sum.inr (fun j => (a.2.2 j).map _))))) = Sum.inl (kA a.1, a.2.1, Sum.inr (Sum.inr (Sum.inr (Sum.inr (fun j => ((a.2.2 j).map g).map as)))))
    congr 7
    funext j
    cases a.2.2 j <;> rfl
/-- the places of the callee's cells -/
def ct_pl (ps : List Nat) (i : Nat) : Nat := ps.getD i 0
/-- the caller's cells behind the call -/
def ct_bk : List Nat → List ct_C → List ct_C → List ct_C
  | p :: ps, c :: cs, w => ct_bk ps cs (w.set p c)
  | _, _, w => w
theorem ct_bk_len : ∀ (ps : List Nat) (cs w : List ct_C), (ct_bk ps cs w).length = w.length
  | [], _, _ => by simp [ct_bk]
  | _ :: _, [], _ => by simp [ct_bk]
  | p :: ps, c :: cs, w => by rw [ct_bk, ct_bk_len ps cs]; simp
theorem ct_bk_out : ∀ (ps : List Nat) (cs w : List ct_C) (j : Nat), j ∉ ps → (ct_bk ps cs w)[j]? = w[j]?
  | [], _, _, _, _ => by simp [ct_bk]
  | _ :: _, [], _, _, _ => by simp [ct_bk]
  | p :: ps, c :: cs, w, j, h => by
    simp only [List.mem_cons, not_or] at h
    rw [ct_bk, ct_bk_out ps cs _ j h.2, List.getElem?_set_ne (Ne.symm h.1)]
theorem ct_bk_in : ∀ (ps : List Nat) (cs w : List ct_C) (i p : Nat) (c : ct_C), va_nd ps = true → ps[i]? = some p → cs[i]? = some c → p < w.length → (ct_bk ps cs w)[p]? = some c
  | [], _, _, _, _, _, _, h, _, _ => by simp at h
  | _ :: _, [], _, _, _, _, _, _, h, _ => by simp at h
  | p0 :: ps, c0 :: cs, w, i, p, c, hn, h1, h2, hl => by
    simp only [va_nd, Bool.and_eq_true, decide_eq_true_eq] at hn
    rw [ct_bk]
    cases i with
    | zero =>
      simp only [List.getElem?_cons_zero, Option.some.injEq] at h1 h2
      subst h1; subst h2
      rw [ct_bk_out ps cs _ _ hn.1, List.getElem?_set_self hl]
    | succ i =>
      simp only [List.getElem?_cons_succ] at h1 h2
      exact ct_bk_in ps cs _ i p c hn.2 h1 h2 (by simpa using hl)
theorem ct_wD {A : Nat → Prop} {kA : Nat → ClassId} {as : Nat → Nat} {w w' : List ct_C} (hl : w'.length = w.length) (h : va_D A (ct_wd kA as w)) : va_D A (ct_wd kA as w') := by
  have key : ∀ (i : Nat) (q : Nat × va_E), (ct_wd kA as w')[i]? = some q → ∃ q0, (ct_wd kA as w)[i]? = some q0 ∧ q0.1 = q.1 := by
    intro i q hq
    obtain ⟨c, h1, rfl⟩ := ct_wd_inv hq
    have hi : i < w.length := by rw [← hl]; exact (List.getElem?_eq_some_iff.mp h1).1
    exact ⟨_, ct_wd_at (List.getElem?_eq_getElem hi), rfl⟩
  refine ⟨fun i j p q hi hj e => ?_, fun k q hk => ?_⟩
  · obtain ⟨a, a1, a2⟩ := key i p hi
    obtain ⟨b, b1, b2⟩ := key j q hj
    exact h.1 i j a b a1 b1 (a2.trans (e.trans b2.symm))
  · obtain ⟨a, a1, a2⟩ := key k q hk
    rw [← a2]
    exact h.2 k a a1
theorem ct_isN_warm {w : Cond} (h : ct_isN w = true) {s U : State} (hW : s.WarmedH U.vm) (hZ : va_Nw w s) : va_Nw w U := by
  cases w <;> first | (simp [ct_isN] at h; done) | exact va_Nw.warmF hW hZ | exact va_Nw.warmM hW hZ
theorem ct_AOA.moved {u U : State} (hvm : u.vm.Alike U.vm) (h : ct_AOA u) : ct_AOA U := by
  have hb : U.vm.bare = u.vm.bare := by first | exact hvm.bare_eq | exact hvm.bare_eq.symm
  unfold ct_AOA Cond.before Cond.holds at h ⊢
  simp only [Cond.value] at h ⊢
  simp only [hvm.findClass]
  cases hf : u.vm.findClass (FieldType.array .int).toString with
  | none => rw [hf] at h; simp at h
  | some comp =>
    rw [hf] at h
    simp only [Option.bind_some] at h ⊢
    have h1 := va_idx_bare U.vm comp
    rw [hb] at h1
    have hi := h1.symm.trans (va_idx_bare u.vm comp)
    refine Eq.trans (congrArg (fun o : Option Nat => (o.bind (fun c => (U.vm.classes[c]?).map fun (k : Class) => match k.kind with | .array _ ty => decide (ty = FieldType.array .int) && decide (u.vm.findClass ("[" ++ (FieldType.array .int).toString) = some c) | _ => false) == some true)) hi) ?_
    refine Eq.trans ?_ h
    show _ = ((Array.findIdx? (fun (x : Class) => match x.kind with | .array component _ => component == comp | _ => false) u.vm.classes).bind _ == some true)
    generalize Array.findIdx? (fun (x : Class) => match x.kind with | .array component _ => component == comp | _ => false) u.vm.classes = o
    cases o with
    | none => rfl
    | some c =>
      simp only [Option.bind_some]
      cases hk : u.vm.classes[c]? with
      | none =>
        have hn : U.vm.classes[c]? = none := by
          cases hk2 : U.vm.classes[c]? with
          | none => rfl
          | some k2 =>
            obtain ⟨k3, hk3, -⟩ := hvm.symm.2.2 _ _ hk2
            rw [hk] at hk3
            cases hk3
        rw [hn]
        rfl
      | some k =>
        obtain ⟨k', hk', he⟩ := hvm.2.2 _ _ hk
        rw [hk']
        have e2 : k'.kind = k.kind := by rw [he]
        simp only [Option.map_some, e2]
        rfl
theorem ct_nw.warm {s U : State} (hW : s.WarmedH U.vm) (h : ct_nw s) : ct_nw U :=
  ⟨fun w hw => ct_isN_warm (List.mem_filter.mp hw).2 hW (h.1 w hw), va_AO.moved hW.alike h.2.1, ct_AOA.moved hW.alike h.2.2⟩
theorem ct_nw.same {s U : State} (hvm : s.vm = U.vm) (h : ct_nw s) : ct_nw U := by
  refine ⟨fun w hw => ?_, va_AO.moved (by rw [hvm]; exact Vm.Alike.refl _) h.2.1, ct_AOA.moved (by rw [hvm]; exact Vm.Alike.refl _) h.2.2⟩
  have h2 := (List.mem_filter.mp hw).2
  refine va_Nw.same ?_ hvm (h.1 w hw)
  cases w <;> first | (simp [ct_isN] at h2; done) | rfl
theorem ct_good : GoodIn ct_tbl ct_tbl := fun w h => ⟨h, good_of_word (List.mem_filter.mp h).2⟩
end
section
/-! CALLS of methods that make no cells -/
theorem ct_sub {w wc : List ct_C} {ps : List Nat} (hsub : ps.map (fun i => w[i]?) = (wc.map (ct_rc (ct_pl ps))).map some) : ∀ (i : Nat) (c : ct_C), wc[i]? = some c → ps[i]? = some (ct_pl ps i) ∧ w[ct_pl ps i]? = some (ct_rc (ct_pl ps) c) := by
  intro i c hi
  have hl : ps.length = wc.length := by have := congrArg List.length hsub; simpa using this
  have hlt : i < ps.length := by rw [hl]; exact (List.getElem?_eq_some_iff.mp hi).1
  have h1 : ps[i]? = some (ct_pl ps i) := by
    unfold ct_pl
    rw [List.getD_eq_getElem?_getD, List.getElem?_eq_getElem hlt]
    rfl
  have h2 := congrArg (fun l => l[i]?) hsub
  simp only [List.getElem?_map, h1, hi, Option.map_some] at h2
  exact ⟨h1, Option.some.inj h2⟩
section CVC
variable {p : Program} {l : Launch} {e : Env} {R : Room} {s : State} {m : MethodId} {args : Array Value} {below : List Frame} {meth : Method} {c : Code} {H : Heap} {locs : List Loc} {cells slots : Nat} {QQ : State → Prop}
variable {D : va_G} {kA : Nat → ClassId} {as : Nat → Nat} {A : Nat → Prop} {w wc : List ct_C} {ps : List Nat} {Q' : Option ct_V → List ct_C → Prop}
theorem ct_subP (hsub : ps.map (fun i => w[i]?) = (wc.map (ct_rc (ct_pl ps))).map some) (hP : va_P D vwCl (ct_wd kA as w) H) : va_P D vwCl (ct_wd kA (fun i => as (ct_pl ps i)) wc) H := by
  intro k q hk
  obtain ⟨c, h1, rfl⟩ := ct_wd_inv hk
  obtain ⟨-, h2⟩ := ct_sub hsub k c h1
  have := hP _ _ (ct_wd_at h2)
  rw [ct_rc_eq]
  exact this
theorem ct_subD (hsub : ps.map (fun i => w[i]?) = (wc.map (ct_rc (ct_pl ps))).map some) (hnd : va_nd ps = true) (hD : va_D A (ct_wd kA as w)) : va_D A (ct_wd kA (fun i => as (ct_pl ps i)) wc) := by
  refine ⟨fun i j x y hi hj hxy => ?_, fun k q hk => ?_⟩
  · obtain ⟨c1, h1, rfl⟩ := ct_wd_inv hi
    obtain ⟨c2, h2, rfl⟩ := ct_wd_inv hj
    obtain ⟨a1, a2⟩ := ct_sub hsub i c1 h1
    obtain ⟨b1, b2⟩ := ct_sub hsub j c2 h2
    have h3 := hD.1 _ _ _ _ (ct_wd_at a2) (ct_wd_at b2) hxy
    rw [← h3] at b1
    exact va_nd_inj ps hnd i j _ a1 b1
  · obtain ⟨c1, h1, rfl⟩ := ct_wd_inv hk
    have h9 := hD.2 _ _ (ct_wd_at (ct_sub hsub k c1 h1).2)
    exact h9
theorem ct_subA (hsub : ps.map (fun i => w[i]?) = (wc.map (ct_rc (ct_pl ps))).map some) (hD : va_D A (ct_wd kA as w)) (hS : va_S A s.heap H locs) (hA : ∀ q, s.heap.size ≤ q → A q) : ∀ q, va_A (ct_wd kA (fun i => as (ct_pl ps i)) wc) H.size q → A q := by
  intro q h
  rcases h with ⟨k, x, h⟩ | h
  · obtain ⟨c1, h1, h2⟩ := ct_wd_inv h
    have := hD.2 _ _ (ct_wd_at (ct_sub hsub k c1 h1).2)
    rw [(Prod.mk.inj h2).1]
    exact this
  · exact hA q (Nat.le_trans hS.1 h)
/-- what a callee finds -/
theorem ct_pre (hsub : ps.map (fun i => w[i]?) = (wc.map (ct_rc (ct_pl ps))).map some) (hnd : va_nd ps = true) (hP : va_P D vwCl (ct_wd kA as w) H) (hD : va_D A (ct_wd kA as w)) (hS : va_S A s.heap H locs) (hA : ∀ q, s.heap.size ≤ q → A q) (hK : va_K D vwCl (ct_tys kA) s) (hN : ct_nw s) (hT : ct_st A s) :
    ∀ U : State, U.heap = H → s.WarmedH U.vm → ct_B D kA (fun i => as (ct_pl ps i)) wc H.size U := by
  intro U hU hW
  refine ⟨by rw [hU], by rw [hU]; exact ct_subP hsub hP, va_K.moved hW.alike hK, hN.warm hW, ?_, (ct_subD hsub hnd hD).weaken (fun _ _ _ _ => trivial)⟩
  obtain ⟨t, h1, h2⟩ := hT
  have hk : ∀ a : Nat, a < s.heap.size → ¬ A a → U.heap[a]? = s.heap[a]? := fun a g1 g2 => by rw [hU]; exact hS.2.1 a g1 g2
  exact ⟨t, ((h1.kept hk).moved hW.alike).narrow (ct_subA hsub hD hS hA), ((h2.kept hk).moved hW.alike).narrow (ct_subA hsub hD hS hA)⟩
theorem ct_blind {av : List Value} {sz : Nat} : FrameBlind (va_Pc av (ct_B D kA as w sz)) := by
  intro a U g mk h
  obtain ⟨h0, h1, h2, h3, h4, h5, h6⟩ := h
  refine ⟨h0, h1, h2, va_K.moved (u := U) (U := U.calling g mk a) (Vm.Alike.refl U.vm) h3, ct_nw.same (s := U) (U := U.calling g mk a) rfl h4, ?_, h6⟩
  obtain ⟨t, g1, g2⟩ := h5
  exact ⟨t, va_Z.moved (u := U) (U := U.calling g mk a) (Vm.Alike.refl U.vm) g1, va_T.moved (u := U) (U := U.calling g mk a) (Vm.Alike.refl U.vm) g2⟩
theorem ct_callW {pc : Nat} {la : Array Slot} {st0 rest : List Value} {a : Array Value} (hr : va_Run p l e R s m args below meth c H locs cells slots 0 0 (F0 m pc la st0) rest (ct_Qc D kA (fun i => as (ct_pl ps i)) 0 wc.length (va_A (ct_wd kA (fun i => as (ct_pl ps i)) wc) H.size) Q' a) (va_A (ct_wd kA (fun i => as (ct_pl ps i)) wc) H.size))
    (hP : va_P D vwCl (ct_wd kA as w) H) (hD : va_D A (ct_wd kA as w)) (hS : va_S A s.heap H locs) (hA : ∀ q, s.heap.size ≤ q → A q) (hsub : ps.map (fun i => w[i]?) = (wc.map (ct_rc (ct_pl ps))).map some) (hnd : va_nd ps = true) (hlen : ∀ v w1, Q' v w1 → w1.length = wc.length)
    (kk : ∀ (v : Option ct_V) (w1 : List ct_C) (H1 : Heap) (locs1 : List Loc), Q' v w1 → va_P D vwCl (ct_wd kA as (ct_bk ps (w1.map (ct_rc (ct_pl ps))) w)) H1 → va_D A (ct_wd kA as (ct_bk ps (w1.map (ct_rc (ct_pl ps))) w)) → va_S A s.heap H1 locs1 →
      W p l e R s m args below meth c H1 locs1 cells slots QQ (F0 m (pc + 3) la ((v.map (fun v => ct_tv as (ct_rv (ct_pl ps) v))).toList ++ rest))) : W p l e R s m args below meth c H locs cells slots QQ (F0 m pc la st0) := by
  intro T hT X
  obtain ⟨v, st₀, t, T', L, h0, X', hL, e1, e2, ⟨⟨rv, w1, as', hv, hq, hag, hP1, hD1⟩, hz, hk⟩, st⟩ := hr T hT X
  have has : as' = fun i => as (ct_pl ps i) := funext fun i => hag i (Or.inl rfl)
  subst has
  cases hv
  rw [h0] at hz hk
  have hwl := hlen _ _ hq
  have hfree := ct_subA hsub hD hS hA
  have hbl : (ct_bk ps (w1.map (ct_rc (ct_pl ps))) w).length = w.length := ct_bk_len _ _ _
  have hP2 : va_P D vwCl (ct_wd kA as (ct_bk ps (w1.map (ct_rc (ct_pl ps))) w)) T'.heap := by
    intro k q hkq
    obtain ⟨c1, h1, rfl⟩ := ct_wd_inv hkq
    by_cases hin : k ∈ ps
    · obtain ⟨i, hi⟩ := List.getElem?_of_mem hin
      have hpl : ps.length = wc.length := by have := congrArg List.length hsub; simpa using this
      have hi1 : i < w1.length := by rw [hwl, ← hpl]; exact (List.getElem?_eq_some_iff.mp hi).1
      have hi2 : i < wc.length := by rw [← hwl]; exact hi1
      obtain ⟨a1, a2⟩ := ct_sub hsub i _ (List.getElem?_eq_getElem hi2)
      have hkk : k = ct_pl ps i := Option.some.inj (hi.symm.trans a1)
      have hkl : k < w.length := by rw [hkk]; exact (List.getElem?_eq_some_iff.mp a2).1
      have h3 := ct_bk_in ps (w1.map (ct_rc (ct_pl ps))) w i k (ct_rc (ct_pl ps) w1[i]) hnd hi (by rw [List.getElem?_map, List.getElem?_eq_getElem hi1]; rfl) hkl
      rw [h1] at h3
      cases h3
      have h4 := hP1 i _ (ct_wd_at (List.getElem?_eq_getElem hi1))
      rw [ct_rc_eq] at h4
      rw [e1, hkk]
      exact h4
    · rw [ct_bk_out _ _ _ _ hin] at h1
      have h4 := hP k _ (ct_wd_at h1)
      have hl := h4.lt
      refine h4.kept ?_
      rw [e1]
      refine hk _ hl (fun hA1 => ?_)
      rcases hA1 with ⟨j, x, hj⟩ | hj
      · obtain ⟨c2, h5, h6⟩ := ct_wd_inv hj
        obtain ⟨a1, a2⟩ := ct_sub hsub j c2 h5
        have h7 := hD.1 _ _ _ _ (ct_wd_at h1) (ct_wd_at a2) (Prod.mk.inj h6).1
        exact hin (by rw [h7]; exact List.mem_of_getElem? a1)
      · exact absurd hl (Nat.not_lt.mpr hj)
  obtain ⟨t2, a1, b1⟩ := kk rv w1 T'.heap (locs ++ L) hq hP2 (ct_wD hbl hD) ⟨Nat.le_trans hS.1 (by rw [e1]; exact hz), fun q h1 h2 => by rw [e1, hk q (Nat.lt_of_lt_of_le h1 hS.1) (fun z => h2 (hfree q z))]; exact hS.2.1 q h1 h2, fun q hq => by
      rcases List.mem_append.mp hq with h | h
      · exact hS.2.2 q h
      · exact hfree _ (hL q h)⟩ T' rfl X'
  refine ⟨t2, st t2 ?_, b1⟩
  have eE : (Option.map (ct_tv fun i => as (ct_pl ps i)) rv).toList = (rv.map (fun v => ct_tv as (ct_rv (ct_pl ps) v))).toList := by
    cases rv with
    | none => rfl
    | some x => simp only [Option.map_some, Option.toList_some, ct_rv_eq]
  rw [eE]
  exact a1
end CVC
def ct_sz : List ct_V → Nat
  | [] => 0
  | (.inr (.inl _)) :: t => ct_sz t + 2
  | _ :: t => ct_sz t + 1
theorem ct_sz_eq (as : Nat → Nat) : ∀ st : List ct_V, ((st.map (ct_tv as)).map fun v => v.category).sum = ct_sz st
  | [] => rfl
  | .inl x :: t => by simp only [List.map_cons, List.sum_cons, ct_sz_eq as t, ct_cat, ct_sz]; omega
  | .inr (.inl x) :: t => by simp only [List.map_cons, List.sum_cons, ct_sz_eq as t, ct_cat, ct_sz]; omega
  | .inr (.inr x) :: t => by simp only [List.map_cons, List.sum_cons, ct_sz_eq as t, ct_cat, ct_sz]; omega
/-- a callee's words: k = 0 an object's method, 1 a static one, 2 a constructor -/
def ct_lk (k : Nat) (M' : ct_M) (n : Nat) : Prop := Cond.initialized M'.1.cls ∈ ct_tbl ∧ Cond.code M'.1 M'.2.1 M'.2.2.1 M'.2.2.2 ∈ ct_tbl ∧ (M'.1.cls ≠ "java/lang/invoke/MethodHandle" ∧ M'.1.cls ≠ "java/lang/invoke/VarHandle") ∧ (parseMethodDescriptor M'.1.desc).map (fun d => d.parameters.length) = some n ∧ M'.2.2.1 ≤ 20 ∧
  (k = 1 → Cond.static M'.1 ∈ ct_tbl) ∧ (k ≠ 1 → Cond.instanceMethod M'.1 ∈ ct_tbl) ∧ (k = 0 → Cond.selects M'.1.cls M'.1 M'.1 ∈ ct_tbl)
theorem ct_lk.good {k : Nat} {M' : ct_M} {n : Nat} (h : ct_lk k M' n) : GoodIn ct_tbl (ct_ws M') := by
  intro w hw
  rcases List.mem_cons.mp hw with rfl | hw
  · exact ct_good _ h.2.1
  · exact ct_good _ hw
theorem ct_roomR {r r' : Nat × Nat × Nat} {n : Nat} (h : r'.1 + 1 ≤ r.1) (hn : n ≤ 20) : (ct_rm r').frames + 1 ≤ (ct_rm r).frames ∧ 8 + (n + 11) + (ct_rm r').locals ≤ (ct_rm r).locals := by
  refine ⟨h, ?_⟩
  show 8 + (n + 11) + 39 * r'.1 ≤ 39 * r.1
  omega
section CVD
variable {M M' : ct_M} {r : Nat × Nat × Nat} {d n0 : Nat} {z : Nat × Nat} {pc : Nat} {ls : List (Nat × ct_V)} {st stk avs : List ct_V} {w wc : List ct_C} {Q Q' : Option ct_V → List ct_C → Prop} {idx n b : Nat}
theorem ct_stk {as : Nat → Nat} {ps : List Nat} : ((avs.map (ct_rv (ct_pl ps))).reverse ++ vR (ct_pl ps b) :: st).map (ct_tv as) = (avs.map (ct_tv (fun i => as (ct_pl ps i)))).reverse ++ .ref (as (ct_pl ps b)) :: st.map (ct_tv as) := by
  rw [List.map_append, List.map_reverse, List.map_map]
  congr 2
  apply List.map_congr_left
  intro v _
  exact (ct_rv_eq as _ v).symm
theorem ct_stkS {as : Nat → Nat} {ps : List Nat} : ((avs.map (ct_rv (ct_pl ps))).reverse ++ st).map (ct_tv as) = (avs.map (ct_tv (fun i => as (ct_pl ps i)))).reverse ++ st.map (ct_tv as) := by
  rw [List.map_append, List.map_reverse, List.map_map]
  congr 2
  apply List.map_congr_left
  intro v _
  exact (ct_rv_eq as _ v).symm
theorem ct_ret {as : Nat → Nat} {ps : List Nat} {v : Option ct_V} : (v.map (fun v => ct_tv as (ct_rv (ct_pl ps) v))).toList ++ st.map (ct_tv as) = ((v.map (ct_rv (ct_pl ps))).toList ++ st).map (ct_tv as) := by
  cases v <;> rfl
theorem cv_callV (ps : List Nat) (hM : CM M' (d, 0, 0) (vR b :: avs) wc Q') (hk : ct_lk 0 M' n) (hlk : Cond.methodLink M.1.cls idx M'.1 ∈ ct_tbl) (hd : decode M.2.1 pc = .ok (.invokevirtual idx, 3)) (hr : d + 1 ≤ r.1) (hn : avs.length = n) (hsub : ps.map (fun i => w[i]?) = (wc.map (ct_rc (ct_pl ps))).map some) (hnd : va_nd ps = true) {ci : Nat} {fs : List ct_V} (hb : wc[b]? = some (cO ci fs)) (hci : (vwCl[ci]?).map (fun q => q.1) = some M'.1.cls)
    (hst : stk = (avs.map (ct_rv (ct_pl ps))).reverse ++ vR (ct_pl ps b) :: st) (hsz : ct_sz st ≤ 8) (hz : z.1 ≤ r.2.1 ∧ z.2 ≤ r.2.2) (hlen : ∀ v w1, Q' v w1 → w1.length = wc.length)
    (kk : ∀ (v : Option ct_V) (w1 : List ct_C), Q' v w1 → CV M r n0 z (pc + 3) ls ((v.map (ct_rv (ct_pl ps))).toList ++ st) (ct_bk ps (w1.map (ct_rc (ct_pl ps))) w) Q) : CV M r n0 z pc ls stk w Q := by
  intro p l e s m args below meth c D kA as0 as A H locs la hc ha hP hD hS hl
  subst hst
  rw [ct_stk]
  have hts := hc.2.2.2.2.2.1
  have hA := hc.2.2.2.2.2.2.2.2.1
  have hK := hc.2.2.2.2.2.2.2.1
  have hpre := ct_pre hsub hnd hP hD hS hA hK hc.2.2.2.2.2.2.1 hc.2.2.2.2.2.2.2.2.2.2.1
  obtain ⟨q, hq1, hq2⟩ : ∃ q, vwCl[ci]? = some q ∧ q.1 = M'.1.cls := by
    cases h : vwCl[ci]? with
    | none => rw [h] at hci; cases hci
    | some q => rw [h] at hci; exact ⟨q, rfl, Option.some.inj hci⟩
  have hrecv := va_recv hK (ct_subP hsub hP) hq1 (ct_wd_at hb)
  rw [hq2] at hrecv
  refine ct_callW (ps := ps) (wc := wc) (Q' := Q') (va_runV (As := avs.map (ct_tv (fun i => as (ct_pl ps i)))) (rest := st.map (ct_tv as)) ⟨hc.1, hc.2.1, hc.2.2.2.1, hc.2.2.2.2.1, hts⟩ (hM l D kA (fun i => as (ct_pl ps i)) H.size) (cwV n hts ?_ rfl rfl rfl ⟨rfl, hk.2.2.1.1, hk.2.2.1.2, hk.2.2.2.1⟩ (ct_roomR hr hk.2.2.2.2.1)) ⟨ct_blind, hrecv, fun U hU hW => ⟨rfl, hpre U hU hW⟩⟩ rfl (by rw [List.length_map]; exact hn) hl.1 rfl (lv_room (by rw [ct_sz_eq]; exact hsz)) hd ⟨hz.1, hz.2⟩) hP hD hS hA hsub hnd hlen (fun v w1 H1 locs1 hq hP1 hD1 hS1 => ?_)
  · intro x hx
    rcases List.mem_append.mp hx with hx | hx
    · simp only [List.mem_cons, List.not_mem_nil, or_false] at hx
      rcases hx with rfl | rfl | rfl | rfl
      · exact ct_good _ hlk
      · exact ct_good _ (hk.2.2.2.2.2.2.1 (by decide))
      · exact ct_good _ (hk.2.2.2.2.2.2.2 rfl)
      · exact ct_good _ hk.1
    · exact hk.good x hx
  · rw [ct_ret]
    exact kk v w1 hq p l e s m args below meth c D kA as0 as A H1 locs1 la hc ha hP1 hD1 hS1 hl
theorem cv_callS (ps : List Nat) (hM : CM M' (d, 0, 0) avs wc Q') (hk : ct_lk 1 M' n) (hlk : Cond.methodLink M.1.cls idx M'.1 ∈ ct_tbl) (hd : decode M.2.1 pc = .ok (.invokestatic idx, 3)) (hr : d + 1 ≤ r.1) (hn : avs.length = n) (hsub : ps.map (fun i => w[i]?) = (wc.map (ct_rc (ct_pl ps))).map some) (hnd : va_nd ps = true)
    (hst : stk = (avs.map (ct_rv (ct_pl ps))).reverse ++ st) (hsz : ct_sz st ≤ 8) (hz : z.1 ≤ r.2.1 ∧ z.2 ≤ r.2.2) (hlen : ∀ v w1, Q' v w1 → w1.length = wc.length)
    (kk : ∀ (v : Option ct_V) (w1 : List ct_C), Q' v w1 → CV M r n0 z (pc + 3) ls ((v.map (ct_rv (ct_pl ps))).toList ++ st) (ct_bk ps (w1.map (ct_rc (ct_pl ps))) w) Q) : CV M r n0 z pc ls stk w Q := by
  intro p l e s m args below meth c D kA as0 as A H locs la hc ha hP hD hS hl
  subst hst
  rw [ct_stkS]
  have hts := hc.2.2.2.2.2.1
  have hA := hc.2.2.2.2.2.2.2.2.1
  have hK := hc.2.2.2.2.2.2.2.1
  have hpre := ct_pre hsub hnd hP hD hS hA hK hc.2.2.2.2.2.2.1 hc.2.2.2.2.2.2.2.2.2.2.1
  refine ct_callW (ps := ps) (wc := wc) (Q' := Q') (va_runS (As := avs.map (ct_tv (fun i => as (ct_pl ps i)))) (rest := st.map (ct_tv as)) ⟨hc.1, hc.2.1, hc.2.2.2.1, hc.2.2.2.2.1, hts⟩ (hM l D kA (fun i => as (ct_pl ps i)) H.size) ⟨callB_of (Ts := ct_tbl) n hts hk.good rfl rfl rfl (hts _ hk.1) (hts _ hlk) ⟨hk.2.2.1.1, hk.2.2.1.2, hk.2.2.2.1⟩ (ct_roomR hr hk.2.2.2.2.1), hts _ (hk.2.2.2.2.2.1 rfl)⟩ ⟨ct_blind, fun U hU hW => ⟨rfl, hpre U hU hW⟩⟩ rfl (by rw [List.length_map]; exact hn) hl.1 rfl (lv_room (by rw [ct_sz_eq]; exact hsz)) hd ⟨hz.1, hz.2⟩) hP hD hS hA hsub hnd hlen (fun v w1 H1 locs1 hq hP1 hD1 hS1 => ?_)
  rw [ct_ret]
  exact kk v w1 hq p l e s m args below meth c D kA as0 as A H1 locs1 la hc ha hP1 hD1 hS1 hl
theorem cv_callSN (ps : List Nat) {host : String} (hM : CM M' (d, 0, 0) avs wc Q') (hk : ct_lk 1 M' n) (hlk : Cond.methodLinkNest M.1.cls idx M'.1 host ∈ ct_nst) (hd : decode M.2.1 pc = .ok (.invokestatic idx, 3)) (hr : d + 1 ≤ r.1) (hn : avs.length = n) (hsub : ps.map (fun i => w[i]?) = (wc.map (ct_rc (ct_pl ps))).map some) (hnd : va_nd ps = true)
    (hst : stk = (avs.map (ct_rv (ct_pl ps))).reverse ++ st) (hsz : ct_sz st ≤ 8) (hz : z.1 ≤ r.2.1 ∧ z.2 ≤ r.2.2) (hlen : ∀ v w1, Q' v w1 → w1.length = wc.length)
    (kk : ∀ (v : Option ct_V) (w1 : List ct_C), Q' v w1 → CV M r n0 z (pc + 3) ls ((v.map (ct_rv (ct_pl ps))).toList ++ st) (ct_bk ps (w1.map (ct_rc (ct_pl ps))) w) Q) : CV M r n0 z pc ls stk w Q := by
  intro p l e s m args below meth c D kA as0 as A H locs la hc ha hP hD hS hl
  subst hst
  rw [ct_stkS]
  have hts := hc.2.2.2.2.2.1
  have hA := hc.2.2.2.2.2.2.2.2.1
  have hK := hc.2.2.2.2.2.2.2.1
  have hpre := ct_pre hsub hnd hP hD hS hA hK hc.2.2.2.2.2.2.1 hc.2.2.2.2.2.2.2.2.2.2.1
  refine ct_callW (ps := ps) (wc := wc) (Q' := Q') (va_runSN (As := avs.map (ct_tv (fun i => as (ct_pl ps i)))) (rest := st.map (ct_tv as)) ⟨hc.1, hc.2.1, hc.2.2.2.1, hc.2.2.2.2.1, hts⟩ (hM l D kA (fun i => as (ct_pl ps i)) H.size) ⟨va_cnB (Ts := ct_tbl) n hts hk.good rfl rfl rfl (hc.2.2.2.2.2.2.1.1 _ hlk) (hts _ hk.1) ⟨hk.2.2.1.1, hk.2.2.1.2, hk.2.2.2.1⟩ (ct_roomR hr hk.2.2.2.2.1), hts _ (hk.2.2.2.2.2.1 rfl), trivial⟩ ⟨ct_blind, fun U hU hW => ⟨rfl, hpre U hU hW⟩⟩ rfl (by rw [List.length_map]; exact hn) hl.1 rfl (lv_room (by rw [ct_sz_eq]; exact hsz)) hd ⟨hz.1, hz.2⟩) hP hD hS hA hsub hnd hlen (fun v w1 H1 locs1 hq hP1 hD1 hS1 => ?_)
  rw [ct_ret]
  exact kk v w1 hq p l e s m args below meth c D kA as0 as A H1 locs1 la hc ha hP1 hD1 hS1 hl
end CVD
end
