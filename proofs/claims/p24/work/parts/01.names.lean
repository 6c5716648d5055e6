-- ===== PART A: goes FIRST, ahead of the names: the tables' words, and 'selects' of the private methods out of them =====
/-- a private method of a class that the tables say can be made, by its rows of tables_1 -/
def lw_okq (q : MethodName × Nat) : Prop := (q.1.cls ≠ "java/lang/invoke/MethodHandle" ∧ q.1.cls ≠ "java/lang/invoke/VarHandle") ∧ Cond.instantiable q.1.cls q.2 ∈ tables_1 ∧ Cond.privateMethod q.1 ∈ tables_1 ∧ Cond.instanceMethod q.1 ∈ tables_1
theorem lw_p0 : lw_okq (⟨"StartBench", "addType", "(ZZI)I"⟩, 4) := ⟨⟨by decide +kernel, by decide +kernel⟩, List.mem_of_getElem? (i := 13) (by decide +kernel), List.mem_of_getElem? (i := 128) (by decide +kernel), List.mem_of_getElem? (i := 129) (by decide +kernel)⟩
theorem lw_p1 : lw_okq (⟨"StartBench", "refusalOfMember", "(II)I"⟩, 4) := ⟨⟨by decide +kernel, by decide +kernel⟩, List.mem_of_getElem? (i := 13) (by decide +kernel), List.mem_of_getElem? (i := 257) (by decide +kernel), List.mem_of_getElem? (i := 258) (by decide +kernel)⟩
theorem lw_p2 : lw_okq (⟨"StartBench$Description", "seekField", "(III)I"⟩, 7) := ⟨⟨by decide +kernel, by decide +kernel⟩, List.mem_of_getElem? (i := 21) (by decide +kernel), List.mem_of_getElem? (i := 353) (by decide +kernel), List.mem_of_getElem? (i := 354) (by decide +kernel)⟩
theorem lw_p3 : lw_okq (⟨"StartBench$Description", "addAsked", "(I)V"⟩, 7) := ⟨⟨by decide +kernel, by decide +kernel⟩, List.mem_of_getElem? (i := 21) (by decide +kernel), List.mem_of_getElem? (i := 365) (by decide +kernel), List.mem_of_getElem? (i := 366) (by decide +kernel)⟩
theorem lw_p4 : lw_okq (⟨"StartBench$Description", "addFirst", "(LStartBench$Type;IJI)J"⟩, 7) := ⟨⟨by decide +kernel, by decide +kernel⟩, List.mem_of_getElem? (i := 21) (by decide +kernel), List.mem_of_getElem? (i := 373) (by decide +kernel), List.mem_of_getElem? (i := 374) (by decide +kernel)⟩
theorem lw_p5 : lw_okq (⟨"StartBench$Description", "startedByField", "(LStartBench$Action;)I"⟩, 7) := ⟨⟨by decide +kernel, by decide +kernel⟩, List.mem_of_getElem? (i := 21) (by decide +kernel), List.mem_of_getElem? (i := 381) (by decide +kernel), List.mem_of_getElem? (i := 382) (by decide +kernel)⟩
theorem lw_p6 : lw_okq (⟨"StartBench", "refusalOfTouch", "(IIII)I"⟩, 4) := ⟨⟨by decide +kernel, by decide +kernel⟩, List.mem_of_getElem? (i := 13) (by decide +kernel), List.mem_of_getElem? (i := 414) (by decide +kernel), List.mem_of_getElem? (i := 415) (by decide +kernel)⟩
theorem lw_p7 : lw_okq (⟨"StartBench", "isWorld", "(I)Z"⟩, 4) := ⟨⟨by decide +kernel, by decide +kernel⟩, List.mem_of_getElem? (i := 13) (by decide +kernel), List.mem_of_getElem? (i := 418) (by decide +kernel), List.mem_of_getElem? (i := 419) (by decide +kernel)⟩
theorem lw_p8 : lw_okq (⟨"StartBench$Doing", "perform", "(LStartBench$Action;II)I"⟩, 7) := ⟨⟨by decide +kernel, by decide +kernel⟩, List.mem_of_getElem? (i := 429) (by decide +kernel), List.mem_of_getElem? (i := 466) (by decide +kernel), List.mem_of_getElem? (i := 467) (by decide +kernel)⟩
theorem lw_p9 : lw_okq (⟨"StartBench$Doing", "arise", "(II)I"⟩, 7) := ⟨⟨by decide +kernel, by decide +kernel⟩, List.mem_of_getElem? (i := 429) (by decide +kernel), List.mem_of_getElem? (i := 470) (by decide +kernel), List.mem_of_getElem? (i := 471) (by decide +kernel)⟩
theorem lw_p10 : lw_okq (⟨"StartBench$Doing", "startType", "(III)I"⟩, 7) := ⟨⟨by decide +kernel, by decide +kernel⟩, List.mem_of_getElem? (i := 429) (by decide +kernel), List.mem_of_getElem? (i := 475) (by decide +kernel), List.mem_of_getElem? (i := 476) (by decide +kernel)⟩
theorem lw_p11 : lw_okq (⟨"StartBench$Doing", "startFirsts", "(LStartBench$Type;II)I"⟩, 7) := ⟨⟨by decide +kernel, by decide +kernel⟩, List.mem_of_getElem? (i := 429) (by decide +kernel), List.mem_of_getElem? (i := 479) (by decide +kernel), List.mem_of_getElem? (i := 480) (by decide +kernel)⟩
theorem lw_p12 : lw_okq (⟨"StartBench$Doing", "runStart", "(III)I"⟩, 7) := ⟨⟨by decide +kernel, by decide +kernel⟩, List.mem_of_getElem? (i := 429) (by decide +kernel), List.mem_of_getElem? (i := 484) (by decide +kernel), List.mem_of_getElem? (i := 485) (by decide +kernel)⟩
theorem lw_p13 : lw_okq (⟨"StartBench$Doing", "runBody", "(LStartBench$Body;II)I"⟩, 7) := ⟨⟨by decide +kernel, by decide +kernel⟩, List.mem_of_getElem? (i := 429) (by decide +kernel), List.mem_of_getElem? (i := 492) (by decide +kernel), List.mem_of_getElem? (i := 493) (by decide +kernel)⟩
theorem lw_p14 : lw_okq (⟨"StartBench$Doing", "takeFailure", "(LStartBench$Body;III)I"⟩, 7) := ⟨⟨by decide +kernel, by decide +kernel⟩, List.mem_of_getElem? (i := 429) (by decide +kernel), List.mem_of_getElem? (i := 499) (by decide +kernel), List.mem_of_getElem? (i := 500) (by decide +kernel)⟩
theorem lw_p15 : lw_okq (⟨"StartBench$Doing", "putThrough", "(LStartBench$Action;)V"⟩, 7) := ⟨⟨by decide +kernel, by decide +kernel⟩, List.mem_of_getElem? (i := 429) (by decide +kernel), List.mem_of_getElem? (i := 508) (by decide +kernel), List.mem_of_getElem? (i := 509) (by decide +kernel)⟩
def lw_privs_1 : List (MethodName × Nat) := [(⟨"StartBench", "addType", "(ZZI)I"⟩, 4), (⟨"StartBench", "refusalOfMember", "(II)I"⟩, 4), (⟨"StartBench$Description", "seekField", "(III)I"⟩, 7), (⟨"StartBench$Description", "addAsked", "(I)V"⟩, 7), (⟨"StartBench$Description", "addFirst", "(LStartBench$Type;IJI)J"⟩, 7), (⟨"StartBench$Description", "startedByField", "(LStartBench$Action;)I"⟩, 7), (⟨"StartBench", "refusalOfTouch", "(IIII)I"⟩, 4), (⟨"StartBench", "isWorld", "(I)Z"⟩, 4), (⟨"StartBench$Doing", "perform", "(LStartBench$Action;II)I"⟩, 7), (⟨"StartBench$Doing", "arise", "(II)I"⟩, 7), (⟨"StartBench$Doing", "startType", "(III)I"⟩, 7), (⟨"StartBench$Doing", "startFirsts", "(LStartBench$Type;II)I"⟩, 7), (⟨"StartBench$Doing", "runStart", "(III)I"⟩, 7), (⟨"StartBench$Doing", "runBody", "(LStartBench$Body;II)I"⟩, 7), (⟨"StartBench$Doing", "takeFailure", "(LStartBench$Body;III)I"⟩, 7), (⟨"StartBench$Doing", "putThrough", "(LStartBench$Action;)V"⟩, 7)]
theorem lw_r1 : ∀ q ∈ lw_privs_1, lw_okq q := List.forall_mem_cons.mpr ⟨lw_p0, List.forall_mem_cons.mpr ⟨lw_p1, List.forall_mem_cons.mpr ⟨lw_p2, List.forall_mem_cons.mpr ⟨lw_p3, List.forall_mem_cons.mpr ⟨lw_p4, List.forall_mem_cons.mpr ⟨lw_p5, List.forall_mem_cons.mpr ⟨lw_p6, List.forall_mem_cons.mpr ⟨lw_p7, List.forall_mem_cons.mpr ⟨lw_p8, List.forall_mem_cons.mpr ⟨lw_p9, List.forall_mem_cons.mpr ⟨lw_p10, List.forall_mem_cons.mpr ⟨lw_p11, List.forall_mem_cons.mpr ⟨lw_p12, List.forall_mem_cons.mpr ⟨lw_p13, List.forall_mem_cons.mpr ⟨lw_p14, List.forall_mem_cons.mpr ⟨lw_p15, fun _ h => absurd h List.not_mem_nil⟩⟩⟩⟩⟩⟩⟩⟩⟩⟩⟩⟩⟩⟩⟩⟩
theorem lw_p16 : lw_okq (⟨"StartBenchModel", "isType", "(I)Z"⟩, 58) := ⟨⟨by decide +kernel, by decide +kernel⟩, List.mem_of_getElem? (i := 565) (by decide +kernel), List.mem_of_getElem? (i := 751) (by decide +kernel), List.mem_of_getElem? (i := 752) (by decide +kernel)⟩
theorem lw_p17 : lw_okq (⟨"StartBenchModel", "make", "(ZZI)I"⟩, 58) := ⟨⟨by decide +kernel, by decide +kernel⟩, List.mem_of_getElem? (i := 565) (by decide +kernel), List.mem_of_getElem? (i := 758) (by decide +kernel), List.mem_of_getElem? (i := 759) (by decide +kernel)⟩
theorem lw_p18 : lw_okq (⟨"StartBenchModel", "leads", "(II)Z"⟩, 58) := ⟨⟨by decide +kernel, by decide +kernel⟩, List.mem_of_getElem? (i := 565) (by decide +kernel), List.mem_of_getElem? (i := 770) (by decide +kernel), List.mem_of_getElem? (i := 771) (by decide +kernel)⟩
theorem lw_p19 : lw_okq (⟨"StartBenchModel", "ownField", "(II)I"⟩, 58) := ⟨⟨by decide +kernel, by decide +kernel⟩, List.mem_of_getElem? (i := 565) (by decide +kernel), List.mem_of_getElem? (i := 778) (by decide +kernel), List.mem_of_getElem? (i := 779) (by decide +kernel)⟩
theorem lw_p20 : lw_okq (⟨"StartBenchModel", "ownMethod", "(II)I"⟩, 58) := ⟨⟨by decide +kernel, by decide +kernel⟩, List.mem_of_getElem? (i := 565) (by decide +kernel), List.mem_of_getElem? (i := 786) (by decide +kernel), List.mem_of_getElem? (i := 787) (by decide +kernel)⟩
theorem lw_p21 : lw_okq (⟨"StartBenchModel", "findMethod", "(II)I"⟩, 58) := ⟨⟨by decide +kernel, by decide +kernel⟩, List.mem_of_getElem? (i := 565) (by decide +kernel), List.mem_of_getElem? (i := 806) (by decide +kernel), List.mem_of_getElem? (i := 807) (by decide +kernel)⟩
theorem lw_p22 : lw_okq (⟨"StartBenchModel", "findField", "(II)I"⟩, 58) := ⟨⟨by decide +kernel, by decide +kernel⟩, List.mem_of_getElem? (i := 565) (by decide +kernel), List.mem_of_getElem? (i := 810) (by decide +kernel), List.mem_of_getElem? (i := 811) (by decide +kernel)⟩
theorem lw_p23 : lw_okq (⟨"StartBenchModel", "listAsked", "(I)V"⟩, 58) := ⟨⟨by decide +kernel, by decide +kernel⟩, List.mem_of_getElem? (i := 565) (by decide +kernel), List.mem_of_getElem? (i := 818) (by decide +kernel), List.mem_of_getElem? (i := 819) (by decide +kernel)⟩
theorem lw_p24 : lw_okq (⟨"StartBenchModel", "listFirst", "(I)V"⟩, 58) := ⟨⟨by decide +kernel, by decide +kernel⟩, List.mem_of_getElem? (i := 565) (by decide +kernel), List.mem_of_getElem? (i := 822) (by decide +kernel), List.mem_of_getElem? (i := 823) (by decide +kernel)⟩
theorem lw_p25 : lw_okq (⟨"StartBenchModel", "addAsked", "(II)V"⟩, 58) := ⟨⟨by decide +kernel, by decide +kernel⟩, List.mem_of_getElem? (i := 565) (by decide +kernel), List.mem_of_getElem? (i := 826) (by decide +kernel), List.mem_of_getElem? (i := 827) (by decide +kernel)⟩
theorem lw_p26 : lw_okq (⟨"StartBenchModel", "started", "(III)I"⟩, 58) := ⟨⟨by decide +kernel, by decide +kernel⟩, List.mem_of_getElem? (i := 565) (by decide +kernel), List.mem_of_getElem? (i := 830) (by decide +kernel), List.mem_of_getElem? (i := 831) (by decide +kernel)⟩
theorem lw_p27 : lw_okq (⟨"StartBenchModel", "isRuled", "(III)Z"⟩, 58) := ⟨⟨by decide +kernel, by decide +kernel⟩, List.mem_of_getElem? (i := 565) (by decide +kernel), List.mem_of_getElem? (i := 834) (by decide +kernel), List.mem_of_getElem? (i := 835) (by decide +kernel)⟩
theorem lw_p28 : lw_okq (⟨"StartBenchModel", "isRound", "(I)Z"⟩, 58) := ⟨⟨by decide +kernel, by decide +kernel⟩, List.mem_of_getElem? (i := 565) (by decide +kernel), List.mem_of_getElem? (i := 842) (by decide +kernel), List.mem_of_getElem? (i := 843) (by decide +kernel)⟩
theorem lw_p29 : lw_okq (⟨"StartBenchModel", "refusal", "(IIII)I"⟩, 58) := ⟨⟨by decide +kernel, by decide +kernel⟩, List.mem_of_getElem? (i := 565) (by decide +kernel), List.mem_of_getElem? (i := 858) (by decide +kernel), List.mem_of_getElem? (i := 859) (by decide +kernel)⟩
theorem lw_p30 : lw_okq (⟨"StartBenchModel", "isWorld", "(I)Z"⟩, 58) := ⟨⟨by decide +kernel, by decide +kernel⟩, List.mem_of_getElem? (i := 565) (by decide +kernel), List.mem_of_getElem? (i := 862) (by decide +kernel), List.mem_of_getElem? (i := 863) (by decide +kernel)⟩
theorem lw_p31 : lw_okq (⟨"StartBenchModel", "copy", "(II)V"⟩, 58) := ⟨⟨by decide +kernel, by decide +kernel⟩, List.mem_of_getElem? (i := 565) (by decide +kernel), List.mem_of_getElem? (i := 866) (by decide +kernel), List.mem_of_getElem? (i := 867) (by decide +kernel)⟩
def lw_privs_2 : List (MethodName × Nat) := [(⟨"StartBenchModel", "isType", "(I)Z"⟩, 58), (⟨"StartBenchModel", "make", "(ZZI)I"⟩, 58), (⟨"StartBenchModel", "leads", "(II)Z"⟩, 58), (⟨"StartBenchModel", "ownField", "(II)I"⟩, 58), (⟨"StartBenchModel", "ownMethod", "(II)I"⟩, 58), (⟨"StartBenchModel", "findMethod", "(II)I"⟩, 58), (⟨"StartBenchModel", "findField", "(II)I"⟩, 58), (⟨"StartBenchModel", "listAsked", "(I)V"⟩, 58), (⟨"StartBenchModel", "listFirst", "(I)V"⟩, 58), (⟨"StartBenchModel", "addAsked", "(II)V"⟩, 58), (⟨"StartBenchModel", "started", "(III)I"⟩, 58), (⟨"StartBenchModel", "isRuled", "(III)Z"⟩, 58), (⟨"StartBenchModel", "isRound", "(I)Z"⟩, 58), (⟨"StartBenchModel", "refusal", "(IIII)I"⟩, 58), (⟨"StartBenchModel", "isWorld", "(I)Z"⟩, 58), (⟨"StartBenchModel", "copy", "(II)V"⟩, 58)]
theorem lw_r2 : ∀ q ∈ lw_privs_2, lw_okq q := List.forall_mem_cons.mpr ⟨lw_p16, List.forall_mem_cons.mpr ⟨lw_p17, List.forall_mem_cons.mpr ⟨lw_p18, List.forall_mem_cons.mpr ⟨lw_p19, List.forall_mem_cons.mpr ⟨lw_p20, List.forall_mem_cons.mpr ⟨lw_p21, List.forall_mem_cons.mpr ⟨lw_p22, List.forall_mem_cons.mpr ⟨lw_p23, List.forall_mem_cons.mpr ⟨lw_p24, List.forall_mem_cons.mpr ⟨lw_p25, List.forall_mem_cons.mpr ⟨lw_p26, List.forall_mem_cons.mpr ⟨lw_p27, List.forall_mem_cons.mpr ⟨lw_p28, List.forall_mem_cons.mpr ⟨lw_p29, List.forall_mem_cons.mpr ⟨lw_p30, List.forall_mem_cons.mpr ⟨lw_p31, fun _ h => absurd h List.not_mem_nil⟩⟩⟩⟩⟩⟩⟩⟩⟩⟩⟩⟩⟩⟩⟩⟩
theorem lw_p32 : lw_okq (⟨"StartBenchModel", "go", "(IIIII)V"⟩, 58) := ⟨⟨by decide +kernel, by decide +kernel⟩, List.mem_of_getElem? (i := 565) (by decide +kernel), List.mem_of_getElem? (i := 870) (by decide +kernel), List.mem_of_getElem? (i := 871) (by decide +kernel)⟩
theorem lw_p33 : lw_okq (⟨"StartBenchModel", "goDown", "()V"⟩, 58) := ⟨⟨by decide +kernel, by decide +kernel⟩, List.mem_of_getElem? (i := 565) (by decide +kernel), List.mem_of_getElem? (i := 874) (by decide +kernel), List.mem_of_getElem? (i := 875) (by decide +kernel)⟩
theorem lw_p34 : lw_okq (⟨"StartBenchModel", "fail", "(II)V"⟩, 58) := ⟨⟨by decide +kernel, by decide +kernel⟩, List.mem_of_getElem? (i := 565) (by decide +kernel), List.mem_of_getElem? (i := 878) (by decide +kernel), List.mem_of_getElem? (i := 879) (by decide +kernel)⟩
theorem lw_p35 : lw_okq (⟨"StartBenchModel", "onTape", "(I)V"⟩, 58) := ⟨⟨by decide +kernel, by decide +kernel⟩, List.mem_of_getElem? (i := 565) (by decide +kernel), List.mem_of_getElem? (i := 882) (by decide +kernel), List.mem_of_getElem? (i := 883) (by decide +kernel)⟩
theorem lw_p36 : lw_okq (⟨"StartBenchModel", "did", "(I)V"⟩, 58) := ⟨⟨by decide +kernel, by decide +kernel⟩, List.mem_of_getElem? (i := 565) (by decide +kernel), List.mem_of_getElem? (i := 886) (by decide +kernel), List.mem_of_getElem? (i := 887) (by decide +kernel)⟩
theorem lw_p37 : lw_okq (⟨"StartBenchModel", "goOnStart", "()V"⟩, 58) := ⟨⟨by decide +kernel, by decide +kernel⟩, List.mem_of_getElem? (i := 565) (by decide +kernel), List.mem_of_getElem? (i := 890) (by decide +kernel), List.mem_of_getElem? (i := 891) (by decide +kernel)⟩
theorem lw_p38 : lw_okq (⟨"StartBenchModel", "start", "(I)V"⟩, 58) := ⟨⟨by decide +kernel, by decide +kernel⟩, List.mem_of_getElem? (i := 565) (by decide +kernel), List.mem_of_getElem? (i := 894) (by decide +kernel), List.mem_of_getElem? (i := 895) (by decide +kernel)⟩
theorem lw_p39 : lw_okq (⟨"StartBenchModel", "pushBody", "(I)V"⟩, 58) := ⟨⟨by decide +kernel, by decide +kernel⟩, List.mem_of_getElem? (i := 565) (by decide +kernel), List.mem_of_getElem? (i := 898) (by decide +kernel), List.mem_of_getElem? (i := 899) (by decide +kernel)⟩
theorem lw_p40 : lw_okq (⟨"StartBenchModel", "goOnBody", "()V"⟩, 58) := ⟨⟨by decide +kernel, by decide +kernel⟩, List.mem_of_getElem? (i := 565) (by decide +kernel), List.mem_of_getElem? (i := 902) (by decide +kernel), List.mem_of_getElem? (i := 903) (by decide +kernel)⟩
theorem lw_p41 : lw_okq (⟨"StartBenchModel", "goBehind", "(I)V"⟩, 58) := ⟨⟨by decide +kernel, by decide +kernel⟩, List.mem_of_getElem? (i := 565) (by decide +kernel), List.mem_of_getElem? (i := 906) (by decide +kernel), List.mem_of_getElem? (i := 907) (by decide +kernel)⟩
theorem lw_p42 : lw_okq (⟨"StartBenchModel", "typeAt", "(I)I"⟩, 58) := ⟨⟨by decide +kernel, by decide +kernel⟩, List.mem_of_getElem? (i := 565) (by decide +kernel), List.mem_of_getElem? (i := 910) (by decide +kernel), List.mem_of_getElem? (i := 911) (by decide +kernel)⟩
theorem lw_p43 : lw_okq (⟨"StartBenchModel", "nameAt", "(I)I"⟩, 58) := ⟨⟨by decide +kernel, by decide +kernel⟩, List.mem_of_getElem? (i := 565) (by decide +kernel), List.mem_of_getElem? (i := 914) (by decide +kernel), List.mem_of_getElem? (i := 915) (by decide +kernel)⟩
theorem lw_p44 : lw_okq (⟨"StartBenchModel", "valueAt", "(I)I"⟩, 58) := ⟨⟨by decide +kernel, by decide +kernel⟩, List.mem_of_getElem? (i := 565) (by decide +kernel), List.mem_of_getElem? (i := 918) (by decide +kernel), List.mem_of_getElem? (i := 919) (by decide +kernel)⟩
theorem lw_p45 : lw_okq (⟨"StartBenchModel", "kindAt", "(I)I"⟩, 58) := ⟨⟨by decide +kernel, by decide +kernel⟩, List.mem_of_getElem? (i := 565) (by decide +kernel), List.mem_of_getElem? (i := 922) (by decide +kernel), List.mem_of_getElem? (i := 923) (by decide +kernel)⟩
theorem lw_p46 : lw_okq (⟨"StartBenchModel", "sizeOf", "(I)I"⟩, 58) := ⟨⟨by decide +kernel, by decide +kernel⟩, List.mem_of_getElem? (i := 565) (by decide +kernel), List.mem_of_getElem? (i := 926) (by decide +kernel), List.mem_of_getElem? (i := 927) (by decide +kernel)⟩
theorem lw_p47 : lw_okq (⟨"StartBenchModel", "cameTo", "()I"⟩, 58) := ⟨⟨by decide +kernel, by decide +kernel⟩, List.mem_of_getElem? (i := 565) (by decide +kernel), List.mem_of_getElem? (i := 930) (by decide +kernel), List.mem_of_getElem? (i := 931) (by decide +kernel)⟩
def lw_privs_3 : List (MethodName × Nat) := [(⟨"StartBenchModel", "go", "(IIIII)V"⟩, 58), (⟨"StartBenchModel", "goDown", "()V"⟩, 58), (⟨"StartBenchModel", "fail", "(II)V"⟩, 58), (⟨"StartBenchModel", "onTape", "(I)V"⟩, 58), (⟨"StartBenchModel", "did", "(I)V"⟩, 58), (⟨"StartBenchModel", "goOnStart", "()V"⟩, 58), (⟨"StartBenchModel", "start", "(I)V"⟩, 58), (⟨"StartBenchModel", "pushBody", "(I)V"⟩, 58), (⟨"StartBenchModel", "goOnBody", "()V"⟩, 58), (⟨"StartBenchModel", "goBehind", "(I)V"⟩, 58), (⟨"StartBenchModel", "typeAt", "(I)I"⟩, 58), (⟨"StartBenchModel", "nameAt", "(I)I"⟩, 58), (⟨"StartBenchModel", "valueAt", "(I)I"⟩, 58), (⟨"StartBenchModel", "kindAt", "(I)I"⟩, 58), (⟨"StartBenchModel", "sizeOf", "(I)I"⟩, 58), (⟨"StartBenchModel", "cameTo", "()I"⟩, 58)]
theorem lw_r3 : ∀ q ∈ lw_privs_3, lw_okq q := List.forall_mem_cons.mpr ⟨lw_p32, List.forall_mem_cons.mpr ⟨lw_p33, List.forall_mem_cons.mpr ⟨lw_p34, List.forall_mem_cons.mpr ⟨lw_p35, List.forall_mem_cons.mpr ⟨lw_p36, List.forall_mem_cons.mpr ⟨lw_p37, List.forall_mem_cons.mpr ⟨lw_p38, List.forall_mem_cons.mpr ⟨lw_p39, List.forall_mem_cons.mpr ⟨lw_p40, List.forall_mem_cons.mpr ⟨lw_p41, List.forall_mem_cons.mpr ⟨lw_p42, List.forall_mem_cons.mpr ⟨lw_p43, List.forall_mem_cons.mpr ⟨lw_p44, List.forall_mem_cons.mpr ⟨lw_p45, List.forall_mem_cons.mpr ⟨lw_p46, List.forall_mem_cons.mpr ⟨lw_p47, fun _ h => absurd h List.not_mem_nil⟩⟩⟩⟩⟩⟩⟩⟩⟩⟩⟩⟩⟩⟩⟩⟩
def lw_privs : List (MethodName × Nat) := lw_privs_1 ++ (lw_privs_2 ++ (lw_privs_3))
def lw_tbl : List Cond := k2_sels lw_privs ++ tables_1
theorem lw_privs_ok : ∀ q ∈ lw_privs, lw_okq q := by
  show ∀ q ∈ lw_privs_1 ++ (lw_privs_2 ++ (lw_privs_3)), lw_okq q
  exact List.forall_mem_append.mpr ⟨lw_r1, List.forall_mem_append.mpr ⟨lw_r2, lw_r3⟩⟩

/-! ===== BEGIN printed: names, fields, word lists, decode rows ===== -/
def RX0 : String := "StartBench$Action"
def TX0 : u_T := fun k => match k with
  | 0 => ("StartBench$Action", "kind", "I", true)
  | 1 => ("StartBench$Action", "type", "I", true)
  | 2 => ("StartBench$Action", "name", "I", true)
  | _ => ("StartBench$Action", "value", "I", true)
def tyX0 : Nat → FieldType := fun k => match k with
  | 0 => .int
  | 1 => .int
  | 2 => .int
  | _ => .int
theorem nmX0 : ∀ a, a < 4 → ∀ b, b < 4 → a ≠ b → (TX0 a).2.1 ≠ (TX0 b).2.1 := by decide +kernel
theorem tyX0_ok : ∀ k, k < 4 → parseFieldDescriptor (TX0 k).2.2.1 = some (tyX0 k) := by decide +kernel
abbrev cX0_init : ByteArray := prog_2_method_1_code
def yX0_init : MethodName := ⟨RX0, "<init>", "(IIII)V"⟩
def RX1 : String := "StartBench$Body"
def TX1 : u_T := fun k => match k with
  | 0 => ("StartBench$Body", "actions", "[LStartBench$Action;", true)
  | _ => ("StartBench$Body", "size", "I", false)
def tyX1 : Nat → FieldType := fun k => match k with
  | 0 => .array (.object "StartBench$Action")
  | _ => .int
theorem nmX1 : ∀ a, a < 2 → ∀ b, b < 2 → a ≠ b → (TX1 a).2.1 ≠ (TX1 b).2.1 := by decide +kernel
theorem tyX1_ok : ∀ k, k < 2 → parseFieldDescriptor (TX1 k).2.2.1 = some (tyX1 k) := by decide +kernel
abbrev cX1_init : ByteArray := prog_3_method_1_code
def yX1_init : MethodName := ⟨RX1, "<init>", "()V"⟩
abbrev cX1_append : ByteArray := prog_3_method_2_code
def yX1_append : MethodName := ⟨RX1, "append", "(LStartBench$Action;)I"⟩
def RX2 : String := "StartBench$Description"
def TX2 : u_T := fun k => match k with
  | 0 => ("StartBench$Description", "types", "[LStartBench$Type;", true)
  | 1 => ("StartBench$Description", "count", "I", false)
  | 2 => ("StartBench$Description", "fieldOwners", "[I", true)
  | 3 => ("StartBench$Description", "asked", "[I", true)
  | 4 => ("StartBench$Description", "askedCount", "I", false)
  | 5 => ("StartBench$Description", "askedBits", "J", false)
  | _ => ("StartBench$Description", "ways", "[J", true)
def tyX2 : Nat → FieldType := fun k => match k with
  | 0 => .array (.object "StartBench$Type")
  | 1 => .int
  | 2 => .array .int
  | 3 => .array .int
  | 4 => .int
  | 5 => .long
  | _ => .array .long
theorem nmX2 : ∀ a, a < 7 → ∀ b, b < 7 → a ≠ b → (TX2 a).2.1 ≠ (TX2 b).2.1 := by decide +kernel
theorem tyX2_ok : ∀ k, k < 7 → parseFieldDescriptor (TX2 k).2.2.1 = some (tyX2 k) := by decide +kernel
abbrev cX2_init : ByteArray := prog_4_method_1_code
def yX2_init : MethodName := ⟨RX2, "<init>", "()V"⟩
abbrev cX2_knows : ByteArray := prog_4_method_2_code
def yX2_knows : MethodName := ⟨RX2, "knows", "(I)Z"⟩
abbrev cX2_append : ByteArray := prog_4_method_3_code
def yX2_append : MethodName := ⟨RX2, "append", "(LStartBench$Type;)I"⟩
abbrev cX2_leadsTo : ByteArray := prog_4_method_4_code
def yX2_leadsTo : MethodName := ⟨RX2, "leadsTo", "(II)Z"⟩
abbrev cX2_countLeading : ByteArray := prog_4_method_5_code
def yX2_countLeading : MethodName := ⟨RX2, "countLeading", "(I)I"⟩
abbrev cX2_putUnder : ByteArray := prog_4_method_6_code
def yX2_putUnder : MethodName := ⟨RX2, "putUnder", "(II)V"⟩
abbrev cX2_forgetFields : ByteArray := prog_4_method_7_code
def yX2_forgetFields : MethodName := ⟨RX2, "forgetFields", "()V"⟩
abbrev cX2_fieldOwner : ByteArray := prog_4_method_8_code
def yX2_fieldOwner : MethodName := ⟨RX2, "fieldOwner", "(II)I"⟩
abbrev cX2_seekField : ByteArray := prog_4_method_9_code
def yX2_seekField : MethodName := ⟨RX2, "seekField", "(III)I"⟩
abbrev cX2_methodOwner : ByteArray := prog_4_method_10_code
def yX2_methodOwner : MethodName := ⟨RX2, "methodOwner", "(II)I"⟩
abbrev cX2_valueOf : ByteArray := prog_4_method_11_code
def yX2_valueOf : MethodName := ⟨RX2, "valueOf", "(LStartBench$World;II)I"⟩
abbrev cX2_startedBy : ByteArray := prog_4_method_12_code
def yX2_startedBy : MethodName := ⟨RX2, "startedBy", "(LStartBench$Action;)I"⟩
abbrev cX2_startedByField : ByteArray := prog_4_method_13_code
def yX2_startedByField : MethodName := ⟨RX2, "startedByField", "(LStartBench$Action;)I"⟩
abbrev cX2_orderFirsts : ByteArray := prog_4_method_14_code
def yX2_orderFirsts : MethodName := ⟨RX2, "orderFirsts", "(LStartBench$Type;)V"⟩
abbrev cX2_addFirst : ByteArray := prog_4_method_15_code
def yX2_addFirst : MethodName := ⟨RX2, "addFirst", "(LStartBench$Type;IJI)J"⟩
abbrev cX2_listAsked : ByteArray := prog_4_method_16_code
def yX2_listAsked : MethodName := ⟨RX2, "listAsked", "(I)V"⟩
abbrev cX2_addAsked : ByteArray := prog_4_method_17_code
def yX2_addAsked : MethodName := ⟨RX2, "addAsked", "(I)V"⟩
abbrev cX2_inRound : ByteArray := prog_4_method_18_code
def yX2_inRound : MethodName := ⟨RX2, "inRound", "(I)I"⟩
def RX3 : String := "StartBench$Doing"
def TX3 : u_T := fun k => match k with
  | 0 => ("StartBench$Doing", "description", "LStartBench$Description;", true)
  | 1 => ("StartBench$Doing", "world", "LStartBench$World;", true)
  | 2 => ("StartBench$Doing", "actions", "I", false)
  | 3 => ("StartBench$Doing", "mostBodies", "I", false)
  | 4 => ("StartBench$Doing", "failures", "I", false)
  | 5 => ("StartBench$Doing", "starts", "I", false)
  | _ => ("StartBench$Doing", "failureOf", "I", false)
def tyX3 : Nat → FieldType := fun k => match k with
  | 0 => .object "StartBench$Description"
  | 1 => .object "StartBench$World"
  | 2 => .int
  | 3 => .int
  | 4 => .int
  | 5 => .int
  | _ => .int
theorem nmX3 : ∀ a, a < 7 → ∀ b, b < 7 → a ≠ b → (TX3 a).2.1 ≠ (TX3 b).2.1 := by decide +kernel
theorem tyX3_ok : ∀ k, k < 7 → parseFieldDescriptor (TX3 k).2.2.1 = some (tyX3 k) := by decide +kernel
abbrev cX3_init : ByteArray := prog_5_method_1_code
def yX3_init : MethodName := ⟨RX3, "<init>", "(LStartBench$Description;LStartBench$World;)V"⟩
abbrev cX3_doTouch : ByteArray := prog_5_method_2_code
def yX3_doTouch : MethodName := ⟨RX3, "doTouch", "(LStartBench$Action;)I"⟩
abbrev cX3_perform : ByteArray := prog_5_method_3_code
def yX3_perform : MethodName := ⟨RX3, "perform", "(LStartBench$Action;II)I"⟩
abbrev cX3_putThrough : ByteArray := prog_5_method_4_code
def yX3_putThrough : MethodName := ⟨RX3, "putThrough", "(LStartBench$Action;)V"⟩
abbrev cX3_arise : ByteArray := prog_5_method_5_code
def yX3_arise : MethodName := ⟨RX3, "arise", "(II)I"⟩
abbrev cX3_startType : ByteArray := prog_5_method_6_code
def yX3_startType : MethodName := ⟨RX3, "startType", "(III)I"⟩
abbrev cX3_startFirsts : ByteArray := prog_5_method_7_code
def yX3_startFirsts : MethodName := ⟨RX3, "startFirsts", "(LStartBench$Type;II)I"⟩
abbrev cX3_runStart : ByteArray := prog_5_method_8_code
def yX3_runStart : MethodName := ⟨RX3, "runStart", "(III)I"⟩
abbrev cX3_runBody : ByteArray := prog_5_method_9_code
def yX3_runBody : MethodName := ⟨RX3, "runBody", "(LStartBench$Body;II)I"⟩
abbrev cX3_takeFailure : ByteArray := prog_5_method_10_code
def yX3_takeFailure : MethodName := ⟨RX3, "takeFailure", "(LStartBench$Body;III)I"⟩
def RX4 : String := "StartBench$Type"
def TX4 : u_T := fun k => match k with
  | 0 => ("StartBench$Type", "isFace", "Z", true)
  | 1 => ("StartBench$Type", "special", "Z", true)
  | 2 => ("StartBench$Type", "above", "I", true)
  | 3 => ("StartBench$Type", "faces", "[I", true)
  | 4 => ("StartBench$Type", "faceCount", "I", false)
  | 5 => ("StartBench$Type", "leads", "J", false)
  | 6 => ("StartBench$Type", "fieldKinds", "[I", true)
  | 7 => ("StartBench$Type", "constants", "[I", true)
  | 8 => ("StartBench$Type", "fieldCount", "I", false)
  | 9 => ("StartBench$Type", "methods", "[LStartBench$Body;", true)
  | 10 => ("StartBench$Type", "methodCount", "I", false)
  | 11 => ("StartBench$Type", "start", "LStartBench$Body;", true)
  | 12 => ("StartBench$Type", "firsts", "[I", true)
  | _ => ("StartBench$Type", "firstCount", "I", false)
def tyX4 : Nat → FieldType := fun k => match k with
  | 0 => .boolean
  | 1 => .boolean
  | 2 => .int
  | 3 => .array .int
  | 4 => .int
  | 5 => .long
  | 6 => .array .int
  | 7 => .array .int
  | 8 => .int
  | 9 => .array (.object "StartBench$Body")
  | 10 => .int
  | 11 => .object "StartBench$Body"
  | 12 => .array .int
  | _ => .int
theorem nmX4 : ∀ a, a < 14 → ∀ b, b < 14 → a ≠ b → (TX4 a).2.1 ≠ (TX4 b).2.1 := by decide +kernel
theorem tyX4_ok : ∀ k, k < 14 → parseFieldDescriptor (TX4 k).2.2.1 = some (tyX4 k) := by decide +kernel
abbrev cX4_init : ByteArray := prog_6_method_1_code
def yX4_init : MethodName := ⟨RX4, "<init>", "(ZZI)V"⟩
abbrev cX4_isUnder : ByteArray := prog_6_method_2_code
def yX4_isUnder : MethodName := ⟨RX4, "isUnder", "(I)Z"⟩
abbrev cX4_addField : ByteArray := prog_6_method_3_code
def yX4_addField : MethodName := ⟨RX4, "addField", "(IZI)V"⟩
abbrev cX4_addMethod : ByteArray := prog_6_method_4_code
def yX4_addMethod : MethodName := ⟨RX4, "addMethod", "(I)V"⟩
abbrev cX4_bodyOf : ByteArray := prog_6_method_5_code
def yX4_bodyOf : MethodName := ⟨RX4, "bodyOf", "(I)LStartBench$Body;"⟩
abbrev cX4_tell : ByteArray := prog_6_method_6_code
def yX4_tell : MethodName := ⟨RX4, "tell", "(I)I"⟩
def RX5 : String := "StartBench$World"
def TX5 : u_T := fun k => match k with
  | 0 => ("StartBench$World", "states", "[I", true)
  | 1 => ("StartBench$World", "values", "[I", true)
  | 2 => ("StartBench$World", "kept", "[I", true)
  | 3 => ("StartBench$World", "tapeCount", "I", false)
  | 4 => ("StartBench$World", "row", "[I", true)
  | 5 => ("StartBench$World", "rowCount", "I", false)
  | 6 => ("StartBench$World", "failure", "I", false)
  | 7 => ("StartBench$World", "failureOf", "I", false)
  | _ => ("StartBench$World", "account", "[I", true)
def tyX5 : Nat → FieldType := fun k => match k with
  | 0 => .array .int
  | 1 => .array .int
  | 2 => .array .int
  | 3 => .int
  | 4 => .array .int
  | 5 => .int
  | 6 => .int
  | 7 => .int
  | _ => .array .int
theorem nmX5 : ∀ a, a < 9 → ∀ b, b < 9 → a ≠ b → (TX5 a).2.1 ≠ (TX5 b).2.1 := by decide +kernel
theorem tyX5_ok : ∀ k, k < 9 → parseFieldDescriptor (TX5 k).2.2.1 = some (tyX5 k) := by decide +kernel
abbrev cX5_init : ByteArray := prog_7_method_1_code
def yX5_init : MethodName := ⟨RX5, "<init>", "()V"⟩
abbrev cX5_clear : ByteArray := prog_7_method_2_code
def yX5_clear : MethodName := ⟨RX5, "clear", "()V"⟩
abbrev cX5_takeStateOf : ByteArray := prog_7_method_3_code
def yX5_takeStateOf : MethodName := ⟨RX5, "takeStateOf", "(LStartBench$World;)V"⟩
abbrev cX5_putOnTape : ByteArray := prog_7_method_4_code
def yX5_putOnTape : MethodName := ⟨RX5, "putOnTape", "(I)V"⟩
abbrev cX5_putInRow : ByteArray := prog_7_method_5_code
def yX5_putInRow : MethodName := ⟨RX5, "putInRow", "(I)V"⟩
abbrev cX5_keepAccount : ByteArray := prog_7_method_6_code
def yX5_keepAccount : MethodName := ⟨RX5, "keepAccount", "(LStartBench$Doing;I)V"⟩
abbrev cX5_sameIn : ByteArray := prog_7_method_7_code
def yX5_sameIn : MethodName := ⟨RX5, "sameIn", "(LStartBench$World;I)Z"⟩
def RX6 : String := "StartBench"
def TX6 : u_T := fun k => match k with
  | 0 => ("StartBench", "description", "LStartBench$Description;", true)
  | 1 => ("StartBench", "worlds", "[LStartBench$World;", true)
  | 2 => ("StartBench", "worldCount", "I", false)
  | _ => ("StartBench", "ahead", "LStartBench$World;", true)
def tyX6 : Nat → FieldType := fun k => match k with
  | 0 => .object "StartBench$Description"
  | 1 => .array (.object "StartBench$World")
  | 2 => .int
  | _ => .object "StartBench$World"
theorem nmX6 : ∀ a, a < 4 → ∀ b, b < 4 → a ≠ b → (TX6 a).2.1 ≠ (TX6 b).2.1 := by decide +kernel
theorem tyX6_ok : ∀ k, k < 4 → parseFieldDescriptor (TX6 k).2.2.1 = some (tyX6 k) := by decide +kernel
abbrev cX6_init : ByteArray := prog_1_method_1_code
def yX6_init : MethodName := ⟨RX6, "<init>", "()V"⟩
abbrev cX6_cls : ByteArray := prog_1_method_2_code
def yX6_cls : MethodName := ⟨RX6, "cls", "(IZ)I"⟩
abbrev cX6_face : ByteArray := prog_1_method_3_code
def yX6_face : MethodName := ⟨RX6, "face", "(Z)I"⟩
abbrev cX6_addType : ByteArray := prog_1_method_4_code
def yX6_addType : MethodName := ⟨RX6, "addType", "(ZZI)I"⟩
abbrev cX6_under : ByteArray := prog_1_method_5_code
def yX6_under : MethodName := ⟨RX6, "under", "(II)I"⟩
abbrev cX6_field : ByteArray := prog_1_method_6_code
def yX6_field : MethodName := ⟨RX6, "field", "(IIZI)I"⟩
abbrev cX6_method : ByteArray := prog_1_method_7_code
def yX6_method : MethodName := ⟨RX6, "method", "(II)I"⟩
abbrev cX6_refusalOfMember : ByteArray := prog_1_method_8_code
def yX6_refusalOfMember : MethodName := ⟨RX6, "refusalOfMember", "(II)I"⟩
abbrev cX6_act : ByteArray := prog_1_method_9_code
def yX6_act : MethodName := ⟨RX6, "act", "(IIIIII)I"⟩
abbrev cX6_told : ByteArray := prog_1_method_10_code
def yX6_told : MethodName := ⟨RX6, "told", "(II)I"⟩
abbrev cX6_below : ByteArray := prog_1_method_11_code
def yX6_below : MethodName := ⟨RX6, "below", "(II)I"⟩
abbrev cX6_found : ByteArray := prog_1_method_12_code
def yX6_found : MethodName := ⟨RX6, "found", "(IIZ)I"⟩
abbrev cX6_asks : ByteArray := prog_1_method_13_code
def yX6_asks : MethodName := ⟨RX6, "asks", "(II)I"⟩
abbrev cX6_round : ByteArray := prog_1_method_14_code
def yX6_round : MethodName := ⟨RX6, "round", "(I)I"⟩
abbrev cX6_world : ByteArray := prog_1_method_15_code
def yX6_world : MethodName := ⟨RX6, "world", "()I"⟩
abbrev cX6_gone : ByteArray := prog_1_method_16_code
def yX6_gone : MethodName := ⟨RX6, "gone", "()I"⟩
abbrev cX6_touch : ByteArray := prog_1_method_17_code
def yX6_touch : MethodName := ⟨RX6, "touch", "(IIIII)I"⟩
abbrev cX6_foretell : ByteArray := prog_1_method_18_code
def yX6_foretell : MethodName := ⟨RX6, "foretell", "(IIIII)I"⟩
abbrev cX6_refusalOfTouch : ByteArray := prog_1_method_19_code
def yX6_refusalOfTouch : MethodName := ⟨RX6, "refusalOfTouch", "(IIII)I"⟩
abbrev cX6_comesTo : ByteArray := prog_1_method_20_code
def yX6_comesTo : MethodName := ⟨RX6, "comesTo", "(I)I"⟩
abbrev cX6_state : ByteArray := prog_1_method_21_code
def yX6_state : MethodName := ⟨RX6, "state", "(II)I"⟩
abbrev cX6_began : ByteArray := prog_1_method_22_code
def yX6_began : MethodName := ⟨RX6, "began", "(II)I"⟩
abbrev cX6_tape : ByteArray := prog_1_method_23_code
def yX6_tape : MethodName := ⟨RX6, "tape", "(II)I"⟩
abbrev cX6_value : ByteArray := prog_1_method_24_code
def yX6_value : MethodName := ⟨RX6, "value", "(III)I"⟩
abbrev cX6_failed : ByteArray := prog_1_method_25_code
def yX6_failed : MethodName := ⟨RX6, "failed", "(II)I"⟩
abbrev cX6_spent : ByteArray := prog_1_method_26_code
def yX6_spent : MethodName := ⟨RX6, "spent", "(II)I"⟩
abbrev cX6_many : ByteArray := prog_1_method_27_code
def yX6_many : MethodName := ⟨RX6, "many", "(II)I"⟩
abbrev cX6_differs : ByteArray := prog_1_method_28_code
def yX6_differs : MethodName := ⟨RX6, "differs", "(II)I"⟩
abbrev cX6_isWorld : ByteArray := prog_1_method_29_code
def yX6_isWorld : MethodName := ⟨RX6, "isWorld", "(I)Z"⟩
abbrev cX6_isName : ByteArray := prog_1_method_30_code
def yX6_isName : MethodName := ⟨RX6, "isName", "(I)Z"⟩
abbrev cX6_usesType : ByteArray := prog_1_method_31_code
def yX6_usesType : MethodName := ⟨RX6, "usesType", "(I)Z"⟩
abbrev cX6_usesName : ByteArray := prog_1_method_32_code
def yX6_usesName : MethodName := ⟨RX6, "usesName", "(I)Z"⟩
abbrev cX6_fitsValue : ByteArray := prog_1_method_33_code
def yX6_fitsValue : MethodName := ⟨RX6, "fitsValue", "(II)Z"⟩
def RX7 : String := "StartBenchModel"
def TX7 : u_T := fun k => match k with
  | 0 => ("StartBenchModel", "types", "I", false)
  | 1 => ("StartBenchModel", "isFace", "[Z", true)
  | 2 => ("StartBenchModel", "mark", "[Z", true)
  | 3 => ("StartBenchModel", "above", "[I", true)
  | 4 => ("StartBenchModel", "faces", "[I", true)
  | 5 => ("StartBenchModel", "face", "[I", true)
  | 6 => ("StartBenchModel", "fields", "[I", true)
  | 7 => ("StartBenchModel", "fieldName", "[I", true)
  | 8 => ("StartBenchModel", "isConstant", "[Z", true)
  | 9 => ("StartBenchModel", "constant", "[I", true)
  | 10 => ("StartBenchModel", "methods", "[I", true)
  | 11 => ("StartBenchModel", "methodName", "[I", true)
  | 12 => ("StartBenchModel", "size", "[I", true)
  | 13 => ("StartBenchModel", "kindOf", "[I", true)
  | 14 => ("StartBenchModel", "typeOf", "[I", true)
  | 15 => ("StartBenchModel", "nameOf", "[I", true)
  | 16 => ("StartBenchModel", "valueOf", "[I", true)
  | 17 => ("StartBenchModel", "worlds", "I", false)
  | 18 => ("StartBenchModel", "waits", "[I", true)
  | 19 => ("StartBenchModel", "seen", "[Z", true)
  | 20 => ("StartBenchModel", "first", "[I", true)
  | 21 => ("StartBenchModel", "firsts", "I", false)
  | 22 => ("StartBenchModel", "isPassed", "[Z", true)
  | 23 => ("StartBenchModel", "ends", "[Z", true)
  | 24 => ("StartBenchModel", "asked", "[I", true)
  | 25 => ("StartBenchModel", "askedMany", "I", false)
  | 26 => ("StartBenchModel", "reached", "[Z", true)
  | 27 => ("StartBenchModel", "toGo", "[I", true)
  | 28 => ("StartBenchModel", "state", "[I", true)
  | 29 => ("StartBenchModel", "place", "[I", true)
  | 30 => ("StartBenchModel", "taped", "[I", true)
  | 31 => ("StartBenchModel", "tape", "[I", true)
  | 32 => ("StartBenchModel", "rowed", "[I", true)
  | 33 => ("StartBenchModel", "row", "[I", true)
  | 34 => ("StartBenchModel", "failNumber", "[I", true)
  | 35 => ("StartBenchModel", "failOf", "[I", true)
  | 36 => ("StartBenchModel", "spent", "[I", true)
  | 37 => ("StartBenchModel", "now", "I", false)
  | 38 => ("StartBenchModel", "frames", "I", false)
  | 39 => ("StartBenchModel", "isStart", "[Z", true)
  | 40 => ("StartBenchModel", "of", "[I", true)
  | 41 => ("StartBenchModel", "far", "[I", true)
  | 42 => ("StartBenchModel", "caughtFrom", "[I", true)
  | 43 => ("StartBenchModel", "hasStarted", "[Z", true)
  | 44 => ("StartBenchModel", "bodies", "I", false)
  | 45 => ("StartBenchModel", "actions", "I", false)
  | 46 => ("StartBenchModel", "deepest", "I", false)
  | 47 => ("StartBenchModel", "arisen", "I", false)
  | 48 => ("StartBenchModel", "began", "I", false)
  | 49 => ("StartBenchModel", "isOver", "Z", false)
  | 50 => ("StartBenchModel", "fails", "Z", false)
  | 51 => ("StartBenchModel", "number", "I", false)
  | 52 => ("StartBenchModel", "numberOf", "I", false)
  | 53 => ("StartBenchModel", "touchKind", "I", false)
  | 54 => ("StartBenchModel", "touchType", "I", false)
  | 55 => ("StartBenchModel", "touchName", "I", false)
  | 56 => ("StartBenchModel", "touchValue", "I", false)
  | _ => ("StartBenchModel", "calls", "[Z", true)
def tyX7 : Nat → FieldType := fun k => match k with
  | 0 => .int
  | 1 => .array .boolean
  | 2 => .array .boolean
  | 3 => .array .int
  | 4 => .array .int
  | 5 => .array .int
  | 6 => .array .int
  | 7 => .array .int
  | 8 => .array .boolean
  | 9 => .array .int
  | 10 => .array .int
  | 11 => .array .int
  | 12 => .array .int
  | 13 => .array .int
  | 14 => .array .int
  | 15 => .array .int
  | 16 => .array .int
  | 17 => .int
  | 18 => .array .int
  | 19 => .array .boolean
  | 20 => .array .int
  | 21 => .int
  | 22 => .array .boolean
  | 23 => .array .boolean
  | 24 => .array .int
  | 25 => .int
  | 26 => .array .boolean
  | 27 => .array .int
  | 28 => .array .int
  | 29 => .array .int
  | 30 => .array .int
  | 31 => .array .int
  | 32 => .array .int
  | 33 => .array .int
  | 34 => .array .int
  | 35 => .array .int
  | 36 => .array .int
  | 37 => .int
  | 38 => .int
  | 39 => .array .boolean
  | 40 => .array .int
  | 41 => .array .int
  | 42 => .array .int
  | 43 => .array .boolean
  | 44 => .int
  | 45 => .int
  | 46 => .int
  | 47 => .int
  | 48 => .int
  | 49 => .boolean
  | 50 => .boolean
  | 51 => .int
  | 52 => .int
  | 53 => .int
  | 54 => .int
  | 55 => .int
  | 56 => .int
  | _ => .array .boolean
theorem nmX7 : ∀ a, a < 58 → ∀ b, b < 58 → a ≠ b → (TX7 a).2.1 ≠ (TX7 b).2.1 := by decide +kernel
theorem tyX7_ok : ∀ k, k < 58 → parseFieldDescriptor (TX7 k).2.2.1 = some (tyX7 k) := by decide +kernel
abbrev cX7_init : ByteArray := prog_9_method_1_code
def yX7_init : MethodName := ⟨RX7, "<init>", "()V"⟩
abbrev cX7_in : ByteArray := prog_9_method_2_code
def yX7_in : MethodName := ⟨RX7, "in", "(III)Z"⟩
abbrev cX7_isType : ByteArray := prog_9_method_3_code
def yX7_isType : MethodName := ⟨RX7, "isType", "(I)Z"⟩
abbrev cX7_make : ByteArray := prog_9_method_4_code
def yX7_make : MethodName := ⟨RX7, "make", "(ZZI)I"⟩
abbrev cX7_cls : ByteArray := prog_9_method_5_code
def yX7_cls : MethodName := ⟨RX7, "cls", "(IZ)I"⟩
abbrev cX7_face : ByteArray := prog_9_method_6_code
def yX7_face : MethodName := ⟨RX7, "face", "(Z)I"⟩
abbrev cX7_leads : ByteArray := prog_9_method_7_code
def yX7_leads : MethodName := ⟨RX7, "leads", "(II)Z"⟩
abbrev cX7_under : ByteArray := prog_9_method_8_code
def yX7_under : MethodName := ⟨RX7, "under", "(II)I"⟩
abbrev cX7_ownField : ByteArray := prog_9_method_9_code
def yX7_ownField : MethodName := ⟨RX7, "ownField", "(II)I"⟩
abbrev cX7_ownMethod : ByteArray := prog_9_method_10_code
def yX7_ownMethod : MethodName := ⟨RX7, "ownMethod", "(II)I"⟩
abbrev cX7_field : ByteArray := prog_9_method_11_code
def yX7_field : MethodName := ⟨RX7, "field", "(IIZI)I"⟩
abbrev cX7_method : ByteArray := prog_9_method_12_code
def yX7_method : MethodName := ⟨RX7, "method", "(II)I"⟩
abbrev cX7_act : ByteArray := prog_9_method_13_code
def yX7_act : MethodName := ⟨RX7, "act", "(IIIIII)I"⟩
abbrev cX7_told : ByteArray := prog_9_method_14_code
def yX7_told : MethodName := ⟨RX7, "told", "(II)I"⟩
abbrev cX7_below : ByteArray := prog_9_method_15_code
def yX7_below : MethodName := ⟨RX7, "below", "(II)I"⟩
abbrev cX7_findField : ByteArray := prog_9_method_16_code
def yX7_findField : MethodName := ⟨RX7, "findField", "(II)I"⟩
abbrev cX7_findMethod : ByteArray := prog_9_method_17_code
def yX7_findMethod : MethodName := ⟨RX7, "findMethod", "(II)I"⟩
abbrev cX7_found : ByteArray := prog_9_method_18_code
def yX7_found : MethodName := ⟨RX7, "found", "(IIZ)I"⟩
abbrev cX7_listFirst : ByteArray := prog_9_method_19_code
def yX7_listFirst : MethodName := ⟨RX7, "listFirst", "(I)V"⟩
abbrev cX7_started : ByteArray := prog_9_method_20_code
def yX7_started : MethodName := ⟨RX7, "started", "(III)I"⟩
abbrev cX7_isRuled : ByteArray := prog_9_method_21_code
def yX7_isRuled : MethodName := ⟨RX7, "isRuled", "(III)Z"⟩
abbrev cX7_addAsked : ByteArray := prog_9_method_22_code
def yX7_addAsked : MethodName := ⟨RX7, "addAsked", "(II)V"⟩
abbrev cX7_listAsked : ByteArray := prog_9_method_23_code
def yX7_listAsked : MethodName := ⟨RX7, "listAsked", "(I)V"⟩
abbrev cX7_asks : ByteArray := prog_9_method_24_code
def yX7_asks : MethodName := ⟨RX7, "asks", "(II)I"⟩
abbrev cX7_isRound : ByteArray := prog_9_method_25_code
def yX7_isRound : MethodName := ⟨RX7, "isRound", "(I)Z"⟩
abbrev cX7_round : ByteArray := prog_9_method_26_code
def yX7_round : MethodName := ⟨RX7, "round", "(I)I"⟩
abbrev cX7_world : ByteArray := prog_9_method_27_code
def yX7_world : MethodName := ⟨RX7, "world", "()I"⟩
abbrev cX7_gone : ByteArray := prog_9_method_28_code
def yX7_gone : MethodName := ⟨RX7, "gone", "()I"⟩
abbrev cX7_isWorld : ByteArray := prog_9_method_29_code
def yX7_isWorld : MethodName := ⟨RX7, "isWorld", "(I)Z"⟩
abbrev cX7_copy : ByteArray := prog_9_method_30_code
def yX7_copy : MethodName := ⟨RX7, "copy", "(II)V"⟩
abbrev cX7_onTape : ByteArray := prog_9_method_31_code
def yX7_onTape : MethodName := ⟨RX7, "onTape", "(I)V"⟩
abbrev cX7_fail : ByteArray := prog_9_method_32_code
def yX7_fail : MethodName := ⟨RX7, "fail", "(II)V"⟩
abbrev cX7_pushBody : ByteArray := prog_9_method_33_code
def yX7_pushBody : MethodName := ⟨RX7, "pushBody", "(I)V"⟩
abbrev cX7_start : ByteArray := prog_9_method_34_code
def yX7_start : MethodName := ⟨RX7, "start", "(I)V"⟩
abbrev cX7_goOnStart : ByteArray := prog_9_method_35_code
def yX7_goOnStart : MethodName := ⟨RX7, "goOnStart", "()V"⟩
abbrev cX7_kindAt : ByteArray := prog_9_method_36_code
def yX7_kindAt : MethodName := ⟨RX7, "kindAt", "(I)I"⟩
abbrev cX7_typeAt : ByteArray := prog_9_method_37_code
def yX7_typeAt : MethodName := ⟨RX7, "typeAt", "(I)I"⟩
abbrev cX7_nameAt : ByteArray := prog_9_method_38_code
def yX7_nameAt : MethodName := ⟨RX7, "nameAt", "(I)I"⟩
abbrev cX7_valueAt : ByteArray := prog_9_method_39_code
def yX7_valueAt : MethodName := ⟨RX7, "valueAt", "(I)I"⟩
abbrev cX7_sizeOf : ByteArray := prog_9_method_40_code
def yX7_sizeOf : MethodName := ⟨RX7, "sizeOf", "(I)I"⟩
abbrev cX7_did : ByteArray := prog_9_method_41_code
def yX7_did : MethodName := ⟨RX7, "did", "(I)V"⟩
abbrev cX7_goOnBody : ByteArray := prog_9_method_42_code
def yX7_goOnBody : MethodName := ⟨RX7, "goOnBody", "()V"⟩
abbrev cX7_goBehind : ByteArray := prog_9_method_43_code
def yX7_goBehind : MethodName := ⟨RX7, "goBehind", "(I)V"⟩
abbrev cX7_goDown : ByteArray := prog_9_method_44_code
def yX7_goDown : MethodName := ⟨RX7, "goDown", "()V"⟩
abbrev cX7_go : ByteArray := prog_9_method_45_code
def yX7_go : MethodName := ⟨RX7, "go", "(IIIII)V"⟩
abbrev cX7_cameTo : ByteArray := prog_9_method_46_code
def yX7_cameTo : MethodName := ⟨RX7, "cameTo", "()I"⟩
abbrev cX7_refusal : ByteArray := prog_9_method_47_code
def yX7_refusal : MethodName := ⟨RX7, "refusal", "(IIII)I"⟩
abbrev cX7_touch : ByteArray := prog_9_method_48_code
def yX7_touch : MethodName := ⟨RX7, "touch", "(IIIII)I"⟩
abbrev cX7_foretell : ByteArray := prog_9_method_49_code
def yX7_foretell : MethodName := ⟨RX7, "foretell", "(IIIII)I"⟩
abbrev cX7_state : ByteArray := prog_9_method_50_code
def yX7_state : MethodName := ⟨RX7, "state", "(II)I"⟩
abbrev cX7_began : ByteArray := prog_9_method_51_code
def yX7_began : MethodName := ⟨RX7, "began", "(II)I"⟩
abbrev cX7_tape : ByteArray := prog_9_method_52_code
def yX7_tape : MethodName := ⟨RX7, "tape", "(II)I"⟩
abbrev cX7_value : ByteArray := prog_9_method_53_code
def yX7_value : MethodName := ⟨RX7, "value", "(III)I"⟩
abbrev cX7_failed : ByteArray := prog_9_method_54_code
def yX7_failed : MethodName := ⟨RX7, "failed", "(II)I"⟩
abbrev cX7_spent : ByteArray := prog_9_method_55_code
def yX7_spent : MethodName := ⟨RX7, "spent", "(II)I"⟩
abbrev cX7_many : ByteArray := prog_9_method_56_code
def yX7_many : MethodName := ⟨RX7, "many", "(II)I"⟩
abbrev cX7_differs : ByteArray := prog_9_method_57_code
def yX7_differs : MethodName := ⟨RX7, "differs", "(II)I"⟩
def RJ9 : String := "java/lang/Math"
def TJ9 : u_T := fun k => match k with
  | _ => ("", "", "", false)
def tyJ9 : Nat → FieldType := fun k => match k with
  | _ => .int
theorem nmJ9 : ∀ a, a < 0 → ∀ b, b < 0 → a ≠ b → (TJ9 a).2.1 ≠ (TJ9 b).2.1 := by decide +kernel
theorem tyJ9_ok : ∀ k, k < 0 → parseFieldDescriptor (TJ9 k).2.2.1 = some (tyJ9 k) := by decide +kernel
abbrev cJ9_max_7cf53 : ByteArray := prog_10_method_65_code
def yJ9_max_7cf53 : MethodName := ⟨RJ9, "max", "(II)I"⟩
def RJ10 : String := "java/lang/System"
def TJ10 : u_T := fun k => match k with
  | _ => ("", "", "", false)
def tyJ10 : Nat → FieldType := fun k => match k with
  | _ => .int
theorem nmJ10 : ∀ a, a < 0 → ∀ b, b < 0 → a ≠ b → (TJ10 a).2.1 ≠ (TJ10 b).2.1 := by decide +kernel
theorem tyJ10_ok : ∀ k, k < 0 → parseFieldDescriptor (TJ10 k).2.2.1 = some (tyJ10 k) := by decide +kernel
def RJ7 : String := "java/util/Arrays"
def TJ7 : u_T := fun k => match k with
  | _ => ("", "", "", false)
def tyJ7 : Nat → FieldType := fun k => match k with
  | _ => .int
theorem nmJ7 : ∀ a, a < 0 → ∀ b, b < 0 → a ≠ b → (TJ7 a).2.1 ≠ (TJ7 b).2.1 := by decide +kernel
theorem tyJ7_ok : ∀ k, k < 0 → parseFieldDescriptor (TJ7 k).2.2.1 = some (tyJ7 k) := by decide +kernel
abbrev cJ7_fill_53178 : ByteArray := prog_12_method_103_code
def yJ7_fill_53178 : MethodName := ⟨RJ7, "fill", "([II)V"⟩
def RL : String := "StartBenchLaw"
abbrev cL_law : ByteArray := code
def yL_law : MethodName := ⟨RL, "law", "([I)Z"⟩

