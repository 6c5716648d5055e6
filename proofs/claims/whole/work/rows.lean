section
-- ===== PART A: goes FIRST, ahead of the names: the tables' words, and 'selects' of the private methods out of them =====
/-- a private method of a class that the tables say can be made, by its rows of tables_1 -/
def lw_okq (q : MethodName × Nat) : Prop := (q.1.cls ≠ "java/lang/invoke/MethodHandle" ∧ q.1.cls ≠ "java/lang/invoke/VarHandle") ∧ Cond.instantiable q.1.cls q.2 ∈ tables_1 ∧ Cond.privateMethod q.1 ∈ tables_1 ∧ Cond.instanceMethod q.1 ∈ tables_1
theorem lw_p0 : lw_okq (⟨"StartBench", "addType", "(ZZI)I"⟩, 4) := ⟨⟨by decide +kernel, by decide +kernel⟩, List.mem_of_getElem? (i := 13) (by decide +kernel), List.mem_of_getElem? (i := 128) (by decide +kernel), List.mem_of_getElem? (i := 129) (by decide +kernel)⟩
theorem lw_p1 : lw_okq (⟨"StartBench", "refusalOfMember", "(II)I"⟩, 4) := ⟨⟨by decide +kernel, by decide +kernel⟩, List.mem_of_getElem? (i := 13) (by decide +kernel), List.mem_of_getElem? (i := 257) (by decide +kernel), List.mem_of_getElem? (i := 258) (by decide +kernel)⟩
theorem lw_p2 : lw_okq (⟨"StartBench$Description", "seekField", "(III)I"⟩, 7) := ⟨⟨by decide +kernel, by decide +kernel⟩, List.mem_of_getElem? (i := 21) (by decide +kernel), List.mem_of_getElem? (i := 353) (by decide +kernel), List.mem_of_getElem? (i := 354) (by decide +kernel)⟩
theorem lw_p3 : lw_okq (⟨"StartBench$Description", "addAsked", "(I)V"⟩, 7) := ⟨⟨by decide +kernel, by decide +kernel⟩, List.mem_of_getElem? (i := 21) (by decide +kernel), List.mem_of_getElem? (i := 365) (by decide +kernel), List.mem_of_getElem? (i := 366) (by decide +kernel)⟩
theorem lw_p4 : lw_okq (⟨"StartBench$Description", "addFirst", "(LStartBench$Type;IJI)J"⟩, 7) := ⟨⟨by decide +kernel, by decide +kernel⟩, List.mem_of_getElem? (i := 21) (by decide +kernel), List.mem_of_getElem? (i := 373) (by decide +kernel), List.mem_of_getElem? (i := 374) (by decide +kernel)⟩
theorem lw_p5 : lw_okq (⟨"StartBench$Description", "startedByField", "(LStartBench$Action;)I"⟩, 7) := ⟨⟨by decide +kernel, by decide +kernel⟩, List.mem_of_getElem? (i := 21) (by decide +kernel), List.mem_of_getElem? (i := 381) (by decide +kernel), List.mem_of_getElem? (i := 382) (by decide +kernel)⟩
theorem lw_p6 : lw_okq (⟨"StartBench", "refusalOfTouch", "(IIII)I"⟩, 4) := ⟨⟨by decide +kernel, by decide +kernel⟩, List.mem_of_getElem? (i := 13) (by decide +kernel), List.mem_of_getElem? (i := 414) (by decide +kernel), List.mem_of_getElem? (i := 415) (by decide +kernel)⟩
theorem lw_p7 : lw_okq (⟨"StartBench", "isWorld", "(I)Z"⟩, 4) := ⟨⟨by decide +kernel, by decide +kernel⟩, List.mem_of_getElem? (i := 13) (by decide +kernel), List.mem_of_getElem? (i := 418) (by decide +kernel), List.mem_of_getElem? (i := 419) (by decide +kernel)⟩
theorem lw_p8 : lw_okq (⟨"StartBench$Doing", "perform", "(LStartBench$Action;II)I"⟩, 7) := ⟨⟨by decide +kernel, by decide +kernel⟩, List.mem_of_getElem? (i := 429) (by decide +kernel), List.mem_of_getElem? (i := 466) (by decide +kernel), List.mem_of_getElem? (i := 467) (by decide +kernel)⟩
theorem lw_p9 : lw_okq (⟨"StartBench$Doing", "arise", "(II)I"⟩, 7) := ⟨⟨by decide +kernel, by decide +kernel⟩, List.mem_of_getElem? (i := 429) (by decide +kernel), List.mem_of_getElem? (i := 470) (by decide +kernel), List.mem_of_getElem? (i := 471) (by decide +kernel)⟩
theorem lw_p10 : lw_okq (⟨"StartBench$Doing", "startType", "(III)I"⟩, 7) := ⟨⟨by decide +kernel, by decide +kernel⟩, List.mem_of_getElem? (i := 429) (by decide +kernel), List.mem_of_getElem? (i := 475) (by decide +kernel), List.mem_of_getElem? (i := 476) (by decide +kernel)⟩
theorem lw_p11 : lw_okq (⟨"StartBench$Doing", "startFirsts", "(LStartBench$Type;II)I"⟩, 7) := ⟨⟨by decide +kernel, by decide +kernel⟩, List.mem_of_getElem? (i := 429) (by decide +kernel), List.mem_of_getElem? (i := 479) (by decide +kernel), List.mem_of_getElem? (i := 480) (by decide +kernel)⟩
theorem lw_p12 : lw_okq (⟨"StartBench$Doing", "runStart", "(III)I"⟩, 7) := ⟨⟨by decide +kernel, by decide +kernel⟩, List.mem_of_getElem? (i := 429) (by decide +kernel), List.mem_of_getElem? (i := 484) (by decide +kernel), List.mem_of_getElem? (i := 485) (by decide +kernel)⟩
theorem lw_p13 : lw_okq (⟨"StartBench$Doing", "runBody", "(LStartBench$Body;II)I"⟩, 7) := ⟨⟨by decide +kernel, by decide +kernel⟩, List.mem_of_getElem? (i := 429) (by decide +kernel), List.mem_of_getElem? (i := 492) (by decide +kernel), List.mem_of_getElem? (i := 493) (by decide +kernel)⟩
theorem lw_p14 : lw_okq (⟨"StartBench$Doing", "takeFailure", "(LStartBench$Body;III)I"⟩, 7) := ⟨⟨by decide +kernel, by decide +kernel⟩, List.mem_of_getElem? (i := 429) (by decide +kernel), List.mem_of_getElem? (i := 499) (by decide +kernel), List.mem_of_getElem? (i := 500) (by decide +kernel)⟩
theorem lw_p15 : lw_okq (⟨"StartBench$Doing", "putThrough", "(LStartBench$Action;)V"⟩, 7) := ⟨⟨by decide +kernel, by decide +kernel⟩, List.mem_of_getElem? (i := 429) (by decide +kernel), List.mem_of_getElem? (i := 508) (by decide +kernel), List.mem_of_getElem? (i := 509) (by decide +kernel)⟩
def lw_privs_1 : List (MethodName × Nat) := [(⟨"StartBench", "addType", "(ZZI)I"⟩, 4), (⟨"StartBench", "refusalOfMember", "(II)I"⟩, 4), (⟨"StartBench$Description", "seekField", "(III)I"⟩, 7), (⟨"StartBench$Description", "addAsked", "(I)V"⟩, 7), (⟨"StartBench$Description", "addFirst", "(LStartBench$Type;IJI)J"⟩, 7), (⟨"StartBench$Description", "startedByField", "(LStartBench$Action;)I"⟩, 7), (⟨"StartBench", "refusalOfTouch", "(IIII)I"⟩, 4), (⟨"StartBench", "isWorld", "(I)Z"⟩, 4), (⟨"StartBench$Doing", "perform", "(LStartBench$Action;II)I"⟩, 7), (⟨"StartBench$Doing", "arise", "(II)I"⟩, 7), (⟨"StartBench$Doing", "startType", "(III)I"⟩, 7), (⟨"StartBench$Doing", "startFirsts", "(LStartBench$Type;II)I"⟩, 7), (⟨"StartBench$Doing", "runStart", "(III)I"⟩, 7), (⟨"StartBench$Doing", "runBody", "(LStartBench$Body;II)I"⟩, 7), (⟨"StartBench$Doing", "takeFailure", "(LStartBench$Body;III)I"⟩, 7), (⟨"StartBench$Doing", "putThrough", "(LStartBench$Action;)V"⟩, 7)]
theorem lw_r1 : ∀ q ∈ lw_privs_1, lw_okq q := List.forall_mem_cons.mpr ⟨lw_p0, List.forall_mem_cons.mpr ⟨lw_p1, List.forall_mem_cons.mpr ⟨lw_p2, List.forall_mem_cons.mpr ⟨lw_p3, List.forall_mem_cons.mpr ⟨lw_p4, List.forall_mem_cons.mpr ⟨lw_p5, List.forall_mem_cons.mpr ⟨lw_p6, List.forall_mem_cons.mpr ⟨lw_p7, List.forall_mem_cons.mpr ⟨lw_p8, List.forall_mem_cons.mpr ⟨lw_p9, List.forall_mem_cons.mpr ⟨lw_p10, List.forall_mem_cons.mpr ⟨lw_p11, List.forall_mem_cons.mpr ⟨lw_p12, List.forall_mem_cons.mpr ⟨lw_p13, List.forall_mem_cons.mpr ⟨lw_p14, List.forall_mem_cons.mpr ⟨lw_p15, fun _ h => absurd h List.not_mem_nil⟩⟩⟩⟩⟩⟩⟩⟩⟩⟩⟩⟩⟩⟩⟩⟩
theorem lw_p16 : lw_okq (⟨"StartBenchModel", "isType", "(I)Z"⟩, 58) := ⟨⟨by decide +kernel, by decide +kernel⟩, List.mem_of_getElem? (i := 565) (by decide +kernel), List.mem_of_getElem? (i := 751) (by decide +kernel), List.mem_of_getElem? (i := 752) (by decide +kernel)⟩
theorem lw_p17 : lw_okq (⟨"StartBenchModel", "make", "(ZZI)I"⟩, 58) := ⟨⟨by decide +kernel, by decide +kernel⟩, List.mem_of_getElem? (i := 565) (by decide +kernel), List.mem_of_getElem? (i := 758) (by decide +kernel), List.mem_of_getElem? (i := 759) (by decide +kernel)⟩
theorem lw_p18 : lw_okq (⟨"StartBenchModel", "leads", "(II)Z"⟩, 58) := ⟨⟨by decide +kernel, by decide +kernel⟩, List.mem_of_getElem? (i := 565) (by decide +kernel), List.mem_of_getElem? (i := 770) (by decide +kernel), List.mem_of_getElem? (i := 771) (by decide +kernel)⟩
theorem lw_p19 : lw_okq (⟨"StartBenchModel", "ownField", "(II)I"⟩, 58) := ⟨⟨by decide +kernel, by decide +kernel⟩, List.mem_of_getElem? (i := 565) (by decide +kernel), List.mem_of_getElem? (i := 778) (by decide +kernel), List.mem_of_getElem? (i := 779) (by decide +kernel)⟩
theorem lw_p20 : lw_okq (⟨"StartBenchModel", "ownMethod", "(II)I"⟩, 58) := ⟨⟨by decide +kernel, by decide +kernel⟩, List.mem_of_getElem? (i := 565) (by decide +kernel), List.mem_of_getElem? (i := 786) (by decide +kernel), List.mem_of_getElem? (i := 787) (by decide +kernel)⟩
theorem lw_p21 : lw_okq (⟨"StartBenchModel", "findMethod", "(II)I"⟩, 58) := ⟨⟨by decide +kernel, by decide +kernel⟩, List.mem_of_getElem? (i := 565) (by decide +kernel), List.mem_of_getElem? (i := 806) (by decide +kernel), List.mem_of_getElem? (i := 807) (by decide +kernel)⟩
theorem lw_p22 : lw_okq (⟨"StartBenchModel", "findField", "(II)I"⟩, 58) := ⟨⟨by decide +kernel, by decide +kernel⟩, List.mem_of_getElem? (i := 565) (by decide +kernel), List.mem_of_getElem? (i := 810) (by decide +kernel), List.mem_of_getElem? (i := 811) (by decide +kernel)⟩
theorem lw_p23 : lw_okq (⟨"StartBenchModel", "listAsked", "(I)V"⟩, 58) := ⟨⟨by decide +kernel, by decide +kernel⟩, List.mem_of_getElem? (i := 565) (by decide +kernel), List.mem_of_getElem? (i := 818) (by decide +kernel), List.mem_of_getElem? (i := 819) (by decide +kernel)⟩
theorem lw_p24 : lw_okq (⟨"StartBenchModel", "listFirst", "(I)V"⟩, 58) := ⟨⟨by decide +kernel, by decide +kernel⟩, List.mem_of_getElem? (i := 565) (by decide +kernel), List.mem_of_getElem? (i := 822) (by decide +kernel), List.mem_of_getElem? (i := 823) (by decide +kernel)⟩
theorem lw_p25 : lw_okq (⟨"StartBenchModel", "addAsked", "(II)V"⟩, 58) := ⟨⟨by decide +kernel, by decide +kernel⟩, List.mem_of_getElem? (i := 565) (by decide +kernel), List.mem_of_getElem? (i := 826) (by decide +kernel), List.mem_of_getElem? (i := 827) (by decide +kernel)⟩
theorem lw_p26 : lw_okq (⟨"StartBenchModel", "started", "(III)I"⟩, 58) := ⟨⟨by decide +kernel, by decide +kernel⟩, List.mem_of_getElem? (i := 565) (by decide +kernel), List.mem_of_getElem? (i := 830) (by decide +kernel), List.mem_of_getElem? (i := 831) (by decide +kernel)⟩
theorem lw_p27 : lw_okq (⟨"StartBenchModel", "isRuled", "(III)Z"⟩, 58) := ⟨⟨by decide +kernel, by decide +kernel⟩, List.mem_of_getElem? (i := 565) (by decide +kernel), List.mem_of_getElem? (i := 834) (by decide +kernel), List.mem_of_getElem? (i := 835) (by decide +kernel)⟩
theorem lw_p28 : lw_okq (⟨"StartBenchModel", "isRound", "(I)Z"⟩, 58) := ⟨⟨by decide +kernel, by decide +kernel⟩, List.mem_of_getElem? (i := 565) (by decide +kernel), List.mem_of_getElem? (i := 842) (by decide +kernel), List.mem_of_getElem? (i := 843) (by decide +kernel)⟩
theorem lw_p29 : lw_okq (⟨"StartBenchModel", "refusal", "(IIII)I"⟩, 58) := ⟨⟨by decide +kernel, by decide +kernel⟩, List.mem_of_getElem? (i := 565) (by decide +kernel), List.mem_of_getElem? (i := 858) (by decide +kernel), List.mem_of_getElem? (i := 859) (by decide +kernel)⟩
theorem lw_p30 : lw_okq (⟨"StartBenchModel", "isWorld", "(I)Z"⟩, 58) := ⟨⟨by decide +kernel, by decide +kernel⟩, List.mem_of_getElem? (i := 565) (by decide +kernel), List.mem_of_getElem? (i := 862) (by decide +kernel), List.mem_of_getElem? (i := 863) (by decide +kernel)⟩
theorem lw_p31 : lw_okq (⟨"StartBenchModel", "copy", "(II)V"⟩, 58) := ⟨⟨by decide +kernel, by decide +kernel⟩, List.mem_of_getElem? (i := 565) (by decide +kernel), List.mem_of_getElem? (i := 866) (by decide +kernel), List.mem_of_getElem? (i := 867) (by decide +kernel)⟩
def lw_privs_2 : List (MethodName × Nat) := [(⟨"StartBenchModel", "isType", "(I)Z"⟩, 58), (⟨"StartBenchModel", "make", "(ZZI)I"⟩, 58), (⟨"StartBenchModel", "leads", "(II)Z"⟩, 58), (⟨"StartBenchModel", "ownField", "(II)I"⟩, 58), (⟨"StartBenchModel", "ownMethod", "(II)I"⟩, 58), (⟨"StartBenchModel", "findMethod", "(II)I"⟩, 58), (⟨"StartBenchModel", "findField", "(II)I"⟩, 58), (⟨"StartBenchModel", "listAsked", "(I)V"⟩, 58), (⟨"StartBenchModel", "listFirst", "(I)V"⟩, 58), (⟨"StartBenchModel", "addAsked", "(II)V"⟩, 58), (⟨"StartBenchModel", "started", "(III)I"⟩, 58), (⟨"StartBenchModel", "isRuled", "(III)Z"⟩, 58), (⟨"StartBenchModel", "isRound", "(I)Z"⟩, 58), (⟨"StartBenchModel", "refusal", "(IIII)I"⟩, 58), (⟨"StartBenchModel", "isWorld", "(I)Z"⟩, 58), (⟨"StartBenchModel", "copy", "(II)V"⟩, 58)]
theorem lw_r2 : ∀ q ∈ lw_privs_2, lw_okq q := List.forall_mem_cons.mpr ⟨lw_p16, List.forall_mem_cons.mpr ⟨lw_p17, List.forall_mem_cons.mpr ⟨lw_p18, List.forall_mem_cons.mpr ⟨lw_p19, List.forall_mem_cons.mpr ⟨lw_p20, List.forall_mem_cons.mpr ⟨lw_p21, List.forall_mem_cons.mpr ⟨lw_p22, List.forall_mem_cons.mpr ⟨lw_p23, List.forall_mem_cons.mpr ⟨lw_p24, List.forall_mem_cons.mpr ⟨lw_p25, List.forall_mem_cons.mpr ⟨lw_p26, List.forall_mem_cons.mpr ⟨lw_p27, List.forall_mem_cons.mpr ⟨lw_p28, List.forall_mem_cons.mpr ⟨lw_p29, List.forall_mem_cons.mpr ⟨lw_p30, List.forall_mem_cons.mpr ⟨lw_p31, fun _ h => absurd h List.not_mem_nil⟩⟩⟩⟩⟩⟩⟩⟩⟩⟩⟩⟩⟩⟩⟩⟩
theorem lw_p32 : lw_okq (⟨"StartBenchModel", "go", "(IIIII)V"⟩, 58) := ⟨⟨by decide +kernel, by decide +kernel⟩, List.mem_of_getElem? (i := 565) (by decide +kernel), List.mem_of_getElem? (i := 870) (by decide +kernel), List.mem_of_getElem? (i := 871) (by decide +kernel)⟩
theorem lw_p33 : lw_okq (⟨"StartBenchModel", "goDown", "()V"⟩, 58) := ⟨⟨by decide +kernel, by decide +kernel⟩, List.mem_of_getElem? (i := 565) (by decide +kernel), List.mem_of_getElem? (i := 874) (by decide +kernel), List.mem_of_getElem? (i := 875) (by decide +kernel)⟩
theorem lw_p34 : lw_okq (⟨"StartBenchModel", "fail", "(II)V"⟩, 58) := ⟨⟨by decide +kernel, by decide +kernel⟩, List.mem_of_getElem? (i := 565) (by decide +kernel), List.mem_of_getElem? (i := 878) (by decide +kernel), List.mem_of_getElem? (i := 879) (by decide +kernel)⟩
theorem lw_p35 : lw_okq (⟨"StartBenchModel", "onTape", "(I)V"⟩, 58) := ⟨⟨by decide +kernel, by decide +kernel⟩, List.mem_of_getElem? (i := 565) (by decide +kernel), List.mem_of_getElem? (i := 882) (by decide +kernel), List.mem_of_getElem? (i := 883) (by decide +kernel)⟩
theorem lw_p36 : lw_okq (⟨"StartBenchModel", "did", "(I)V"⟩, 58) := ⟨⟨by decide +kernel, by decide +kernel⟩, List.mem_of_getElem? (i := 565) (by decide +kernel), List.mem_of_getElem? (i := 886) (by decide +kernel), List.mem_of_getElem? (i := 887) (by decide +kernel)⟩
theorem lw_p37 : lw_okq (⟨"StartBenchModel", "goOnStart", "()V"⟩, 58) := ⟨⟨by decide +kernel, by decide +kernel⟩, List.mem_of_getElem? (i := 565) (by decide +kernel), List.mem_of_getElem? (i := 890) (by decide +kernel), List.mem_of_getElem? (i := 891) (by decide +kernel)⟩
theorem lw_p38 : lw_okq (⟨"StartBenchModel", "start", "(I)V"⟩, 58) := ⟨⟨by decide +kernel, by decide +kernel⟩, List.mem_of_getElem? (i := 565) (by decide +kernel), List.mem_of_getElem? (i := 894) (by decide +kernel), List.mem_of_getElem? (i := 895) (by decide +kernel)⟩
theorem lw_p39 : lw_okq (⟨"StartBenchModel", "pushBody", "(I)V"⟩, 58) := ⟨⟨by decide +kernel, by decide +kernel⟩, List.mem_of_getElem? (i := 565) (by decide +kernel), List.mem_of_getElem? (i := 898) (by decide +kernel), List.mem_of_getElem? (i := 899) (by decide +kernel)⟩
theorem lw_p40 : lw_okq (⟨"StartBenchModel", "goOnBody", "()V"⟩, 58) := ⟨⟨by decide +kernel, by decide +kernel⟩, List.mem_of_getElem? (i := 565) (by decide +kernel), List.mem_of_getElem? (i := 902) (by decide +kernel), List.mem_of_getElem? (i := 903) (by decide +kernel)⟩
theorem lw_p41 : lw_okq (⟨"StartBenchModel", "goBehind", "(I)V"⟩, 58) := ⟨⟨by decide +kernel, by decide +kernel⟩, List.mem_of_getElem? (i := 565) (by decide +kernel), List.mem_of_getElem? (i := 906) (by decide +kernel), List.mem_of_getElem? (i := 907) (by decide +kernel)⟩
theorem lw_p42 : lw_okq (⟨"StartBenchModel", "typeAt", "(I)I"⟩, 58) := ⟨⟨by decide +kernel, by decide +kernel⟩, List.mem_of_getElem? (i := 565) (by decide +kernel), List.mem_of_getElem? (i := 910) (by decide +kernel), List.mem_of_getElem? (i := 911) (by decide +kernel)⟩
theorem lw_p43 : lw_okq (⟨"StartBenchModel", "nameAt", "(I)I"⟩, 58) := ⟨⟨by decide +kernel, by decide +kernel⟩, List.mem_of_getElem? (i := 565) (by decide +kernel), List.mem_of_getElem? (i := 914) (by decide +kernel), List.mem_of_getElem? (i := 915) (by decide +kernel)⟩
theorem lw_p44 : lw_okq (⟨"StartBenchModel", "valueAt", "(I)I"⟩, 58) := ⟨⟨by decide +kernel, by decide +kernel⟩, List.mem_of_getElem? (i := 565) (by decide +kernel), List.mem_of_getElem? (i := 918) (by decide +kernel), List.mem_of_getElem? (i := 919) (by decide +kernel)⟩
theorem lw_p45 : lw_okq (⟨"StartBenchModel", "kindAt", "(I)I"⟩, 58) := ⟨⟨by decide +kernel, by decide +kernel⟩, List.mem_of_getElem? (i := 565) (by decide +kernel), List.mem_of_getElem? (i := 922) (by decide +kernel), List.mem_of_getElem? (i := 923) (by decide +kernel)⟩
theorem lw_p46 : lw_okq (⟨"StartBenchModel", "sizeOf", "(I)I"⟩, 58) := ⟨⟨by decide +kernel, by decide +kernel⟩, List.mem_of_getElem? (i := 565) (by decide +kernel), List.mem_of_getElem? (i := 926) (by decide +kernel), List.mem_of_getElem? (i := 927) (by decide +kernel)⟩
theorem lw_p47 : lw_okq (⟨"StartBenchModel", "cameTo", "()I"⟩, 58) := ⟨⟨by decide +kernel, by decide +kernel⟩, List.mem_of_getElem? (i := 565) (by decide +kernel), List.mem_of_getElem? (i := 930) (by decide +kernel), List.mem_of_getElem? (i := 931) (by decide +kernel)⟩
def lw_privs_3 : List (MethodName × Nat) := [(⟨"StartBenchModel", "go", "(IIIII)V"⟩, 58), (⟨"StartBenchModel", "goDown", "()V"⟩, 58), (⟨"StartBenchModel", "fail", "(II)V"⟩, 58), (⟨"StartBenchModel", "onTape", "(I)V"⟩, 58), (⟨"StartBenchModel", "did", "(I)V"⟩, 58), (⟨"StartBenchModel", "goOnStart", "()V"⟩, 58), (⟨"StartBenchModel", "start", "(I)V"⟩, 58), (⟨"StartBenchModel", "pushBody", "(I)V"⟩, 58), (⟨"StartBenchModel", "goOnBody", "()V"⟩, 58), (⟨"StartBenchModel", "goBehind", "(I)V"⟩, 58), (⟨"StartBenchModel", "typeAt", "(I)I"⟩, 58), (⟨"StartBenchModel", "nameAt", "(I)I"⟩, 58), (⟨"StartBenchModel", "valueAt", "(I)I"⟩, 58), (⟨"StartBenchModel", "kindAt", "(I)I"⟩, 58), (⟨"StartBenchModel", "sizeOf", "(I)I"⟩, 58), (⟨"StartBenchModel", "cameTo", "()I"⟩, 58)]
theorem lw_r3 : ∀ q ∈ lw_privs_3, lw_okq q := List.forall_mem_cons.mpr ⟨lw_p32, List.forall_mem_cons.mpr ⟨lw_p33, List.forall_mem_cons.mpr ⟨lw_p34, List.forall_mem_cons.mpr ⟨lw_p35, List.forall_mem_cons.mpr ⟨lw_p36, List.forall_mem_cons.mpr ⟨lw_p37, List.forall_mem_cons.mpr ⟨lw_p38, List.forall_mem_cons.mpr ⟨lw_p39, List.forall_mem_cons.mpr ⟨lw_p40, List.forall_mem_cons.mpr ⟨lw_p41, List.forall_mem_cons.mpr ⟨lw_p42, List.forall_mem_cons.mpr ⟨lw_p43, List.forall_mem_cons.mpr ⟨lw_p44, List.forall_mem_cons.mpr ⟨lw_p45, List.forall_mem_cons.mpr ⟨lw_p46, List.forall_mem_cons.mpr ⟨lw_p47, fun _ h => absurd h List.not_mem_nil⟩⟩⟩⟩⟩⟩⟩⟩⟩⟩⟩⟩⟩⟩⟩⟩
def lw_privs : List (MethodName × Nat) := lw_privs_1 ++ (lw_privs_2 ++ (lw_privs_3))
def lw_tbl : List Cond := k2_sels lw_privs ++ tables_1
theorem lw_privs_ok : ∀ q ∈ lw_privs, lw_okq q := by
  show ∀ q ∈ lw_privs_1 ++ (lw_privs_2 ++ (lw_privs_3)), lw_okq q
  exact List.forall_mem_append.mpr ⟨lw_r1, List.forall_mem_append.mpr ⟨lw_r2, lw_r3⟩⟩

/-! ===== BEGIN printed: names, fields, word lists, decode rows ===== -/
def RX0 : String := "StartBench$Action"
def TX0 : u_T := fun k => match k with
  | 0 => ("StartBench$Action", "kind", "I", true)
  | 1 => ("StartBench$Action", "type", "I", true)
  | 2 => ("StartBench$Action", "name", "I", true)
  | _ => ("StartBench$Action", "value", "I", true)
def tyX0 : Nat → FieldType := fun k => match k with
  | 0 => .int
  | 1 => .int
  | 2 => .int
  | _ => .int
theorem nmX0 : ∀ a, a < 4 → ∀ b, b < 4 → a ≠ b → (TX0 a).2.1 ≠ (TX0 b).2.1 := by decide +kernel
theorem tyX0_ok : ∀ k, k < 4 → parseFieldDescriptor (TX0 k).2.2.1 = some (tyX0 k) := by decide +kernel
abbrev cX0_init : ByteArray := prog_2_method_1_code
def yX0_init : MethodName := ⟨RX0, "<init>", "(IIII)V"⟩
def RX1 : String := "StartBench$Body"
def TX1 : u_T := fun k => match k with
  | 0 => ("StartBench$Body", "actions", "[LStartBench$Action;", true)
  | _ => ("StartBench$Body", "size", "I", false)
def tyX1 : Nat → FieldType := fun k => match k with
  | 0 => .array (.object "StartBench$Action")
  | _ => .int
theorem nmX1 : ∀ a, a < 2 → ∀ b, b < 2 → a ≠ b → (TX1 a).2.1 ≠ (TX1 b).2.1 := by decide +kernel
theorem tyX1_ok : ∀ k, k < 2 → parseFieldDescriptor (TX1 k).2.2.1 = some (tyX1 k) := by decide +kernel
abbrev cX1_init : ByteArray := prog_3_method_1_code
def yX1_init : MethodName := ⟨RX1, "<init>", "()V"⟩
abbrev cX1_append : ByteArray := prog_3_method_2_code
def yX1_append : MethodName := ⟨RX1, "append", "(LStartBench$Action;)I"⟩
def RX2 : String := "StartBench$Description"
def TX2 : u_T := fun k => match k with
  | 0 => ("StartBench$Description", "types", "[LStartBench$Type;", true)
  | 1 => ("StartBench$Description", "count", "I", false)
  | 2 => ("StartBench$Description", "fieldOwners", "[I", true)
  | 3 => ("StartBench$Description", "asked", "[I", true)
  | 4 => ("StartBench$Description", "askedCount", "I", false)
  | 5 => ("StartBench$Description", "askedBits", "J", false)
  | _ => ("StartBench$Description", "ways", "[J", true)
def tyX2 : Nat → FieldType := fun k => match k with
  | 0 => .array (.object "StartBench$Type")
  | 1 => .int
  | 2 => .array .int
  | 3 => .array .int
  | 4 => .int
  | 5 => .long
  | _ => .array .long
theorem nmX2 : ∀ a, a < 7 → ∀ b, b < 7 → a ≠ b → (TX2 a).2.1 ≠ (TX2 b).2.1 := by decide +kernel
theorem tyX2_ok : ∀ k, k < 7 → parseFieldDescriptor (TX2 k).2.2.1 = some (tyX2 k) := by decide +kernel
abbrev cX2_init : ByteArray := prog_4_method_1_code
def yX2_init : MethodName := ⟨RX2, "<init>", "()V"⟩
abbrev cX2_knows : ByteArray := prog_4_method_2_code
def yX2_knows : MethodName := ⟨RX2, "knows", "(I)Z"⟩
abbrev cX2_append : ByteArray := prog_4_method_3_code
def yX2_append : MethodName := ⟨RX2, "append", "(LStartBench$Type;)I"⟩
abbrev cX2_leadsTo : ByteArray := prog_4_method_4_code
def yX2_leadsTo : MethodName := ⟨RX2, "leadsTo", "(II)Z"⟩
abbrev cX2_countLeading : ByteArray := prog_4_method_5_code
def yX2_countLeading : MethodName := ⟨RX2, "countLeading", "(I)I"⟩
abbrev cX2_putUnder : ByteArray := prog_4_method_6_code
def yX2_putUnder : MethodName := ⟨RX2, "putUnder", "(II)V"⟩
abbrev cX2_forgetFields : ByteArray := prog_4_method_7_code
def yX2_forgetFields : MethodName := ⟨RX2, "forgetFields", "()V"⟩
abbrev cX2_fieldOwner : ByteArray := prog_4_method_8_code
def yX2_fieldOwner : MethodName := ⟨RX2, "fieldOwner", "(II)I"⟩
abbrev cX2_seekField : ByteArray := prog_4_method_9_code
def yX2_seekField : MethodName := ⟨RX2, "seekField", "(III)I"⟩
abbrev cX2_methodOwner : ByteArray := prog_4_method_10_code
def yX2_methodOwner : MethodName := ⟨RX2, "methodOwner", "(II)I"⟩
abbrev cX2_valueOf : ByteArray := prog_4_method_11_code
def yX2_valueOf : MethodName := ⟨RX2, "valueOf", "(LStartBench$World;II)I"⟩
abbrev cX2_startedBy : ByteArray := prog_4_method_12_code
def yX2_startedBy : MethodName := ⟨RX2, "startedBy", "(LStartBench$Action;)I"⟩
abbrev cX2_startedByField : ByteArray := prog_4_method_13_code
def yX2_startedByField : MethodName := ⟨RX2, "startedByField", "(LStartBench$Action;)I"⟩
abbrev cX2_orderFirsts : ByteArray := prog_4_method_14_code
def yX2_orderFirsts : MethodName := ⟨RX2, "orderFirsts", "(LStartBench$Type;)V"⟩
abbrev cX2_addFirst : ByteArray := prog_4_method_15_code
def yX2_addFirst : MethodName := ⟨RX2, "addFirst", "(LStartBench$Type;IJI)J"⟩
abbrev cX2_listAsked : ByteArray := prog_4_method_16_code
def yX2_listAsked : MethodName := ⟨RX2, "listAsked", "(I)V"⟩
abbrev cX2_addAsked : ByteArray := prog_4_method_17_code
def yX2_addAsked : MethodName := ⟨RX2, "addAsked", "(I)V"⟩
abbrev cX2_inRound : ByteArray := prog_4_method_18_code
def yX2_inRound : MethodName := ⟨RX2, "inRound", "(I)I"⟩
def RX3 : String := "StartBench$Doing"
def TX3 : u_T := fun k => match k with
  | 0 => ("StartBench$Doing", "description", "LStartBench$Description;", true)
  | 1 => ("StartBench$Doing", "world", "LStartBench$World;", true)
  | 2 => ("StartBench$Doing", "actions", "I", false)
  | 3 => ("StartBench$Doing", "mostBodies", "I", false)
  | 4 => ("StartBench$Doing", "failures", "I", false)
  | 5 => ("StartBench$Doing", "starts", "I", false)
  | _ => ("StartBench$Doing", "failureOf", "I", false)
def tyX3 : Nat → FieldType := fun k => match k with
  | 0 => .object "StartBench$Description"
  | 1 => .object "StartBench$World"
  | 2 => .int
  | 3 => .int
  | 4 => .int
  | 5 => .int
  | _ => .int
theorem nmX3 : ∀ a, a < 7 → ∀ b, b < 7 → a ≠ b → (TX3 a).2.1 ≠ (TX3 b).2.1 := by decide +kernel
theorem tyX3_ok : ∀ k, k < 7 → parseFieldDescriptor (TX3 k).2.2.1 = some (tyX3 k) := by decide +kernel
abbrev cX3_init : ByteArray := prog_5_method_1_code
def yX3_init : MethodName := ⟨RX3, "<init>", "(LStartBench$Description;LStartBench$World;)V"⟩
abbrev cX3_doTouch : ByteArray := prog_5_method_2_code
def yX3_doTouch : MethodName := ⟨RX3, "doTouch", "(LStartBench$Action;)I"⟩
abbrev cX3_perform : ByteArray := prog_5_method_3_code
def yX3_perform : MethodName := ⟨RX3, "perform", "(LStartBench$Action;II)I"⟩
abbrev cX3_putThrough : ByteArray := prog_5_method_4_code
def yX3_putThrough : MethodName := ⟨RX3, "putThrough", "(LStartBench$Action;)V"⟩
abbrev cX3_arise : ByteArray := prog_5_method_5_code
def yX3_arise : MethodName := ⟨RX3, "arise", "(II)I"⟩
abbrev cX3_startType : ByteArray := prog_5_method_6_code
def yX3_startType : MethodName := ⟨RX3, "startType", "(III)I"⟩
abbrev cX3_startFirsts : ByteArray := prog_5_method_7_code
def yX3_startFirsts : MethodName := ⟨RX3, "startFirsts", "(LStartBench$Type;II)I"⟩
abbrev cX3_runStart : ByteArray := prog_5_method_8_code
def yX3_runStart : MethodName := ⟨RX3, "runStart", "(III)I"⟩
abbrev cX3_runBody : ByteArray := prog_5_method_9_code
def yX3_runBody : MethodName := ⟨RX3, "runBody", "(LStartBench$Body;II)I"⟩
abbrev cX3_takeFailure : ByteArray := prog_5_method_10_code
def yX3_takeFailure : MethodName := ⟨RX3, "takeFailure", "(LStartBench$Body;III)I"⟩
def RX4 : String := "StartBench$Type"
def TX4 : u_T := fun k => match k with
  | 0 => ("StartBench$Type", "isFace", "Z", true)
  | 1 => ("StartBench$Type", "special", "Z", true)
  | 2 => ("StartBench$Type", "above", "I", true)
  | 3 => ("StartBench$Type", "faces", "[I", true)
  | 4 => ("StartBench$Type", "faceCount", "I", false)
  | 5 => ("StartBench$Type", "leads", "J", false)
  | 6 => ("StartBench$Type", "fieldKinds", "[I", true)
  | 7 => ("StartBench$Type", "constants", "[I", true)
  | 8 => ("StartBench$Type", "fieldCount", "I", false)
  | 9 => ("StartBench$Type", "methods", "[LStartBench$Body;", true)
  | 10 => ("StartBench$Type", "methodCount", "I", false)
  | 11 => ("StartBench$Type", "start", "LStartBench$Body;", true)
  | 12 => ("StartBench$Type", "firsts", "[I", true)
  | _ => ("StartBench$Type", "firstCount", "I", false)
def tyX4 : Nat → FieldType := fun k => match k with
  | 0 => .boolean
  | 1 => .boolean
  | 2 => .int
  | 3 => .array .int
  | 4 => .int
  | 5 => .long
  | 6 => .array .int
  | 7 => .array .int
  | 8 => .int
  | 9 => .array (.object "StartBench$Body")
  | 10 => .int
  | 11 => .object "StartBench$Body"
  | 12 => .array .int
  | _ => .int
theorem nmX4 : ∀ a, a < 14 → ∀ b, b < 14 → a ≠ b → (TX4 a).2.1 ≠ (TX4 b).2.1 := by decide +kernel
theorem tyX4_ok : ∀ k, k < 14 → parseFieldDescriptor (TX4 k).2.2.1 = some (tyX4 k) := by decide +kernel
abbrev cX4_init : ByteArray := prog_6_method_1_code
def yX4_init : MethodName := ⟨RX4, "<init>", "(ZZI)V"⟩
abbrev cX4_isUnder : ByteArray := prog_6_method_2_code
def yX4_isUnder : MethodName := ⟨RX4, "isUnder", "(I)Z"⟩
abbrev cX4_addField : ByteArray := prog_6_method_3_code
def yX4_addField : MethodName := ⟨RX4, "addField", "(IZI)V"⟩
abbrev cX4_addMethod : ByteArray := prog_6_method_4_code
def yX4_addMethod : MethodName := ⟨RX4, "addMethod", "(I)V"⟩
abbrev cX4_bodyOf : ByteArray := prog_6_method_5_code
def yX4_bodyOf : MethodName := ⟨RX4, "bodyOf", "(I)LStartBench$Body;"⟩
abbrev cX4_tell : ByteArray := prog_6_method_6_code
def yX4_tell : MethodName := ⟨RX4, "tell", "(I)I"⟩
def RX5 : String := "StartBench$World"
def TX5 : u_T := fun k => match k with
  | 0 => ("StartBench$World", "states", "[I", true)
  | 1 => ("StartBench$World", "values", "[I", true)
  | 2 => ("StartBench$World", "kept", "[I", true)
  | 3 => ("StartBench$World", "tapeCount", "I", false)
  | 4 => ("StartBench$World", "row", "[I", true)
  | 5 => ("StartBench$World", "rowCount", "I", false)
  | 6 => ("StartBench$World", "failure", "I", false)
  | 7 => ("StartBench$World", "failureOf", "I", false)
  | _ => ("StartBench$World", "account", "[I", true)
def tyX5 : Nat → FieldType := fun k => match k with
  | 0 => .array .int
  | 1 => .array .int
  | 2 => .array .int
  | 3 => .int
  | 4 => .array .int
  | 5 => .int
  | 6 => .int
  | 7 => .int
  | _ => .array .int
theorem nmX5 : ∀ a, a < 9 → ∀ b, b < 9 → a ≠ b → (TX5 a).2.1 ≠ (TX5 b).2.1 := by decide +kernel
theorem tyX5_ok : ∀ k, k < 9 → parseFieldDescriptor (TX5 k).2.2.1 = some (tyX5 k) := by decide +kernel
abbrev cX5_init : ByteArray := prog_7_method_1_code
def yX5_init : MethodName := ⟨RX5, "<init>", "()V"⟩
abbrev cX5_clear : ByteArray := prog_7_method_2_code
def yX5_clear : MethodName := ⟨RX5, "clear", "()V"⟩
abbrev cX5_takeStateOf : ByteArray := prog_7_method_3_code
def yX5_takeStateOf : MethodName := ⟨RX5, "takeStateOf", "(LStartBench$World;)V"⟩
abbrev cX5_putOnTape : ByteArray := prog_7_method_4_code
def yX5_putOnTape : MethodName := ⟨RX5, "putOnTape", "(I)V"⟩
abbrev cX5_putInRow : ByteArray := prog_7_method_5_code
def yX5_putInRow : MethodName := ⟨RX5, "putInRow", "(I)V"⟩
abbrev cX5_keepAccount : ByteArray := prog_7_method_6_code
def yX5_keepAccount : MethodName := ⟨RX5, "keepAccount", "(LStartBench$Doing;I)V"⟩
abbrev cX5_sameIn : ByteArray := prog_7_method_7_code
def yX5_sameIn : MethodName := ⟨RX5, "sameIn", "(LStartBench$World;I)Z"⟩
def RX6 : String := "StartBench"
def TX6 : u_T := fun k => match k with
  | 0 => ("StartBench", "description", "LStartBench$Description;", true)
  | 1 => ("StartBench", "worlds", "[LStartBench$World;", true)
  | 2 => ("StartBench", "worldCount", "I", false)
  | _ => ("StartBench", "ahead", "LStartBench$World;", true)
def tyX6 : Nat → FieldType := fun k => match k with
  | 0 => .object "StartBench$Description"
  | 1 => .array (.object "StartBench$World")
  | 2 => .int
  | _ => .object "StartBench$World"
theorem nmX6 : ∀ a, a < 4 → ∀ b, b < 4 → a ≠ b → (TX6 a).2.1 ≠ (TX6 b).2.1 := by decide +kernel
theorem tyX6_ok : ∀ k, k < 4 → parseFieldDescriptor (TX6 k).2.2.1 = some (tyX6 k) := by decide +kernel
abbrev cX6_init : ByteArray := prog_1_method_1_code
def yX6_init : MethodName := ⟨RX6, "<init>", "()V"⟩
abbrev cX6_cls : ByteArray := prog_1_method_2_code
def yX6_cls : MethodName := ⟨RX6, "cls", "(IZ)I"⟩
abbrev cX6_face : ByteArray := prog_1_method_3_code
def yX6_face : MethodName := ⟨RX6, "face", "(Z)I"⟩
abbrev cX6_addType : ByteArray := prog_1_method_4_code
def yX6_addType : MethodName := ⟨RX6, "addType", "(ZZI)I"⟩
abbrev cX6_under : ByteArray := prog_1_method_5_code
def yX6_under : MethodName := ⟨RX6, "under", "(II)I"⟩
abbrev cX6_field : ByteArray := prog_1_method_6_code
def yX6_field : MethodName := ⟨RX6, "field", "(IIZI)I"⟩
abbrev cX6_method : ByteArray := prog_1_method_7_code
def yX6_method : MethodName := ⟨RX6, "method", "(II)I"⟩
abbrev cX6_refusalOfMember : ByteArray := prog_1_method_8_code
def yX6_refusalOfMember : MethodName := ⟨RX6, "refusalOfMember", "(II)I"⟩
abbrev cX6_act : ByteArray := prog_1_method_9_code
def yX6_act : MethodName := ⟨RX6, "act", "(IIIIII)I"⟩
abbrev cX6_told : ByteArray := prog_1_method_10_code
def yX6_told : MethodName := ⟨RX6, "told", "(II)I"⟩
abbrev cX6_below : ByteArray := prog_1_method_11_code
def yX6_below : MethodName := ⟨RX6, "below", "(II)I"⟩
abbrev cX6_found : ByteArray := prog_1_method_12_code
def yX6_found : MethodName := ⟨RX6, "found", "(IIZ)I"⟩
abbrev cX6_asks : ByteArray := prog_1_method_13_code
def yX6_asks : MethodName := ⟨RX6, "asks", "(II)I"⟩
abbrev cX6_round : ByteArray := prog_1_method_14_code
def yX6_round : MethodName := ⟨RX6, "round", "(I)I"⟩
abbrev cX6_world : ByteArray := prog_1_method_15_code
def yX6_world : MethodName := ⟨RX6, "world", "()I"⟩
abbrev cX6_gone : ByteArray := prog_1_method_16_code
def yX6_gone : MethodName := ⟨RX6, "gone", "()I"⟩
abbrev cX6_touch : ByteArray := prog_1_method_17_code
def yX6_touch : MethodName := ⟨RX6, "touch", "(IIIII)I"⟩
abbrev cX6_foretell : ByteArray := prog_1_method_18_code
def yX6_foretell : MethodName := ⟨RX6, "foretell", "(IIIII)I"⟩
abbrev cX6_refusalOfTouch : ByteArray := prog_1_method_19_code
def yX6_refusalOfTouch : MethodName := ⟨RX6, "refusalOfTouch", "(IIII)I"⟩
abbrev cX6_comesTo : ByteArray := prog_1_method_20_code
def yX6_comesTo : MethodName := ⟨RX6, "comesTo", "(I)I"⟩
abbrev cX6_state : ByteArray := prog_1_method_21_code
def yX6_state : MethodName := ⟨RX6, "state", "(II)I"⟩
abbrev cX6_began : ByteArray := prog_1_method_22_code
def yX6_began : MethodName := ⟨RX6, "began", "(II)I"⟩
abbrev cX6_tape : ByteArray := prog_1_method_23_code
def yX6_tape : MethodName := ⟨RX6, "tape", "(II)I"⟩
abbrev cX6_value : ByteArray := prog_1_method_24_code
def yX6_value : MethodName := ⟨RX6, "value", "(III)I"⟩
abbrev cX6_failed : ByteArray := prog_1_method_25_code
def yX6_failed : MethodName := ⟨RX6, "failed", "(II)I"⟩
abbrev cX6_spent : ByteArray := prog_1_method_26_code
def yX6_spent : MethodName := ⟨RX6, "spent", "(II)I"⟩
abbrev cX6_many : ByteArray := prog_1_method_27_code
def yX6_many : MethodName := ⟨RX6, "many", "(II)I"⟩
abbrev cX6_differs : ByteArray := prog_1_method_28_code
def yX6_differs : MethodName := ⟨RX6, "differs", "(II)I"⟩
abbrev cX6_isWorld : ByteArray := prog_1_method_29_code
def yX6_isWorld : MethodName := ⟨RX6, "isWorld", "(I)Z"⟩
abbrev cX6_isName : ByteArray := prog_1_method_30_code
def yX6_isName : MethodName := ⟨RX6, "isName", "(I)Z"⟩
abbrev cX6_usesType : ByteArray := prog_1_method_31_code
def yX6_usesType : MethodName := ⟨RX6, "usesType", "(I)Z"⟩
abbrev cX6_usesName : ByteArray := prog_1_method_32_code
def yX6_usesName : MethodName := ⟨RX6, "usesName", "(I)Z"⟩
abbrev cX6_fitsValue : ByteArray := prog_1_method_33_code
def yX6_fitsValue : MethodName := ⟨RX6, "fitsValue", "(II)Z"⟩
def RX7 : String := "StartBenchModel"
def TX7 : u_T := fun k => match k with
  | 0 => ("StartBenchModel", "types", "I", false)
  | 1 => ("StartBenchModel", "isFace", "[Z", true)
  | 2 => ("StartBenchModel", "mark", "[Z", true)
  | 3 => ("StartBenchModel", "above", "[I", true)
  | 4 => ("StartBenchModel", "faces", "[I", true)
  | 5 => ("StartBenchModel", "face", "[I", true)
  | 6 => ("StartBenchModel", "fields", "[I", true)
  | 7 => ("StartBenchModel", "fieldName", "[I", true)
  | 8 => ("StartBenchModel", "isConstant", "[Z", true)
  | 9 => ("StartBenchModel", "constant", "[I", true)
  | 10 => ("StartBenchModel", "methods", "[I", true)
  | 11 => ("StartBenchModel", "methodName", "[I", true)
  | 12 => ("StartBenchModel", "size", "[I", true)
  | 13 => ("StartBenchModel", "kindOf", "[I", true)
  | 14 => ("StartBenchModel", "typeOf", "[I", true)
  | 15 => ("StartBenchModel", "nameOf", "[I", true)
  | 16 => ("StartBenchModel", "valueOf", "[I", true)
  | 17 => ("StartBenchModel", "worlds", "I", false)
  | 18 => ("StartBenchModel", "waits", "[I", true)
  | 19 => ("StartBenchModel", "seen", "[Z", true)
  | 20 => ("StartBenchModel", "first", "[I", true)
  | 21 => ("StartBenchModel", "firsts", "I", false)
  | 22 => ("StartBenchModel", "isPassed", "[Z", true)
  | 23 => ("StartBenchModel", "ends", "[Z", true)
  | 24 => ("StartBenchModel", "asked", "[I", true)
  | 25 => ("StartBenchModel", "askedMany", "I", false)
  | 26 => ("StartBenchModel", "reached", "[Z", true)
  | 27 => ("StartBenchModel", "toGo", "[I", true)
  | 28 => ("StartBenchModel", "state", "[I", true)
  | 29 => ("StartBenchModel", "place", "[I", true)
  | 30 => ("StartBenchModel", "taped", "[I", true)
  | 31 => ("StartBenchModel", "tape", "[I", true)
  | 32 => ("StartBenchModel", "rowed", "[I", true)
  | 33 => ("StartBenchModel", "row", "[I", true)
  | 34 => ("StartBenchModel", "failNumber", "[I", true)
  | 35 => ("StartBenchModel", "failOf", "[I", true)
  | 36 => ("StartBenchModel", "spent", "[I", true)
  | 37 => ("StartBenchModel", "now", "I", false)
  | 38 => ("StartBenchModel", "frames", "I", false)
  | 39 => ("StartBenchModel", "isStart", "[Z", true)
  | 40 => ("StartBenchModel", "of", "[I", true)
  | 41 => ("StartBenchModel", "far", "[I", true)
  | 42 => ("StartBenchModel", "caughtFrom", "[I", true)
  | 43 => ("StartBenchModel", "hasStarted", "[Z", true)
  | 44 => ("StartBenchModel", "bodies", "I", false)
  | 45 => ("StartBenchModel", "actions", "I", false)
  | 46 => ("StartBenchModel", "deepest", "I", false)
  | 47 => ("StartBenchModel", "arisen", "I", false)
  | 48 => ("StartBenchModel", "began", "I", false)
  | 49 => ("StartBenchModel", "isOver", "Z", false)
  | 50 => ("StartBenchModel", "fails", "Z", false)
  | 51 => ("StartBenchModel", "number", "I", false)
  | 52 => ("StartBenchModel", "numberOf", "I", false)
  | 53 => ("StartBenchModel", "touchKind", "I", false)
  | 54 => ("StartBenchModel", "touchType", "I", false)
  | 55 => ("StartBenchModel", "touchName", "I", false)
  | 56 => ("StartBenchModel", "touchValue", "I", false)
  | _ => ("StartBenchModel", "calls", "[Z", true)
def tyX7 : Nat → FieldType := fun k => match k with
  | 0 => .int
  | 1 => .array .boolean
  | 2 => .array .boolean
  | 3 => .array .int
  | 4 => .array .int
  | 5 => .array .int
  | 6 => .array .int
  | 7 => .array .int
  | 8 => .array .boolean
  | 9 => .array .int
  | 10 => .array .int
  | 11 => .array .int
  | 12 => .array .int
  | 13 => .array .int
  | 14 => .array .int
  | 15 => .array .int
  | 16 => .array .int
  | 17 => .int
  | 18 => .array .int
  | 19 => .array .boolean
  | 20 => .array .int
  | 21 => .int
  | 22 => .array .boolean
  | 23 => .array .boolean
  | 24 => .array .int
  | 25 => .int
  | 26 => .array .boolean
  | 27 => .array .int
  | 28 => .array .int
  | 29 => .array .int
  | 30 => .array .int
  | 31 => .array .int
  | 32 => .array .int
  | 33 => .array .int
  | 34 => .array .int
  | 35 => .array .int
  | 36 => .array .int
  | 37 => .int
  | 38 => .int
  | 39 => .array .boolean
  | 40 => .array .int
  | 41 => .array .int
  | 42 => .array .int
  | 43 => .array .boolean
  | 44 => .int
  | 45 => .int
  | 46 => .int
  | 47 => .int
  | 48 => .int
  | 49 => .boolean
  | 50 => .boolean
  | 51 => .int
  | 52 => .int
  | 53 => .int
  | 54 => .int
  | 55 => .int
  | 56 => .int
  | _ => .array .boolean
theorem nmX7 : ∀ a, a < 58 → ∀ b, b < 58 → a ≠ b → (TX7 a).2.1 ≠ (TX7 b).2.1 := by decide +kernel
theorem tyX7_ok : ∀ k, k < 58 → parseFieldDescriptor (TX7 k).2.2.1 = some (tyX7 k) := by decide +kernel
abbrev cX7_init : ByteArray := prog_9_method_1_code
def yX7_init : MethodName := ⟨RX7, "<init>", "()V"⟩
abbrev cX7_in : ByteArray := prog_9_method_2_code
def yX7_in : MethodName := ⟨RX7, "in", "(III)Z"⟩
abbrev cX7_isType : ByteArray := prog_9_method_3_code
def yX7_isType : MethodName := ⟨RX7, "isType", "(I)Z"⟩
abbrev cX7_make : ByteArray := prog_9_method_4_code
def yX7_make : MethodName := ⟨RX7, "make", "(ZZI)I"⟩
abbrev cX7_cls : ByteArray := prog_9_method_5_code
def yX7_cls : MethodName := ⟨RX7, "cls", "(IZ)I"⟩
abbrev cX7_face : ByteArray := prog_9_method_6_code
def yX7_face : MethodName := ⟨RX7, "face", "(Z)I"⟩
abbrev cX7_leads : ByteArray := prog_9_method_7_code
def yX7_leads : MethodName := ⟨RX7, "leads", "(II)Z"⟩
abbrev cX7_under : ByteArray := prog_9_method_8_code
def yX7_under : MethodName := ⟨RX7, "under", "(II)I"⟩
abbrev cX7_ownField : ByteArray := prog_9_method_9_code
def yX7_ownField : MethodName := ⟨RX7, "ownField", "(II)I"⟩
abbrev cX7_ownMethod : ByteArray := prog_9_method_10_code
def yX7_ownMethod : MethodName := ⟨RX7, "ownMethod", "(II)I"⟩
abbrev cX7_field : ByteArray := prog_9_method_11_code
def yX7_field : MethodName := ⟨RX7, "field", "(IIZI)I"⟩
abbrev cX7_method : ByteArray := prog_9_method_12_code
def yX7_method : MethodName := ⟨RX7, "method", "(II)I"⟩
abbrev cX7_act : ByteArray := prog_9_method_13_code
def yX7_act : MethodName := ⟨RX7, "act", "(IIIIII)I"⟩
abbrev cX7_told : ByteArray := prog_9_method_14_code
def yX7_told : MethodName := ⟨RX7, "told", "(II)I"⟩
abbrev cX7_below : ByteArray := prog_9_method_15_code
def yX7_below : MethodName := ⟨RX7, "below", "(II)I"⟩
abbrev cX7_findField : ByteArray := prog_9_method_16_code
def yX7_findField : MethodName := ⟨RX7, "findField", "(II)I"⟩
abbrev cX7_findMethod : ByteArray := prog_9_method_17_code
def yX7_findMethod : MethodName := ⟨RX7, "findMethod", "(II)I"⟩
abbrev cX7_found : ByteArray := prog_9_method_18_code
def yX7_found : MethodName := ⟨RX7, "found", "(IIZ)I"⟩
abbrev cX7_listFirst : ByteArray := prog_9_method_19_code
def yX7_listFirst : MethodName := ⟨RX7, "listFirst", "(I)V"⟩
abbrev cX7_started : ByteArray := prog_9_method_20_code
def yX7_started : MethodName := ⟨RX7, "started", "(III)I"⟩
abbrev cX7_isRuled : ByteArray := prog_9_method_21_code
def yX7_isRuled : MethodName := ⟨RX7, "isRuled", "(III)Z"⟩
abbrev cX7_addAsked : ByteArray := prog_9_method_22_code
def yX7_addAsked : MethodName := ⟨RX7, "addAsked", "(II)V"⟩
abbrev cX7_listAsked : ByteArray := prog_9_method_23_code
def yX7_listAsked : MethodName := ⟨RX7, "listAsked", "(I)V"⟩
abbrev cX7_asks : ByteArray := prog_9_method_24_code
def yX7_asks : MethodName := ⟨RX7, "asks", "(II)I"⟩
abbrev cX7_isRound : ByteArray := prog_9_method_25_code
def yX7_isRound : MethodName := ⟨RX7, "isRound", "(I)Z"⟩
abbrev cX7_round : ByteArray := prog_9_method_26_code
def yX7_round : MethodName := ⟨RX7, "round", "(I)I"⟩
abbrev cX7_world : ByteArray := prog_9_method_27_code
def yX7_world : MethodName := ⟨RX7, "world", "()I"⟩
abbrev cX7_gone : ByteArray := prog_9_method_28_code
def yX7_gone : MethodName := ⟨RX7, "gone", "()I"⟩
abbrev cX7_isWorld : ByteArray := prog_9_method_29_code
def yX7_isWorld : MethodName := ⟨RX7, "isWorld", "(I)Z"⟩
abbrev cX7_copy : ByteArray := prog_9_method_30_code
def yX7_copy : MethodName := ⟨RX7, "copy", "(II)V"⟩
abbrev cX7_onTape : ByteArray := prog_9_method_31_code
def yX7_onTape : MethodName := ⟨RX7, "onTape", "(I)V"⟩
abbrev cX7_fail : ByteArray := prog_9_method_32_code
def yX7_fail : MethodName := ⟨RX7, "fail", "(II)V"⟩
abbrev cX7_pushBody : ByteArray := prog_9_method_33_code
def yX7_pushBody : MethodName := ⟨RX7, "pushBody", "(I)V"⟩
abbrev cX7_start : ByteArray := prog_9_method_34_code
def yX7_start : MethodName := ⟨RX7, "start", "(I)V"⟩
abbrev cX7_goOnStart : ByteArray := prog_9_method_35_code
def yX7_goOnStart : MethodName := ⟨RX7, "goOnStart", "()V"⟩
abbrev cX7_kindAt : ByteArray := prog_9_method_36_code
def yX7_kindAt : MethodName := ⟨RX7, "kindAt", "(I)I"⟩
abbrev cX7_typeAt : ByteArray := prog_9_method_37_code
def yX7_typeAt : MethodName := ⟨RX7, "typeAt", "(I)I"⟩
abbrev cX7_nameAt : ByteArray := prog_9_method_38_code
def yX7_nameAt : MethodName := ⟨RX7, "nameAt", "(I)I"⟩
abbrev cX7_valueAt : ByteArray := prog_9_method_39_code
def yX7_valueAt : MethodName := ⟨RX7, "valueAt", "(I)I"⟩
abbrev cX7_sizeOf : ByteArray := prog_9_method_40_code
def yX7_sizeOf : MethodName := ⟨RX7, "sizeOf", "(I)I"⟩
abbrev cX7_did : ByteArray := prog_9_method_41_code
def yX7_did : MethodName := ⟨RX7, "did", "(I)V"⟩
abbrev cX7_goOnBody : ByteArray := prog_9_method_42_code
def yX7_goOnBody : MethodName := ⟨RX7, "goOnBody", "()V"⟩
abbrev cX7_goBehind : ByteArray := prog_9_method_43_code
def yX7_goBehind : MethodName := ⟨RX7, "goBehind", "(I)V"⟩
abbrev cX7_goDown : ByteArray := prog_9_method_44_code
def yX7_goDown : MethodName := ⟨RX7, "goDown", "()V"⟩
abbrev cX7_go : ByteArray := prog_9_method_45_code
def yX7_go : MethodName := ⟨RX7, "go", "(IIIII)V"⟩
abbrev cX7_cameTo : ByteArray := prog_9_method_46_code
def yX7_cameTo : MethodName := ⟨RX7, "cameTo", "()I"⟩
abbrev cX7_refusal : ByteArray := prog_9_method_47_code
def yX7_refusal : MethodName := ⟨RX7, "refusal", "(IIII)I"⟩
abbrev cX7_touch : ByteArray := prog_9_method_48_code
def yX7_touch : MethodName := ⟨RX7, "touch", "(IIIII)I"⟩
abbrev cX7_foretell : ByteArray := prog_9_method_49_code
def yX7_foretell : MethodName := ⟨RX7, "foretell", "(IIIII)I"⟩
abbrev cX7_state : ByteArray := prog_9_method_50_code
def yX7_state : MethodName := ⟨RX7, "state", "(II)I"⟩
abbrev cX7_began : ByteArray := prog_9_method_51_code
def yX7_began : MethodName := ⟨RX7, "began", "(II)I"⟩
abbrev cX7_tape : ByteArray := prog_9_method_52_code
def yX7_tape : MethodName := ⟨RX7, "tape", "(II)I"⟩
abbrev cX7_value : ByteArray := prog_9_method_53_code
def yX7_value : MethodName := ⟨RX7, "value", "(III)I"⟩
abbrev cX7_failed : ByteArray := prog_9_method_54_code
def yX7_failed : MethodName := ⟨RX7, "failed", "(II)I"⟩
abbrev cX7_spent : ByteArray := prog_9_method_55_code
def yX7_spent : MethodName := ⟨RX7, "spent", "(II)I"⟩
abbrev cX7_many : ByteArray := prog_9_method_56_code
def yX7_many : MethodName := ⟨RX7, "many", "(II)I"⟩
abbrev cX7_differs : ByteArray := prog_9_method_57_code
def yX7_differs : MethodName := ⟨RX7, "differs", "(II)I"⟩
def RJ9 : String := "java/lang/Math"
def TJ9 : u_T := fun k => match k with
  | _ => ("", "", "", false)
def tyJ9 : Nat → FieldType := fun k => match k with
  | _ => .int
theorem nmJ9 : ∀ a, a < 0 → ∀ b, b < 0 → a ≠ b → (TJ9 a).2.1 ≠ (TJ9 b).2.1 := by decide +kernel
theorem tyJ9_ok : ∀ k, k < 0 → parseFieldDescriptor (TJ9 k).2.2.1 = some (tyJ9 k) := by decide +kernel
abbrev cJ9_max_7cf53 : ByteArray := prog_10_method_65_code
def yJ9_max_7cf53 : MethodName := ⟨RJ9, "max", "(II)I"⟩
def RJ10 : String := "java/lang/System"
def TJ10 : u_T := fun k => match k with
  | _ => ("", "", "", false)
def tyJ10 : Nat → FieldType := fun k => match k with
  | _ => .int
theorem nmJ10 : ∀ a, a < 0 → ∀ b, b < 0 → a ≠ b → (TJ10 a).2.1 ≠ (TJ10 b).2.1 := by decide +kernel
theorem tyJ10_ok : ∀ k, k < 0 → parseFieldDescriptor (TJ10 k).2.2.1 = some (tyJ10 k) := by decide +kernel
def RJ7 : String := "java/util/Arrays"
def TJ7 : u_T := fun k => match k with
  | _ => ("", "", "", false)
def tyJ7 : Nat → FieldType := fun k => match k with
  | _ => .int
theorem nmJ7 : ∀ a, a < 0 → ∀ b, b < 0 → a ≠ b → (TJ7 a).2.1 ≠ (TJ7 b).2.1 := by decide +kernel
theorem tyJ7_ok : ∀ k, k < 0 → parseFieldDescriptor (TJ7 k).2.2.1 = some (tyJ7 k) := by decide +kernel
abbrev cJ7_fill_53178 : ByteArray := prog_12_method_103_code
def yJ7_fill_53178 : MethodName := ⟨RJ7, "fill", "([II)V"⟩
def RL : String := "StartBenchLaw"
abbrev cL_law : ByteArray := code
def yL_law : MethodName := ⟨RL, "law", "([I)Z"⟩
end
section
def cR : Nat → String := fun ci => match ci with
  | 0 => RX0
  | 1 => RX1
  | 2 => RX2
  | 3 => RX3
  | 4 => RX4
  | 5 => RX5
  | 6 => RX6
  | _ => RX7
def cT : Nat → u_T := fun ci => match ci with
  | 0 => TX0
  | 1 => TX1
  | 2 => TX2
  | 3 => TX3
  | 4 => TX4
  | 5 => TX5
  | 6 => TX6
  | _ => TX7
def cY : Nat → Nat → FieldType := fun ci => match ci with
  | 0 => tyX0
  | 1 => tyX1
  | 2 => tyX2
  | 3 => tyX3
  | 4 => tyX4
  | 5 => tyX5
  | 6 => tyX6
  | _ => tyX7
def cN : Nat → Nat := fun ci => match ci with
  | 0 => 4
  | 1 => 2
  | 2 => 7
  | 3 => 7
  | 4 => 14
  | 5 => 9
  | 6 => 4
  | _ => 58
def kX0 : Nat → Nat := fun k => match k with
  | _ => 0
def kX1 : Nat → Nat := fun k => match k with
  | 0 => 3
  | _ => 0
def kX2 : Nat → Nat := fun k => match k with
  | 0 => 3
  | 2 => 3
  | 3 => 3
  | 5 => 2
  | 6 => 3
  | _ => 0
def kX3 : Nat → Nat := fun k => match k with
  | 0 => 3
  | 1 => 3
  | _ => 0
def kX4 : Nat → Nat := fun k => match k with
  | 0 => 1
  | 1 => 1
  | 3 => 3
  | 5 => 2
  | 6 => 3
  | 7 => 3
  | 9 => 3
  | 11 => 3
  | 12 => 3
  | _ => 0
def kX5 : Nat → Nat := fun k => match k with
  | 0 => 3
  | 1 => 3
  | 2 => 3
  | 4 => 3
  | 8 => 3
  | _ => 0
def kX6 : Nat → Nat := fun k => match k with
  | 0 => 3
  | 1 => 3
  | 3 => 3
  | _ => 0
def kX7 : Nat → Nat := fun k => match k with
  | 1 => 3
  | 2 => 3
  | 3 => 3
  | 4 => 3
  | 5 => 3
  | 6 => 3
  | 7 => 3
  | 8 => 3
  | 9 => 3
  | 10 => 3
  | 11 => 3
  | 12 => 3
  | 13 => 3
  | 14 => 3
  | 15 => 3
  | 16 => 3
  | 18 => 3
  | 19 => 3
  | 20 => 3
  | 22 => 3
  | 23 => 3
  | 24 => 3
  | 26 => 3
  | 27 => 3
  | 28 => 3
  | 29 => 3
  | 30 => 3
  | 31 => 3
  | 32 => 3
  | 33 => 3
  | 34 => 3
  | 35 => 3
  | 36 => 3
  | 39 => 3
  | 40 => 3
  | 41 => 3
  | 42 => 3
  | 43 => 3
  | 49 => 1
  | 50 => 1
  | 57 => 3
  | _ => 0
def cK : Nat → Nat → Nat := fun ci => match ci with
  | 0 => kX0
  | 1 => kX1
  | 2 => kX2
  | 3 => kX3
  | 4 => kX4
  | 5 => kX5
  | 6 => kX6
  | _ => kX7
abbrev CL : List vw_C := [(RX0, TX0, 4), (RX1, TX1, 2), (RX2, TX2, 7), (RX3, TX3, 7), (RX4, TX4, 14), (RX5, TX5, 9), (RX6, TX6, 4), (RX7, TX7, 58)]
theorem CL_at : ∀ ci, ci < 8 → CL[ci]? = some (cR ci, cT ci, cN ci) := by
  intro ci h
  match ci, h with
  | 0, _ => rfl
  | 1, _ => rfl
  | 2, _ => rfl
  | 3, _ => rfl
  | 4, _ => rfl
  | 5, _ => rfl
  | 6, _ => rfl
  | 7, _ => rfl
theorem inX0 : ∀ w ∈ u_ws RX0 TX0 4, w ∈ lw_tbl := by decide +kernel
theorem igX0 : ∀ w ∈ u_ws RX0 TX0 4, goodWord w = true := by decide +kernel
theorem inX1 : ∀ w ∈ u_ws RX1 TX1 2, w ∈ lw_tbl := by decide +kernel
theorem igX1 : ∀ w ∈ u_ws RX1 TX1 2, goodWord w = true := by decide +kernel
theorem inX2 : ∀ w ∈ u_ws RX2 TX2 7, w ∈ lw_tbl := by decide +kernel
theorem igX2 : ∀ w ∈ u_ws RX2 TX2 7, goodWord w = true := by decide +kernel
theorem inX3 : ∀ w ∈ u_ws RX3 TX3 7, w ∈ lw_tbl := by decide +kernel
theorem igX3 : ∀ w ∈ u_ws RX3 TX3 7, goodWord w = true := by decide +kernel
theorem inX4 : ∀ w ∈ u_ws RX4 TX4 14, w ∈ lw_tbl := by decide +kernel
theorem igX4 : ∀ w ∈ u_ws RX4 TX4 14, goodWord w = true := by decide +kernel
theorem inX5 : ∀ w ∈ u_ws RX5 TX5 9, w ∈ lw_tbl := by decide +kernel
theorem igX5 : ∀ w ∈ u_ws RX5 TX5 9, goodWord w = true := by decide +kernel
theorem inX6 : ∀ w ∈ u_ws RX6 TX6 4, w ∈ lw_tbl := by decide +kernel
theorem igX6 : ∀ w ∈ u_ws RX6 TX6 4, goodWord w = true := by decide +kernel
theorem inX7 : ∀ w ∈ u_ws RX7 TX7 58, w ∈ lw_tbl := by decide +kernel
theorem igX7 : ∀ w ∈ u_ws RX7 TX7 58, goodWord w = true := by decide +kernel
theorem cin : ∀ ci, ci < 8 → ∀ w ∈ u_ws (cR ci) (cT ci) (cN ci), w ∈ lw_tbl := by
  intro ci h
  match ci, h with
  | 0, _ => exact inX0
  | 1, _ => exact inX1
  | 2, _ => exact inX2
  | 3, _ => exact inX3
  | 4, _ => exact inX4
  | 5, _ => exact inX5
  | 6, _ => exact inX6
  | 7, _ => exact inX7
theorem cig : ∀ ci, ci < 8 → ∀ w ∈ u_ws (cR ci) (cT ci) (cN ci), goodWord w = true := by
  intro ci h
  match ci, h with
  | 0, _ => exact igX0
  | 1, _ => exact igX1
  | 2, _ => exact igX2
  | 3, _ => exact igX3
  | 4, _ => exact igX4
  | 5, _ => exact igX5
  | 6, _ => exact igX6
  | 7, _ => exact igX7
theorem cnm : ∀ ci, ci < 8 → ∀ a, a < cN ci → ∀ b, b < cN ci → a ≠ b → (cT ci a).2.1 ≠ (cT ci b).2.1 := by
  intro ci h
  match ci, h with
  | 0, _ => exact nmX0
  | 1, _ => exact nmX1
  | 2, _ => exact nmX2
  | 3, _ => exact nmX3
  | 4, _ => exact nmX4
  | 5, _ => exact nmX5
  | 6, _ => exact nmX6
  | 7, _ => exact nmX7
theorem cty : ∀ ci, ci < 8 → ∀ k, k < cN ci → parseFieldDescriptor (cT ci k).2.2.1 = some (cY ci k) := by
  intro ci h
  match ci, h with
  | 0, _ => exact tyX0_ok
  | 1, _ => exact tyX1_ok
  | 2, _ => exact tyX2_ok
  | 3, _ => exact tyX3_ok
  | 4, _ => exact tyX4_ok
  | 5, _ => exact tyX5_ok
  | 6, _ => exact tyX6_ok
  | 7, _ => exact tyX7_ok
def isRefT : FieldType → Bool
  | .object _ => true
  | .array _ => true
  | _ => false
def kty : Nat → FieldType → Bool := fun k t => match k with
  | 0 => t == .int
  | 1 => t == .boolean
  | 2 => t == .long
  | _ => isRefT t
theorem ckt : ∀ ci, ci < 8 → ∀ k, k < cN ci → kty (cK ci k) (cY ci k) = true := by decide +kernel
theorem ck3 : ∀ ci, ci < 8 → ∀ k, k < cN ci → cK ci k ≤ 3 := by decide +kernel
theorem cself : ∀ ci, ci < 8 → ∀ k, k < cN ci → (cT ci k).1 = cR ci := by decide +kernel
def lw_good : List Cond := lw_tbl.filter goodWord
theorem lw_gd {w : Cond} (h : w ∈ lw_tbl) (hg : goodWord w = true) : w ∈ lw_good := List.mem_filter.mpr ⟨h, hg⟩
/-- a field's link, among the tables' words -/
def FL (own : String) (idx ci k : Nat) : Prop := Cond.fieldLink own idx (cT ci k).1 (cT ci k).2.1 (cT ci k).2.2.1 ∈ lw_tbl ∧ k < cN ci ∧ ci < 8
def MLk (own : String) (idx : Nat) (y : MethodName) : Prop := Cond.methodLink own idx y ∈ lw_tbl
def MWk (y : MethodName) (bytes : ByteArray) (maxL : Nat) (ret : Option FieldType) : Prop := Cond.code y bytes maxL ret ∈ lw_tbl ∧ Cond.initialized y.cls ∈ lw_tbl
def IMk (y : MethodName) : Prop := Cond.instanceMethod y ∈ lw_tbl
def SMk (y : MethodName) : Prop := Cond.static y ∈ lw_tbl
def SLk (y : MethodName) : Prop := Cond.selects y.cls y y ∈ lw_tbl
def CLk (own : String) (idx ci : Nat) : Prop := Cond.classLink own idx (cR ci) ∈ lw_tbl ∧ Cond.instantiable (cR ci) (cN ci) ∈ lw_tbl ∧ Cond.initialized (cR ci) ∈ lw_tbl ∧ ci < 8
def CLa (own : String) (idx ci : Nat) : Prop := Cond.classLink own idx (cR ci) ∈ lw_tbl ∧ Cond.arrayOver (.object (cR ci)) ∈ lw_tbl ∧ ci < 8
theorem flX6_10 : FL RX6 10 6 0 := ⟨List.mem_of_getElem? (i := 154) (by decide +kernel), by decide, by decide⟩
theorem flX6_18 : FL RX6 18 6 1 := ⟨List.mem_of_getElem? (i := 155) (by decide +kernel), by decide, by decide⟩
theorem flX6_22 : FL RX6 22 6 2 := ⟨List.mem_of_getElem? (i := 156) (by decide +kernel), by decide, by decide⟩
theorem flX6_27 : FL RX6 27 6 3 := ⟨List.mem_of_getElem? (i := 157) (by decide +kernel), by decide, by decide⟩
theorem flX6_35 : FL RX6 35 2 0 := ⟨List.mem_of_getElem? (i := 80) (by decide +kernel), by decide, by decide⟩
theorem flX6_39 : FL RX6 39 4 0 := ⟨List.mem_of_getElem? (i := 208) (by decide +kernel), by decide, by decide⟩
theorem flX6_49 : FL RX6 49 2 1 := ⟨List.mem_of_getElem? (i := 83) (by decide +kernel), by decide, by decide⟩
theorem flX6_59 : FL RX6 59 4 4 := ⟨List.mem_of_getElem? (i := 219) (by decide +kernel), by decide, by decide⟩
theorem flX6_77 : FL RX6 77 4 8 := ⟨List.mem_of_getElem? (i := 228) (by decide +kernel), by decide, by decide⟩
theorem flX6_80 : FL RX6 80 4 6 := ⟨List.mem_of_getElem? (i := 223) (by decide +kernel), by decide, by decide⟩
theorem flX6_91 : FL RX6 91 4 10 := ⟨List.mem_of_getElem? (i := 233) (by decide +kernel), by decide, by decide⟩
theorem flX6_94 : FL RX6 94 4 9 := ⟨List.mem_of_getElem? (i := 230) (by decide +kernel), by decide, by decide⟩
theorem flX6_118 : FL RX6 118 1 1 := ⟨List.mem_of_getElem? (i := 200) (by decide +kernel), by decide, by decide⟩
theorem flX6_147 : FL RX6 147 2 4 := ⟨List.mem_of_getElem? (i := 87) (by decide +kernel), by decide, by decide⟩
theorem flX6_150 : FL RX6 150 2 3 := ⟨List.mem_of_getElem? (i := 86) (by decide +kernel), by decide, by decide⟩
theorem flX6_185 : FL RX6 185 5 0 := ⟨List.mem_of_getElem? (i := 117) (by decide +kernel), by decide, by decide⟩
theorem flX6_188 : FL RX6 188 5 5 := ⟨List.mem_of_getElem? (i := 128) (by decide +kernel), by decide, by decide⟩
theorem flX6_191 : FL RX6 191 5 4 := ⟨List.mem_of_getElem? (i := 126) (by decide +kernel), by decide, by decide⟩
theorem flX6_194 : FL RX6 194 5 3 := ⟨List.mem_of_getElem? (i := 124) (by decide +kernel), by decide, by decide⟩
theorem flX6_197 : FL RX6 197 5 2 := ⟨List.mem_of_getElem? (i := 122) (by decide +kernel), by decide, by decide⟩
theorem flX6_204 : FL RX6 204 5 6 := ⟨List.mem_of_getElem? (i := 130) (by decide +kernel), by decide, by decide⟩
theorem flX6_207 : FL RX6 207 5 7 := ⟨List.mem_of_getElem? (i := 132) (by decide +kernel), by decide, by decide⟩
theorem flX6_210 : FL RX6 210 5 8 := ⟨List.mem_of_getElem? (i := 134) (by decide +kernel), by decide, by decide⟩
theorem flX0_7 : FL RX0 7 0 0 := ⟨List.mem_of_getElem? (i := 348) (by decide +kernel), by decide, by decide⟩
theorem flX0_13 : FL RX0 13 0 1 := ⟨List.mem_of_getElem? (i := 351) (by decide +kernel), by decide, by decide⟩
theorem flX0_16 : FL RX0 16 0 2 := ⟨List.mem_of_getElem? (i := 354) (by decide +kernel), by decide, by decide⟩
theorem flX0_19 : FL RX0 19 0 3 := ⟨List.mem_of_getElem? (i := 357) (by decide +kernel), by decide, by decide⟩
theorem flX1_11 : FL RX1 11 1 0 := ⟨List.mem_of_getElem? (i := 194) (by decide +kernel), by decide, by decide⟩
theorem flX1_17 : FL RX1 17 1 1 := ⟨List.mem_of_getElem? (i := 197) (by decide +kernel), by decide, by decide⟩
theorem flX2_11 : FL RX2 11 2 0 := ⟨List.mem_of_getElem? (i := 79) (by decide +kernel), by decide, by decide⟩
theorem flX2_17 : FL RX2 17 2 2 := ⟨List.mem_of_getElem? (i := 84) (by decide +kernel), by decide, by decide⟩
theorem flX2_21 : FL RX2 21 2 3 := ⟨List.mem_of_getElem? (i := 85) (by decide +kernel), by decide, by decide⟩
theorem flX2_24 : FL RX2 24 2 6 := ⟨List.mem_of_getElem? (i := 90) (by decide +kernel), by decide, by decide⟩
theorem flX2_34 : FL RX2 34 2 1 := ⟨List.mem_of_getElem? (i := 82) (by decide +kernel), by decide, by decide⟩
theorem flX2_38 : FL RX2 38 4 2 := ⟨List.mem_of_getElem? (i := 214) (by decide +kernel), by decide, by decide⟩
theorem flX2_41 : FL RX2 41 4 5 := ⟨List.mem_of_getElem? (i := 221) (by decide +kernel), by decide, by decide⟩
theorem flX2_49 : FL RX2 49 4 3 := ⟨List.mem_of_getElem? (i := 217) (by decide +kernel), by decide, by decide⟩
theorem flX2_52 : FL RX2 52 4 4 := ⟨List.mem_of_getElem? (i := 220) (by decide +kernel), by decide, by decide⟩
theorem flX2_62 : FL RX2 62 4 6 := ⟨List.mem_of_getElem? (i := 224) (by decide +kernel), by decide, by decide⟩
theorem flX2_65 : FL RX2 65 4 9 := ⟨List.mem_of_getElem? (i := 231) (by decide +kernel), by decide, by decide⟩
theorem flX2_69 : FL RX2 69 4 7 := ⟨List.mem_of_getElem? (i := 226) (by decide +kernel), by decide, by decide⟩
theorem flX2_72 : FL RX2 72 5 1 := ⟨List.mem_of_getElem? (i := 120) (by decide +kernel), by decide, by decide⟩
theorem flX2_77 : FL RX2 77 0 0 := ⟨List.mem_of_getElem? (i := 350) (by decide +kernel), by decide, by decide⟩
theorem flX2_86 : FL RX2 86 0 1 := ⟨List.mem_of_getElem? (i := 353) (by decide +kernel), by decide, by decide⟩
theorem flX2_89 : FL RX2 89 0 2 := ⟨List.mem_of_getElem? (i := 356) (by decide +kernel), by decide, by decide⟩
theorem flX2_96 : FL RX2 96 4 0 := ⟨List.mem_of_getElem? (i := 210) (by decide +kernel), by decide, by decide⟩
theorem flX2_100 : FL RX2 100 4 1 := ⟨List.mem_of_getElem? (i := 212) (by decide +kernel), by decide, by decide⟩
theorem flX2_106 : FL RX2 106 4 13 := ⟨List.mem_of_getElem? (i := 241) (by decide +kernel), by decide, by decide⟩
theorem flX2_113 : FL RX2 113 4 12 := ⟨List.mem_of_getElem? (i := 239) (by decide +kernel), by decide, by decide⟩
theorem flX2_116 : FL RX2 116 2 4 := ⟨List.mem_of_getElem? (i := 88) (by decide +kernel), by decide, by decide⟩
theorem flX2_119 : FL RX2 119 2 5 := ⟨List.mem_of_getElem? (i := 89) (by decide +kernel), by decide, by decide⟩
theorem flX2_130 : FL RX2 130 4 11 := ⟨List.mem_of_getElem? (i := 236) (by decide +kernel), by decide, by decide⟩
theorem flX2_134 : FL RX2 134 1 1 := ⟨List.mem_of_getElem? (i := 201) (by decide +kernel), by decide, by decide⟩
theorem flX2_139 : FL RX2 139 1 0 := ⟨List.mem_of_getElem? (i := 196) (by decide +kernel), by decide, by decide⟩
theorem flX3_9 : FL RX3 9 3 6 := ⟨List.mem_of_getElem? (i := 492) (by decide +kernel), by decide, by decide⟩
theorem flX3_15 : FL RX3 15 3 0 := ⟨List.mem_of_getElem? (i := 482) (by decide +kernel), by decide, by decide⟩
theorem flX3_19 : FL RX3 19 3 1 := ⟨List.mem_of_getElem? (i := 483) (by decide +kernel), by decide, by decide⟩
theorem flX3_23 : FL RX3 23 3 2 := ⟨List.mem_of_getElem? (i := 484) (by decide +kernel), by decide, by decide⟩
theorem flX3_30 : FL RX3 30 0 0 := ⟨List.mem_of_getElem? (i := 349) (by decide +kernel), by decide, by decide⟩
theorem flX3_35 : FL RX3 35 0 3 := ⟨List.mem_of_getElem? (i := 358) (by decide +kernel), by decide, by decide⟩
theorem flX3_52 : FL RX3 52 2 0 := ⟨List.mem_of_getElem? (i := 81) (by decide +kernel), by decide, by decide⟩
theorem flX3_56 : FL RX3 56 0 2 := ⟨List.mem_of_getElem? (i := 355) (by decide +kernel), by decide, by decide⟩
theorem flX3_79 : FL RX3 79 0 1 := ⟨List.mem_of_getElem? (i := 352) (by decide +kernel), by decide, by decide⟩
theorem flX3_89 : FL RX3 89 5 1 := ⟨List.mem_of_getElem? (i := 119) (by decide +kernel), by decide, by decide⟩
theorem flX3_93 : FL RX3 93 3 4 := ⟨List.mem_of_getElem? (i := 488) (by decide +kernel), by decide, by decide⟩
theorem flX3_96 : FL RX3 96 5 0 := ⟨List.mem_of_getElem? (i := 116) (by decide +kernel), by decide, by decide⟩
theorem flX3_106 : FL RX3 106 4 0 := ⟨List.mem_of_getElem? (i := 209) (by decide +kernel), by decide, by decide⟩
theorem flX3_110 : FL RX3 110 4 2 := ⟨List.mem_of_getElem? (i := 215) (by decide +kernel), by decide, by decide⟩
theorem flX3_117 : FL RX3 117 4 13 := ⟨List.mem_of_getElem? (i := 240) (by decide +kernel), by decide, by decide⟩
theorem flX3_120 : FL RX3 120 4 12 := ⟨List.mem_of_getElem? (i := 238) (by decide +kernel), by decide, by decide⟩
theorem flX3_126 : FL RX3 126 3 5 := ⟨List.mem_of_getElem? (i := 491) (by decide +kernel), by decide, by decide⟩
theorem flX3_129 : FL RX3 129 4 11 := ⟨List.mem_of_getElem? (i := 235) (by decide +kernel), by decide, by decide⟩
theorem flX3_133 : FL RX3 133 3 3 := ⟨List.mem_of_getElem? (i := 487) (by decide +kernel), by decide, by decide⟩
theorem flX3_141 : FL RX3 141 1 1 := ⟨List.mem_of_getElem? (i := 199) (by decide +kernel), by decide, by decide⟩
theorem flX3_146 : FL RX3 146 1 0 := ⟨List.mem_of_getElem? (i := 195) (by decide +kernel), by decide, by decide⟩
theorem flX4_9 : FL RX4 9 4 3 := ⟨List.mem_of_getElem? (i := 216) (by decide +kernel), by decide, by decide⟩
theorem flX4_15 : FL RX4 15 4 6 := ⟨List.mem_of_getElem? (i := 222) (by decide +kernel), by decide, by decide⟩
theorem flX4_18 : FL RX4 18 4 7 := ⟨List.mem_of_getElem? (i := 225) (by decide +kernel), by decide, by decide⟩
theorem flX4_23 : FL RX4 23 4 9 := ⟨List.mem_of_getElem? (i := 229) (by decide +kernel), by decide, by decide⟩
theorem flX4_28 : FL RX4 28 4 11 := ⟨List.mem_of_getElem? (i := 234) (by decide +kernel), by decide, by decide⟩
theorem flX4_32 : FL RX4 32 4 12 := ⟨List.mem_of_getElem? (i := 237) (by decide +kernel), by decide, by decide⟩
theorem flX4_35 : FL RX4 35 4 0 := ⟨List.mem_of_getElem? (i := 207) (by decide +kernel), by decide, by decide⟩
theorem flX4_39 : FL RX4 39 4 1 := ⟨List.mem_of_getElem? (i := 211) (by decide +kernel), by decide, by decide⟩
theorem flX4_42 : FL RX4 42 4 2 := ⟨List.mem_of_getElem? (i := 213) (by decide +kernel), by decide, by decide⟩
theorem flX4_46 : FL RX4 46 4 4 := ⟨List.mem_of_getElem? (i := 218) (by decide +kernel), by decide, by decide⟩
theorem flX4_49 : FL RX4 49 4 8 := ⟨List.mem_of_getElem? (i := 227) (by decide +kernel), by decide, by decide⟩
theorem flX4_52 : FL RX4 52 4 10 := ⟨List.mem_of_getElem? (i := 232) (by decide +kernel), by decide, by decide⟩
theorem flX4_59 : FL RX4 59 1 1 := ⟨List.mem_of_getElem? (i := 198) (by decide +kernel), by decide, by decide⟩
theorem flX5_9 : FL RX5 9 5 0 := ⟨List.mem_of_getElem? (i := 115) (by decide +kernel), by decide, by decide⟩
theorem flX5_15 : FL RX5 15 5 1 := ⟨List.mem_of_getElem? (i := 118) (by decide +kernel), by decide, by decide⟩
theorem flX5_18 : FL RX5 18 5 2 := ⟨List.mem_of_getElem? (i := 121) (by decide +kernel), by decide, by decide⟩
theorem flX5_21 : FL RX5 21 5 4 := ⟨List.mem_of_getElem? (i := 125) (by decide +kernel), by decide, by decide⟩
theorem flX5_24 : FL RX5 24 5 6 := ⟨List.mem_of_getElem? (i := 129) (by decide +kernel), by decide, by decide⟩
theorem flX5_28 : FL RX5 28 5 7 := ⟨List.mem_of_getElem? (i := 131) (by decide +kernel), by decide, by decide⟩
theorem flX5_31 : FL RX5 31 5 8 := ⟨List.mem_of_getElem? (i := 133) (by decide +kernel), by decide, by decide⟩
theorem flX5_40 : FL RX5 40 5 3 := ⟨List.mem_of_getElem? (i := 123) (by decide +kernel), by decide, by decide⟩
theorem flX5_43 : FL RX5 43 5 5 := ⟨List.mem_of_getElem? (i := 127) (by decide +kernel), by decide, by decide⟩
theorem flX5_52 : FL RX5 52 3 6 := ⟨List.mem_of_getElem? (i := 493) (by decide +kernel), by decide, by decide⟩
theorem flX5_55 : FL RX5 55 3 2 := ⟨List.mem_of_getElem? (i := 485) (by decide +kernel), by decide, by decide⟩
theorem flX5_58 : FL RX5 58 3 3 := ⟨List.mem_of_getElem? (i := 486) (by decide +kernel), by decide, by decide⟩
theorem flX5_61 : FL RX5 61 3 4 := ⟨List.mem_of_getElem? (i := 489) (by decide +kernel), by decide, by decide⟩
theorem flX5_64 : FL RX5 64 3 5 := ⟨List.mem_of_getElem? (i := 490) (by decide +kernel), by decide, by decide⟩
theorem flX7_7 : FL RX7 7 7 1 := ⟨List.mem_of_getElem? (i := 619) (by decide +kernel), by decide, by decide⟩
theorem flX7_13 : FL RX7 13 7 2 := ⟨List.mem_of_getElem? (i := 620) (by decide +kernel), by decide, by decide⟩
theorem flX7_16 : FL RX7 16 7 3 := ⟨List.mem_of_getElem? (i := 621) (by decide +kernel), by decide, by decide⟩
theorem flX7_20 : FL RX7 20 7 4 := ⟨List.mem_of_getElem? (i := 622) (by decide +kernel), by decide, by decide⟩
theorem flX7_23 : FL RX7 23 7 5 := ⟨List.mem_of_getElem? (i := 623) (by decide +kernel), by decide, by decide⟩
theorem flX7_26 : FL RX7 26 7 6 := ⟨List.mem_of_getElem? (i := 624) (by decide +kernel), by decide, by decide⟩
theorem flX7_29 : FL RX7 29 7 7 := ⟨List.mem_of_getElem? (i := 625) (by decide +kernel), by decide, by decide⟩
theorem flX7_32 : FL RX7 32 7 8 := ⟨List.mem_of_getElem? (i := 626) (by decide +kernel), by decide, by decide⟩
theorem flX7_35 : FL RX7 35 7 9 := ⟨List.mem_of_getElem? (i := 627) (by decide +kernel), by decide, by decide⟩
theorem flX7_38 : FL RX7 38 7 10 := ⟨List.mem_of_getElem? (i := 628) (by decide +kernel), by decide, by decide⟩
theorem flX7_41 : FL RX7 41 7 11 := ⟨List.mem_of_getElem? (i := 629) (by decide +kernel), by decide, by decide⟩
theorem flX7_44 : FL RX7 44 7 12 := ⟨List.mem_of_getElem? (i := 630) (by decide +kernel), by decide, by decide⟩
theorem flX7_47 : FL RX7 47 7 13 := ⟨List.mem_of_getElem? (i := 631) (by decide +kernel), by decide, by decide⟩
theorem flX7_50 : FL RX7 50 7 14 := ⟨List.mem_of_getElem? (i := 632) (by decide +kernel), by decide, by decide⟩
theorem flX7_53 : FL RX7 53 7 15 := ⟨List.mem_of_getElem? (i := 633) (by decide +kernel), by decide, by decide⟩
theorem flX7_56 : FL RX7 56 7 16 := ⟨List.mem_of_getElem? (i := 634) (by decide +kernel), by decide, by decide⟩
theorem flX7_59 : FL RX7 59 7 18 := ⟨List.mem_of_getElem? (i := 636) (by decide +kernel), by decide, by decide⟩
theorem flX7_62 : FL RX7 62 7 19 := ⟨List.mem_of_getElem? (i := 637) (by decide +kernel), by decide, by decide⟩
theorem flX7_65 : FL RX7 65 7 20 := ⟨List.mem_of_getElem? (i := 638) (by decide +kernel), by decide, by decide⟩
theorem flX7_68 : FL RX7 68 7 22 := ⟨List.mem_of_getElem? (i := 640) (by decide +kernel), by decide, by decide⟩
theorem flX7_71 : FL RX7 71 7 23 := ⟨List.mem_of_getElem? (i := 641) (by decide +kernel), by decide, by decide⟩
theorem flX7_74 : FL RX7 74 7 24 := ⟨List.mem_of_getElem? (i := 642) (by decide +kernel), by decide, by decide⟩
theorem flX7_77 : FL RX7 77 7 26 := ⟨List.mem_of_getElem? (i := 644) (by decide +kernel), by decide, by decide⟩
theorem flX7_80 : FL RX7 80 7 27 := ⟨List.mem_of_getElem? (i := 645) (by decide +kernel), by decide, by decide⟩
theorem flX7_83 : FL RX7 83 7 28 := ⟨List.mem_of_getElem? (i := 646) (by decide +kernel), by decide, by decide⟩
theorem flX7_86 : FL RX7 86 7 29 := ⟨List.mem_of_getElem? (i := 647) (by decide +kernel), by decide, by decide⟩
theorem flX7_89 : FL RX7 89 7 30 := ⟨List.mem_of_getElem? (i := 648) (by decide +kernel), by decide, by decide⟩
theorem flX7_92 : FL RX7 92 7 31 := ⟨List.mem_of_getElem? (i := 649) (by decide +kernel), by decide, by decide⟩
theorem flX7_95 : FL RX7 95 7 32 := ⟨List.mem_of_getElem? (i := 650) (by decide +kernel), by decide, by decide⟩
theorem flX7_98 : FL RX7 98 7 33 := ⟨List.mem_of_getElem? (i := 651) (by decide +kernel), by decide, by decide⟩
theorem flX7_101 : FL RX7 101 7 34 := ⟨List.mem_of_getElem? (i := 652) (by decide +kernel), by decide, by decide⟩
theorem flX7_104 : FL RX7 104 7 35 := ⟨List.mem_of_getElem? (i := 653) (by decide +kernel), by decide, by decide⟩
theorem flX7_107 : FL RX7 107 7 36 := ⟨List.mem_of_getElem? (i := 654) (by decide +kernel), by decide, by decide⟩
theorem flX7_110 : FL RX7 110 7 39 := ⟨List.mem_of_getElem? (i := 657) (by decide +kernel), by decide, by decide⟩
theorem flX7_113 : FL RX7 113 7 40 := ⟨List.mem_of_getElem? (i := 658) (by decide +kernel), by decide, by decide⟩
theorem flX7_116 : FL RX7 116 7 41 := ⟨List.mem_of_getElem? (i := 659) (by decide +kernel), by decide, by decide⟩
theorem flX7_119 : FL RX7 119 7 42 := ⟨List.mem_of_getElem? (i := 660) (by decide +kernel), by decide, by decide⟩
theorem flX7_122 : FL RX7 122 7 43 := ⟨List.mem_of_getElem? (i := 661) (by decide +kernel), by decide, by decide⟩
theorem flX7_125 : FL RX7 125 7 57 := ⟨List.mem_of_getElem? (i := 675) (by decide +kernel), by decide, by decide⟩
theorem flX7_128 : FL RX7 128 7 0 := ⟨List.mem_of_getElem? (i := 618) (by decide +kernel), by decide, by decide⟩
theorem flX7_140 : FL RX7 140 7 17 := ⟨List.mem_of_getElem? (i := 635) (by decide +kernel), by decide, by decide⟩
theorem flX7_164 : FL RX7 164 7 21 := ⟨List.mem_of_getElem? (i := 639) (by decide +kernel), by decide, by decide⟩
theorem flX7_170 : FL RX7 170 7 25 := ⟨List.mem_of_getElem? (i := 643) (by decide +kernel), by decide, by decide⟩
theorem flX7_191 : FL RX7 191 7 37 := ⟨List.mem_of_getElem? (i := 655) (by decide +kernel), by decide, by decide⟩
theorem flX7_194 : FL RX7 194 7 47 := ⟨List.mem_of_getElem? (i := 665) (by decide +kernel), by decide, by decide⟩
theorem flX7_197 : FL RX7 197 7 49 := ⟨List.mem_of_getElem? (i := 667) (by decide +kernel), by decide, by decide⟩
theorem flX7_201 : FL RX7 201 7 50 := ⟨List.mem_of_getElem? (i := 668) (by decide +kernel), by decide, by decide⟩
theorem flX7_204 : FL RX7 204 7 51 := ⟨List.mem_of_getElem? (i := 669) (by decide +kernel), by decide, by decide⟩
theorem flX7_207 : FL RX7 207 7 52 := ⟨List.mem_of_getElem? (i := 670) (by decide +kernel), by decide, by decide⟩
theorem flX7_210 : FL RX7 210 7 44 := ⟨List.mem_of_getElem? (i := 662) (by decide +kernel), by decide, by decide⟩
theorem flX7_213 : FL RX7 213 7 38 := ⟨List.mem_of_getElem? (i := 656) (by decide +kernel), by decide, by decide⟩
theorem flX7_216 : FL RX7 216 7 46 := ⟨List.mem_of_getElem? (i := 664) (by decide +kernel), by decide, by decide⟩
theorem flX7_225 : FL RX7 225 7 48 := ⟨List.mem_of_getElem? (i := 666) (by decide +kernel), by decide, by decide⟩
theorem flX7_231 : FL RX7 231 7 53 := ⟨List.mem_of_getElem? (i := 671) (by decide +kernel), by decide, by decide⟩
theorem flX7_234 : FL RX7 234 7 54 := ⟨List.mem_of_getElem? (i := 672) (by decide +kernel), by decide, by decide⟩
theorem flX7_237 : FL RX7 237 7 55 := ⟨List.mem_of_getElem? (i := 673) (by decide +kernel), by decide, by decide⟩
theorem flX7_240 : FL RX7 240 7 56 := ⟨List.mem_of_getElem? (i := 674) (by decide +kernel), by decide, by decide⟩
theorem flX7_250 : FL RX7 250 7 45 := ⟨List.mem_of_getElem? (i := 663) (by decide +kernel), by decide, by decide⟩
theorem mlX6_1 : MLk RX6 1 objectInit := List.mem_of_getElem? (i := 65) (by decide +kernel)
theorem mlX6_9 : MLk RX6 9 yX2_init := List.mem_of_getElem? (i := 70) (by decide +kernel)
theorem mlX6_31 : MLk RX6 31 yX2_knows := List.mem_of_getElem? (i := 171) (by decide +kernel)
theorem mlX6_45 : MLk RX6 45 yX6_addType := List.mem_of_getElem? (i := 175) (by decide +kernel)
theorem mlX6_52 : MLk RX6 52 yX4_init := List.mem_of_getElem? (i := 181) (by decide +kernel)
theorem mlX6_55 : MLk RX6 55 yX2_append := List.mem_of_getElem? (i := 271) (by decide +kernel)
theorem mlX6_62 : MLk RX6 62 yX4_isUnder := List.mem_of_getElem? (i := 283) (by decide +kernel)
theorem mlX6_65 : MLk RX6 65 yX2_leadsTo := List.mem_of_getElem? (i := 287) (by decide +kernel)
theorem mlX6_69 : MLk RX6 69 yX2_putUnder := List.mem_of_getElem? (i := 291) (by decide +kernel)
theorem mlX6_73 : MLk RX6 73 yX6_refusalOfMember := List.mem_of_getElem? (i := 304) (by decide +kernel)
theorem mlX6_84 : MLk RX6 84 yX4_addField := List.mem_of_getElem? (i := 311) (by decide +kernel)
theorem mlX6_88 : MLk RX6 88 yX2_forgetFields := List.mem_of_getElem? (i := 315) (by decide +kernel)
theorem mlX6_98 : MLk RX6 98 yX4_addMethod := List.mem_of_getElem? (i := 320) (by decide +kernel)
theorem mlX6_102 : MLk RX6 102 yX6_isName := List.mem_of_getElem? (i := 308) (by decide +kernel)
theorem mlX6_105 : MLk RX6 105 yX6_usesType := List.mem_of_getElem? (i := 328) (by decide +kernel)
theorem mlX6_108 : MLk RX6 108 yX6_usesName := List.mem_of_getElem? (i := 331) (by decide +kernel)
theorem mlX6_111 : MLk RX6 111 yX6_fitsValue := List.mem_of_getElem? (i := 334) (by decide +kernel)
theorem mlX6_114 : MLk RX6 114 yX4_bodyOf := List.mem_of_getElem? (i := 337) (by decide +kernel)
theorem mlX6_125 : MLk RX6 125 yX0_init := List.mem_of_getElem? (i := 344) (by decide +kernel)
theorem mlX6_128 : MLk RX6 128 yX1_append := List.mem_of_getElem? (i := 368) (by decide +kernel)
theorem mlX6_131 : MLk RX6 131 yX2_countLeading := List.mem_of_getElem? (i := 376) (by decide +kernel)
theorem mlX6_135 : MLk RX6 135 yX4_tell := List.mem_of_getElem? (i := 380) (by decide +kernel)
theorem mlX6_138 : MLk RX6 138 yX2_methodOwner := List.mem_of_getElem? (i := 392) (by decide +kernel)
theorem mlX6_141 : MLk RX6 141 yX2_fieldOwner := List.mem_of_getElem? (i := 396) (by decide +kernel)
theorem mlX6_144 : MLk RX6 144 yX2_listAsked := List.mem_of_getElem? (i := 408) (by decide +kernel)
theorem mlX6_153 : MLk RX6 153 yX2_inRound := List.mem_of_getElem? (i := 438) (by decide +kernel)
theorem mlX6_156 : MLk RX6 156 yX5_clear := List.mem_of_getElem? (i := 448) (by decide +kernel)
theorem mlX6_159 : MLk RX6 159 yX6_refusalOfTouch := List.mem_of_getElem? (i := 461) (by decide +kernel)
theorem mlX6_163 : MLk RX6 163 yX5_takeStateOf := List.mem_of_getElem? (i := 469) (by decide +kernel)
theorem mlX6_169 : MLk RX6 169 yX3_init := List.mem_of_getElem? (i := 478) (by decide +kernel)
theorem mlX6_172 : MLk RX6 172 yX3_doTouch := List.mem_of_getElem? (i := 509) (by decide +kernel)
theorem mlX6_175 : MLk RX6 175 yX5_keepAccount := List.mem_of_getElem? (i := 564) (by decide +kernel)
theorem mlX6_179 : MLk RX6 179 yX6_comesTo := List.mem_of_getElem? (i := 568) (by decide +kernel)
theorem mlX6_182 : MLk RX6 182 yX6_isWorld := List.mem_of_getElem? (i := 465) (by decide +kernel)
theorem mlX6_200 : MLk RX6 200 yX2_valueOf := List.mem_of_getElem? (i := 591) (by decide +kernel)
theorem mlX6_213 : MLk RX6 213 yX5_sameIn := List.mem_of_getElem? (i := 608) (by decide +kernel)
theorem mlX0_1 : MLk RX0 1 objectInit := List.mem_of_getElem? (i := 347) (by decide +kernel)
theorem mlX1_3 : MLk RX1 3 objectInit := List.mem_of_getElem? (i := 191) (by decide +kernel)
theorem mlX2_3 : MLk RX2 3 objectInit := List.mem_of_getElem? (i := 73) (by decide +kernel)
theorem mlX2_28 : MLk RX2 28 yJ7_fill_53178 := List.mem_of_getElem? (i := 76) (by decide +kernel)
theorem mlX2_45 : MLk RX2 45 yX2_leadsTo := List.mem_of_getElem? (i := 295) (by decide +kernel)
theorem mlX2_55 : MLk RX2 55 yX2_forgetFields := List.mem_of_getElem? (i := 296) (by decide +kernel)
theorem mlX2_58 : MLk RX2 58 yX2_seekField := List.mem_of_getElem? (i := 400) (by decide +kernel)
theorem mlX2_82 : MLk RX2 82 yX2_startedByField := List.mem_of_getElem? (i := 428) (by decide +kernel)
theorem mlX2_92 : MLk RX2 92 yX2_methodOwner := List.mem_of_getElem? (i := 433) (by decide +kernel)
theorem mlX2_103 : MLk RX2 103 yX2_fieldOwner := List.mem_of_getElem? (i := 432) (by decide +kernel)
theorem mlX2_109 : MLk RX2 109 yX2_addFirst := List.mem_of_getElem? (i := 420) (by decide +kernel)
theorem mlX2_122 : MLk RX2 122 yX2_addAsked := List.mem_of_getElem? (i := 412) (by decide +kernel)
theorem mlX2_126 : MLk RX2 126 yX2_orderFirsts := List.mem_of_getElem? (i := 416) (by decide +kernel)
theorem mlX2_143 : MLk RX2 143 yX2_startedBy := List.mem_of_getElem? (i := 424) (by decide +kernel)
theorem mlX2_146 : MLk RX2 146 yX2_listAsked := List.mem_of_getElem? (i := 442) (by decide +kernel)
theorem mlX3_3 : MLk RX3 3 objectInit := List.mem_of_getElem? (i := 481) (by decide +kernel)
theorem mlX3_26 : MLk RX3 26 yX3_perform := List.mem_of_getElem? (i := 513) (by decide +kernel)
theorem mlX3_38 : MLk RX3 38 yX3_arise := List.mem_of_getElem? (i := 517) (by decide +kernel)
theorem mlX3_42 : MLk RX3 42 yX2_startedBy := List.mem_of_getElem? (i := 521) (by decide +kernel)
theorem mlX3_48 : MLk RX3 48 yX3_startType := List.mem_of_getElem? (i := 522) (by decide +kernel)
theorem mlX3_59 : MLk RX3 59 yX4_bodyOf := List.mem_of_getElem? (i := 554) (by decide +kernel)
theorem mlX3_65 : MLk RX3 65 yX3_runBody := List.mem_of_getElem? (i := 539) (by decide +kernel)
theorem mlX3_69 : MLk RX3 69 yX3_putThrough := List.mem_of_getElem? (i := 555) (by decide +kernel)
theorem mlX3_73 : MLk RX3 73 yX5_putOnTape := List.mem_of_getElem? (i := 550) (by decide +kernel)
theorem mlX3_82 : MLk RX3 82 yX2_fieldOwner := List.mem_of_getElem? (i := 559) (by decide +kernel)
theorem mlX3_85 : MLk RX3 85 yX2_valueOf := List.mem_of_getElem? (i := 560) (by decide +kernel)
theorem mlX3_99 : MLk RX3 99 yX3_startFirsts := List.mem_of_getElem? (i := 526) (by decide +kernel)
theorem mlX3_103 : MLk RX3 103 yX3_runStart := List.mem_of_getElem? (i := 531) (by decide +kernel)
theorem mlX3_113 : MLk RX3 113 yX2_orderFirsts := List.mem_of_getElem? (i := 530) (by decide +kernel)
theorem mlX3_123 : MLk RX3 123 yX5_putInRow := List.mem_of_getElem? (i := 535) (by decide +kernel)
theorem mlX3_136 : MLk RX3 136 yJ9_max_7cf53 := List.mem_of_getElem? (i := 543) (by decide +kernel)
theorem mlX3_149 : MLk RX3 149 yX3_takeFailure := List.mem_of_getElem? (i := 546) (by decide +kernel)
theorem mlX4_3 : MLk RX4 3 objectInit := List.mem_of_getElem? (i := 184) (by decide +kernel)
theorem mlX5_3 : MLk RX5 3 objectInit := List.mem_of_getElem? (i := 114) (by decide +kernel)
theorem mlX5_34 : MLk RX5 34 yJ7_fill_53178 := List.mem_of_getElem? (i := 452) (by decide +kernel)
theorem mlL_9 : MLk RL 9 yX6_init := List.mem_of_getElem? (i := 62) (by decide +kernel)
theorem mlL_12 : MLk RL 12 yX7_init := List.mem_of_getElem? (i := 614) (by decide +kernel)
theorem mlL_13 : MLk RL 13 yX6_cls := List.mem_of_getElem? (i := 167) (by decide +kernel)
theorem mlL_17 : MLk RL 17 yX7_cls := List.mem_of_getElem? (i := 794) (by decide +kernel)
theorem mlL_18 : MLk RL 18 yX6_face := List.mem_of_getElem? (i := 275) (by decide +kernel)
theorem mlL_22 : MLk RL 22 yX7_face := List.mem_of_getElem? (i := 809) (by decide +kernel)
theorem mlL_23 : MLk RL 23 yX6_under := List.mem_of_getElem? (i := 279) (by decide +kernel)
theorem mlL_27 : MLk RL 27 yX7_under := List.mem_of_getElem? (i := 813) (by decide +kernel)
theorem mlL_28 : MLk RL 28 yX6_field := List.mem_of_getElem? (i := 300) (by decide +kernel)
theorem mlL_32 : MLk RL 32 yX7_field := List.mem_of_getElem? (i := 821) (by decide +kernel)
theorem mlL_33 : MLk RL 33 yX6_method := List.mem_of_getElem? (i := 316) (by decide +kernel)
theorem mlL_36 : MLk RL 36 yX7_method := List.mem_of_getElem? (i := 829) (by decide +kernel)
theorem mlL_37 : MLk RL 37 yX6_act := List.mem_of_getElem? (i := 324) (by decide +kernel)
theorem mlL_41 : MLk RL 41 yX7_act := List.mem_of_getElem? (i := 837) (by decide +kernel)
theorem mlL_42 : MLk RL 42 yX6_told := List.mem_of_getElem? (i := 372) (by decide +kernel)
theorem mlL_45 : MLk RL 45 yX7_told := List.mem_of_getElem? (i := 841) (by decide +kernel)
theorem mlL_46 : MLk RL 46 yX6_below := List.mem_of_getElem? (i := 384) (by decide +kernel)
theorem mlL_49 : MLk RL 49 yX7_below := List.mem_of_getElem? (i := 845) (by decide +kernel)
theorem mlL_50 : MLk RL 50 yX6_found := List.mem_of_getElem? (i := 388) (by decide +kernel)
theorem mlL_54 : MLk RL 54 yX7_found := List.mem_of_getElem? (i := 849) (by decide +kernel)
theorem mlL_55 : MLk RL 55 yX6_asks := List.mem_of_getElem? (i := 404) (by decide +kernel)
theorem mlL_58 : MLk RL 58 yX7_asks := List.mem_of_getElem? (i := 861) (by decide +kernel)
theorem mlL_59 : MLk RL 59 yX6_round := List.mem_of_getElem? (i := 434) (by decide +kernel)
theorem mlL_63 : MLk RL 63 yX7_round := List.mem_of_getElem? (i := 885) (by decide +kernel)
theorem mlL_64 : MLk RL 64 yX6_world := List.mem_of_getElem? (i := 444) (by decide +kernel)
theorem mlL_68 : MLk RL 68 yX7_world := List.mem_of_getElem? (i := 893) (by decide +kernel)
theorem mlL_69 : MLk RL 69 yX6_gone := List.mem_of_getElem? (i := 453) (by decide +kernel)
theorem mlL_72 : MLk RL 72 yX7_gone := List.mem_of_getElem? (i := 897) (by decide +kernel)
theorem mlL_73 : MLk RL 73 yX6_touch := List.mem_of_getElem? (i := 457) (by decide +kernel)
theorem mlL_77 : MLk RL 77 yX7_touch := List.mem_of_getElem? (i := 901) (by decide +kernel)
theorem mlL_78 : MLk RL 78 yX6_foretell := List.mem_of_getElem? (i := 571) (by decide +kernel)
theorem mlL_81 : MLk RL 81 yX7_foretell := List.mem_of_getElem? (i := 981) (by decide +kernel)
theorem mlL_82 : MLk RL 82 yX6_state := List.mem_of_getElem? (i := 575) (by decide +kernel)
theorem mlL_85 : MLk RL 85 yX7_state := List.mem_of_getElem? (i := 985) (by decide +kernel)
theorem mlL_86 : MLk RL 86 yX6_began := List.mem_of_getElem? (i := 579) (by decide +kernel)
theorem mlL_89 : MLk RL 89 yX7_began := List.mem_of_getElem? (i := 989) (by decide +kernel)
theorem mlL_90 : MLk RL 90 yX6_tape := List.mem_of_getElem? (i := 583) (by decide +kernel)
theorem mlL_93 : MLk RL 93 yX7_tape := List.mem_of_getElem? (i := 993) (by decide +kernel)
theorem mlL_94 : MLk RL 94 yX6_value := List.mem_of_getElem? (i := 587) (by decide +kernel)
theorem mlL_98 : MLk RL 98 yX7_value := List.mem_of_getElem? (i := 997) (by decide +kernel)
theorem mlL_99 : MLk RL 99 yX6_failed := List.mem_of_getElem? (i := 592) (by decide +kernel)
theorem mlL_102 : MLk RL 102 yX7_failed := List.mem_of_getElem? (i := 1001) (by decide +kernel)
theorem mlL_103 : MLk RL 103 yX6_spent := List.mem_of_getElem? (i := 596) (by decide +kernel)
theorem mlL_106 : MLk RL 106 yX7_spent := List.mem_of_getElem? (i := 1005) (by decide +kernel)
theorem mlL_107 : MLk RL 107 yX6_many := List.mem_of_getElem? (i := 600) (by decide +kernel)
theorem mlL_110 : MLk RL 110 yX7_many := List.mem_of_getElem? (i := 1009) (by decide +kernel)
theorem mlL_111 : MLk RL 111 yX6_differs := List.mem_of_getElem? (i := 604) (by decide +kernel)
theorem mlL_114 : MLk RL 114 yX7_differs := List.mem_of_getElem? (i := 1013) (by decide +kernel)
theorem mlX7_1 : MLk RX7 1 objectInit := List.mem_of_getElem? (i := 617) (by decide +kernel)
theorem mlX7_132 : MLk RX7 132 yX7_in := List.mem_of_getElem? (i := 802) (by decide +kernel)
theorem mlX7_136 : MLk RX7 136 yX7_isType := List.mem_of_getElem? (i := 798) (by decide +kernel)
theorem mlX7_143 : MLk RX7 143 yX7_make := List.mem_of_getElem? (i := 805) (by decide +kernel)
theorem mlX7_147 : MLk RX7 147 yX7_leads := List.mem_of_getElem? (i := 817) (by decide +kernel)
theorem mlX7_151 : MLk RX7 151 yX7_ownField := List.mem_of_getElem? (i := 825) (by decide +kernel)
theorem mlX7_155 : MLk RX7 155 yX7_ownMethod := List.mem_of_getElem? (i := 833) (by decide +kernel)
theorem mlX7_158 : MLk RX7 158 yX7_findMethod := List.mem_of_getElem? (i := 853) (by decide +kernel)
theorem mlX7_161 : MLk RX7 161 yX7_findField := List.mem_of_getElem? (i := 857) (by decide +kernel)
theorem mlX7_167 : MLk RX7 167 yX7_isRuled := List.mem_of_getElem? (i := 881) (by decide +kernel)
theorem mlX7_173 : MLk RX7 173 yX7_listFirst := List.mem_of_getElem? (i := 869) (by decide +kernel)
theorem mlX7_177 : MLk RX7 177 yX7_addAsked := List.mem_of_getElem? (i := 873) (by decide +kernel)
theorem mlX7_181 : MLk RX7 181 yX7_started := List.mem_of_getElem? (i := 877) (by decide +kernel)
theorem mlX7_185 : MLk RX7 185 yX7_listAsked := List.mem_of_getElem? (i := 865) (by decide +kernel)
theorem mlX7_188 : MLk RX7 188 yX7_isRound := List.mem_of_getElem? (i := 889) (by decide +kernel)
theorem mlX7_219 : MLk RX7 219 yX7_fail := List.mem_of_getElem? (i := 925) (by decide +kernel)
theorem mlX7_222 : MLk RX7 222 yX7_start := List.mem_of_getElem? (i := 941) (by decide +kernel)
theorem mlX7_228 : MLk RX7 228 yX7_pushBody := List.mem_of_getElem? (i := 945) (by decide +kernel)
theorem mlX7_243 : MLk RX7 243 yX7_goBehind := List.mem_of_getElem? (i := 953) (by decide +kernel)
theorem mlX7_246 : MLk RX7 246 yX7_sizeOf := List.mem_of_getElem? (i := 973) (by decide +kernel)
theorem mlX7_253 : MLk RX7 253 yX7_kindAt := List.mem_of_getElem? (i := 969) (by decide +kernel)
theorem mlX7_256 : MLk RX7 256 yX7_typeAt := List.mem_of_getElem? (i := 957) (by decide +kernel)
theorem mlX7_259 : MLk RX7 259 yX7_nameAt := List.mem_of_getElem? (i := 961) (by decide +kernel)
theorem mlX7_262 : MLk RX7 262 yX7_valueAt := List.mem_of_getElem? (i := 965) (by decide +kernel)
theorem mlX7_265 : MLk RX7 265 yX7_did := List.mem_of_getElem? (i := 933) (by decide +kernel)
theorem mlX7_268 : MLk RX7 268 yX7_onTape := List.mem_of_getElem? (i := 929) (by decide +kernel)
theorem mlX7_271 : MLk RX7 271 yX7_goDown := List.mem_of_getElem? (i := 921) (by decide +kernel)
theorem mlX7_274 : MLk RX7 274 yX7_goOnStart := List.mem_of_getElem? (i := 937) (by decide +kernel)
theorem mlX7_277 : MLk RX7 277 yX7_goOnBody := List.mem_of_getElem? (i := 949) (by decide +kernel)
theorem mlX7_280 : MLk RX7 280 yX7_isWorld := List.mem_of_getElem? (i := 909) (by decide +kernel)
theorem mlX7_283 : MLk RX7 283 yX7_refusal := List.mem_of_getElem? (i := 905) (by decide +kernel)
theorem mlX7_287 : MLk RX7 287 yX7_copy := List.mem_of_getElem? (i := 913) (by decide +kernel)
theorem mlX7_290 : MLk RX7 290 yX7_go := List.mem_of_getElem? (i := 917) (by decide +kernel)
theorem mlX7_294 : MLk RX7 294 yX7_cameTo := List.mem_of_getElem? (i := 977) (by decide +kernel)
theorem mnX6_26 : Cond.methodLinkNest RX6 26 yX5_init "StartBench" ∈ lw_tbl := List.mem_of_getElem? (i := 111) (by decide +kernel)
theorem mnX4_27 : Cond.methodLinkNest RX4 27 yX1_init "StartBench" ∈ lw_tbl := List.mem_of_getElem? (i := 188) (by decide +kernel)
theorem mnX4_55 : Cond.methodLinkNest RX4 55 yX6_isName "StartBench" ∈ lw_tbl := List.mem_of_getElem? (i := 341) (by decide +kernel)
theorem ckX6_7 : CLk RX6 7 2 := ⟨List.mem_of_getElem? (i := 68) (by decide +kernel), List.mem_of_getElem? (i := 69) (by decide +kernel), List.mem_of_getElem? (i := 50) (by decide +kernel), by decide⟩
theorem ckX6_16 : CLk RX6 16 5 := ⟨List.mem_of_getElem? (i := 108) (by decide +kernel), List.mem_of_getElem? (i := 110) (by decide +kernel), List.mem_of_getElem? (i := 52) (by decide +kernel), by decide⟩
theorem caX6_16 : CLa RX6 16 5 := ⟨List.mem_of_getElem? (i := 108) (by decide +kernel), List.mem_of_getElem? (i := 109) (by decide +kernel), by decide⟩
theorem ckX6_40 : CLk RX6 40 4 := ⟨List.mem_of_getElem? (i := 179) (by decide +kernel), List.mem_of_getElem? (i := 180) (by decide +kernel), List.mem_of_getElem? (i := 54) (by decide +kernel), by decide⟩
theorem caX6_40 : CLa RX6 40 4 := ⟨List.mem_of_getElem? (i := 179) (by decide +kernel), List.mem_of_getElem? (i := 75) (by decide +kernel), by decide⟩
theorem ckX6_123 : CLk RX6 123 0 := ⟨List.mem_of_getElem? (i := 342) (by decide +kernel), List.mem_of_getElem? (i := 343) (by decide +kernel), List.mem_of_getElem? (i := 56) (by decide +kernel), by decide⟩
theorem caX6_123 : CLa RX6 123 0 := ⟨List.mem_of_getElem? (i := 342) (by decide +kernel), List.mem_of_getElem? (i := 193) (by decide +kernel), by decide⟩
theorem ckX6_167 : CLk RX6 167 3 := ⟨List.mem_of_getElem? (i := 476) (by decide +kernel), List.mem_of_getElem? (i := 477) (by decide +kernel), List.mem_of_getElem? (i := 58) (by decide +kernel), by decide⟩
theorem ckX1_9 : CLk RX1 9 0 := ⟨List.mem_of_getElem? (i := 192) (by decide +kernel), List.mem_of_getElem? (i := 343) (by decide +kernel), List.mem_of_getElem? (i := 56) (by decide +kernel), by decide⟩
theorem caX1_9 : CLa RX1 9 0 := ⟨List.mem_of_getElem? (i := 192) (by decide +kernel), List.mem_of_getElem? (i := 193) (by decide +kernel), by decide⟩
theorem ckX2_9 : CLk RX2 9 4 := ⟨List.mem_of_getElem? (i := 74) (by decide +kernel), List.mem_of_getElem? (i := 180) (by decide +kernel), List.mem_of_getElem? (i := 54) (by decide +kernel), by decide⟩
theorem caX2_9 : CLa RX2 9 4 := ⟨List.mem_of_getElem? (i := 74) (by decide +kernel), List.mem_of_getElem? (i := 75) (by decide +kernel), by decide⟩
theorem ckX4_21 : CLk RX4 21 1 := ⟨List.mem_of_getElem? (i := 185) (by decide +kernel), List.mem_of_getElem? (i := 187) (by decide +kernel), List.mem_of_getElem? (i := 55) (by decide +kernel), by decide⟩
theorem caX4_21 : CLa RX4 21 1 := ⟨List.mem_of_getElem? (i := 185) (by decide +kernel), List.mem_of_getElem? (i := 186) (by decide +kernel), by decide⟩
theorem ckL_7 : CLk RL 7 6 := ⟨List.mem_of_getElem? (i := 60) (by decide +kernel), List.mem_of_getElem? (i := 61) (by decide +kernel), List.mem_of_getElem? (i := 49) (by decide +kernel), by decide⟩
theorem ckL_10 : CLk RL 10 7 := ⟨List.mem_of_getElem? (i := 612) (by decide +kernel), List.mem_of_getElem? (i := 613) (by decide +kernel), List.mem_of_getElem? (i := 53) (by decide +kernel), by decide⟩
theorem mw_X6_init : MWk yX6_init cX6_init 1 (Option.none : Option FieldType) := ⟨List.mem_of_getElem? (i := 64) (by decide +kernel), List.mem_of_getElem? (i := 49) (by decide +kernel)⟩
theorem im_X6_init : IMk yX6_init := List.mem_of_getElem? (i := 63) (by decide +kernel)
theorem mw_X6_act : MWk yX6_act cX6_act 8 (Option.some FieldType.int) := ⟨List.mem_of_getElem? (i := 327) (by decide +kernel), List.mem_of_getElem? (i := 49) (by decide +kernel)⟩
theorem im_X6_act : IMk yX6_act := List.mem_of_getElem? (i := 325) (by decide +kernel)
theorem sl_X6_act : SLk yX6_act := List.mem_of_getElem? (i := 326) (by decide +kernel)
theorem mw_X6_addType : MWk yX6_addType cX6_addType 4 (Option.some FieldType.int) := ⟨List.mem_of_getElem? (i := 178) (by decide +kernel), List.mem_of_getElem? (i := 49) (by decide +kernel)⟩
theorem im_X6_addType : IMk yX6_addType := List.mem_of_getElem? (i := 177) (by decide +kernel)
theorem sl_X6_addType : SLk yX6_addType := List.mem_of_getElem? (i := 0) (by decide +kernel)
theorem mw_X6_asks : MWk yX6_asks cX6_asks 3 (Option.some FieldType.int) := ⟨List.mem_of_getElem? (i := 407) (by decide +kernel), List.mem_of_getElem? (i := 49) (by decide +kernel)⟩
theorem im_X6_asks : IMk yX6_asks := List.mem_of_getElem? (i := 405) (by decide +kernel)
theorem sl_X6_asks : SLk yX6_asks := List.mem_of_getElem? (i := 406) (by decide +kernel)
theorem mw_X6_began : MWk yX6_began cX6_began 4 (Option.some FieldType.int) := ⟨List.mem_of_getElem? (i := 582) (by decide +kernel), List.mem_of_getElem? (i := 49) (by decide +kernel)⟩
theorem im_X6_began : IMk yX6_began := List.mem_of_getElem? (i := 580) (by decide +kernel)
theorem sl_X6_began : SLk yX6_began := List.mem_of_getElem? (i := 581) (by decide +kernel)
theorem mw_X6_below : MWk yX6_below cX6_below 3 (Option.some FieldType.int) := ⟨List.mem_of_getElem? (i := 387) (by decide +kernel), List.mem_of_getElem? (i := 49) (by decide +kernel)⟩
theorem im_X6_below : IMk yX6_below := List.mem_of_getElem? (i := 385) (by decide +kernel)
theorem sl_X6_below : SLk yX6_below := List.mem_of_getElem? (i := 386) (by decide +kernel)
theorem mw_X6_cls : MWk yX6_cls cX6_cls 3 (Option.some FieldType.int) := ⟨List.mem_of_getElem? (i := 170) (by decide +kernel), List.mem_of_getElem? (i := 49) (by decide +kernel)⟩
theorem im_X6_cls : IMk yX6_cls := List.mem_of_getElem? (i := 168) (by decide +kernel)
theorem sl_X6_cls : SLk yX6_cls := List.mem_of_getElem? (i := 169) (by decide +kernel)
theorem mw_X6_comesTo : MWk yX6_comesTo cX6_comesTo 1 (Option.some FieldType.int) := ⟨List.mem_of_getElem? (i := 570) (by decide +kernel), List.mem_of_getElem? (i := 49) (by decide +kernel)⟩
theorem sm_X6_comesTo : SMk yX6_comesTo := List.mem_of_getElem? (i := 569) (by decide +kernel)
theorem mw_X6_differs : MWk yX6_differs cX6_differs 4 (Option.some FieldType.int) := ⟨List.mem_of_getElem? (i := 607) (by decide +kernel), List.mem_of_getElem? (i := 49) (by decide +kernel)⟩
theorem im_X6_differs : IMk yX6_differs := List.mem_of_getElem? (i := 605) (by decide +kernel)
theorem sl_X6_differs : SLk yX6_differs := List.mem_of_getElem? (i := 606) (by decide +kernel)
theorem mw_X6_face : MWk yX6_face cX6_face 2 (Option.some FieldType.int) := ⟨List.mem_of_getElem? (i := 278) (by decide +kernel), List.mem_of_getElem? (i := 49) (by decide +kernel)⟩
theorem im_X6_face : IMk yX6_face := List.mem_of_getElem? (i := 276) (by decide +kernel)
theorem sl_X6_face : SLk yX6_face := List.mem_of_getElem? (i := 277) (by decide +kernel)
theorem mw_X6_failed : MWk yX6_failed cX6_failed 3 (Option.some FieldType.int) := ⟨List.mem_of_getElem? (i := 595) (by decide +kernel), List.mem_of_getElem? (i := 49) (by decide +kernel)⟩
theorem im_X6_failed : IMk yX6_failed := List.mem_of_getElem? (i := 593) (by decide +kernel)
theorem sl_X6_failed : SLk yX6_failed := List.mem_of_getElem? (i := 594) (by decide +kernel)
theorem mw_X6_field : MWk yX6_field cX6_field 7 (Option.some FieldType.int) := ⟨List.mem_of_getElem? (i := 303) (by decide +kernel), List.mem_of_getElem? (i := 49) (by decide +kernel)⟩
theorem im_X6_field : IMk yX6_field := List.mem_of_getElem? (i := 301) (by decide +kernel)
theorem sl_X6_field : SLk yX6_field := List.mem_of_getElem? (i := 302) (by decide +kernel)
theorem mw_X6_fitsValue : MWk yX6_fitsValue cX6_fitsValue 2 (Option.some FieldType.boolean) := ⟨List.mem_of_getElem? (i := 336) (by decide +kernel), List.mem_of_getElem? (i := 49) (by decide +kernel)⟩
theorem sm_X6_fitsValue : SMk yX6_fitsValue := List.mem_of_getElem? (i := 335) (by decide +kernel)
theorem mw_X6_foretell : MWk yX6_foretell cX6_foretell 9 (Option.some FieldType.int) := ⟨List.mem_of_getElem? (i := 574) (by decide +kernel), List.mem_of_getElem? (i := 49) (by decide +kernel)⟩
theorem im_X6_foretell : IMk yX6_foretell := List.mem_of_getElem? (i := 572) (by decide +kernel)
theorem sl_X6_foretell : SLk yX6_foretell := List.mem_of_getElem? (i := 573) (by decide +kernel)
theorem mw_X6_found : MWk yX6_found cX6_found 4 (Option.some FieldType.int) := ⟨List.mem_of_getElem? (i := 391) (by decide +kernel), List.mem_of_getElem? (i := 49) (by decide +kernel)⟩
theorem im_X6_found : IMk yX6_found := List.mem_of_getElem? (i := 389) (by decide +kernel)
theorem sl_X6_found : SLk yX6_found := List.mem_of_getElem? (i := 390) (by decide +kernel)
theorem mw_X6_gone : MWk yX6_gone cX6_gone 2 (Option.some FieldType.int) := ⟨List.mem_of_getElem? (i := 456) (by decide +kernel), List.mem_of_getElem? (i := 49) (by decide +kernel)⟩
theorem im_X6_gone : IMk yX6_gone := List.mem_of_getElem? (i := 454) (by decide +kernel)
theorem sl_X6_gone : SLk yX6_gone := List.mem_of_getElem? (i := 455) (by decide +kernel)
theorem mw_X6_isName : MWk yX6_isName cX6_isName 1 (Option.some FieldType.boolean) := ⟨List.mem_of_getElem? (i := 310) (by decide +kernel), List.mem_of_getElem? (i := 49) (by decide +kernel)⟩
theorem sm_X6_isName : SMk yX6_isName := List.mem_of_getElem? (i := 309) (by decide +kernel)
theorem mw_X6_isWorld : MWk yX6_isWorld cX6_isWorld 2 (Option.some FieldType.boolean) := ⟨List.mem_of_getElem? (i := 468) (by decide +kernel), List.mem_of_getElem? (i := 49) (by decide +kernel)⟩
theorem im_X6_isWorld : IMk yX6_isWorld := List.mem_of_getElem? (i := 467) (by decide +kernel)
theorem sl_X6_isWorld : SLk yX6_isWorld := List.mem_of_getElem? (i := 7) (by decide +kernel)
theorem mw_X6_many : MWk yX6_many cX6_many 5 (Option.some FieldType.int) := ⟨List.mem_of_getElem? (i := 603) (by decide +kernel), List.mem_of_getElem? (i := 49) (by decide +kernel)⟩
theorem im_X6_many : IMk yX6_many := List.mem_of_getElem? (i := 601) (by decide +kernel)
theorem sl_X6_many : SLk yX6_many := List.mem_of_getElem? (i := 602) (by decide +kernel)
theorem mw_X6_method : MWk yX6_method cX6_method 5 (Option.some FieldType.int) := ⟨List.mem_of_getElem? (i := 319) (by decide +kernel), List.mem_of_getElem? (i := 49) (by decide +kernel)⟩
theorem im_X6_method : IMk yX6_method := List.mem_of_getElem? (i := 317) (by decide +kernel)
theorem sl_X6_method : SLk yX6_method := List.mem_of_getElem? (i := 318) (by decide +kernel)
theorem mw_X6_refusalOfMember : MWk yX6_refusalOfMember cX6_refusalOfMember 3 (Option.some FieldType.int) := ⟨List.mem_of_getElem? (i := 307) (by decide +kernel), List.mem_of_getElem? (i := 49) (by decide +kernel)⟩
theorem im_X6_refusalOfMember : IMk yX6_refusalOfMember := List.mem_of_getElem? (i := 306) (by decide +kernel)
theorem sl_X6_refusalOfMember : SLk yX6_refusalOfMember := List.mem_of_getElem? (i := 1) (by decide +kernel)
theorem mw_X6_refusalOfTouch : MWk yX6_refusalOfTouch cX6_refusalOfTouch 5 (Option.some FieldType.int) := ⟨List.mem_of_getElem? (i := 464) (by decide +kernel), List.mem_of_getElem? (i := 49) (by decide +kernel)⟩
theorem im_X6_refusalOfTouch : IMk yX6_refusalOfTouch := List.mem_of_getElem? (i := 463) (by decide +kernel)
theorem sl_X6_refusalOfTouch : SLk yX6_refusalOfTouch := List.mem_of_getElem? (i := 6) (by decide +kernel)
theorem mw_X6_round : MWk yX6_round cX6_round 2 (Option.some FieldType.int) := ⟨List.mem_of_getElem? (i := 437) (by decide +kernel), List.mem_of_getElem? (i := 49) (by decide +kernel)⟩
theorem im_X6_round : IMk yX6_round := List.mem_of_getElem? (i := 435) (by decide +kernel)
theorem sl_X6_round : SLk yX6_round := List.mem_of_getElem? (i := 436) (by decide +kernel)
theorem mw_X6_spent : MWk yX6_spent cX6_spent 3 (Option.some FieldType.int) := ⟨List.mem_of_getElem? (i := 599) (by decide +kernel), List.mem_of_getElem? (i := 49) (by decide +kernel)⟩
theorem im_X6_spent : IMk yX6_spent := List.mem_of_getElem? (i := 597) (by decide +kernel)
theorem sl_X6_spent : SLk yX6_spent := List.mem_of_getElem? (i := 598) (by decide +kernel)
theorem mw_X6_state : MWk yX6_state cX6_state 3 (Option.some FieldType.int) := ⟨List.mem_of_getElem? (i := 578) (by decide +kernel), List.mem_of_getElem? (i := 49) (by decide +kernel)⟩
theorem im_X6_state : IMk yX6_state := List.mem_of_getElem? (i := 576) (by decide +kernel)
theorem sl_X6_state : SLk yX6_state := List.mem_of_getElem? (i := 577) (by decide +kernel)
theorem mw_X6_tape : MWk yX6_tape cX6_tape 4 (Option.some FieldType.int) := ⟨List.mem_of_getElem? (i := 586) (by decide +kernel), List.mem_of_getElem? (i := 49) (by decide +kernel)⟩
theorem im_X6_tape : IMk yX6_tape := List.mem_of_getElem? (i := 584) (by decide +kernel)
theorem sl_X6_tape : SLk yX6_tape := List.mem_of_getElem? (i := 585) (by decide +kernel)
theorem mw_X6_told : MWk yX6_told cX6_told 3 (Option.some FieldType.int) := ⟨List.mem_of_getElem? (i := 375) (by decide +kernel), List.mem_of_getElem? (i := 49) (by decide +kernel)⟩
theorem im_X6_told : IMk yX6_told := List.mem_of_getElem? (i := 373) (by decide +kernel)
theorem sl_X6_told : SLk yX6_told := List.mem_of_getElem? (i := 374) (by decide +kernel)
theorem mw_X6_touch : MWk yX6_touch cX6_touch 10 (Option.some FieldType.int) := ⟨List.mem_of_getElem? (i := 460) (by decide +kernel), List.mem_of_getElem? (i := 49) (by decide +kernel)⟩
theorem im_X6_touch : IMk yX6_touch := List.mem_of_getElem? (i := 458) (by decide +kernel)
theorem sl_X6_touch : SLk yX6_touch := List.mem_of_getElem? (i := 459) (by decide +kernel)
theorem mw_X6_under : MWk yX6_under cX6_under 4 (Option.some FieldType.int) := ⟨List.mem_of_getElem? (i := 282) (by decide +kernel), List.mem_of_getElem? (i := 49) (by decide +kernel)⟩
theorem im_X6_under : IMk yX6_under := List.mem_of_getElem? (i := 280) (by decide +kernel)
theorem sl_X6_under : SLk yX6_under := List.mem_of_getElem? (i := 281) (by decide +kernel)
theorem mw_X6_usesName : MWk yX6_usesName cX6_usesName 1 (Option.some FieldType.boolean) := ⟨List.mem_of_getElem? (i := 333) (by decide +kernel), List.mem_of_getElem? (i := 49) (by decide +kernel)⟩
theorem sm_X6_usesName : SMk yX6_usesName := List.mem_of_getElem? (i := 332) (by decide +kernel)
theorem mw_X6_usesType : MWk yX6_usesType cX6_usesType 1 (Option.some FieldType.boolean) := ⟨List.mem_of_getElem? (i := 330) (by decide +kernel), List.mem_of_getElem? (i := 49) (by decide +kernel)⟩
theorem sm_X6_usesType : SMk yX6_usesType := List.mem_of_getElem? (i := 329) (by decide +kernel)
theorem mw_X6_value : MWk yX6_value cX6_value 5 (Option.some FieldType.int) := ⟨List.mem_of_getElem? (i := 590) (by decide +kernel), List.mem_of_getElem? (i := 49) (by decide +kernel)⟩
theorem im_X6_value : IMk yX6_value := List.mem_of_getElem? (i := 588) (by decide +kernel)
theorem sl_X6_value : SLk yX6_value := List.mem_of_getElem? (i := 589) (by decide +kernel)
theorem mw_X6_world : MWk yX6_world cX6_world 1 (Option.some FieldType.int) := ⟨List.mem_of_getElem? (i := 447) (by decide +kernel), List.mem_of_getElem? (i := 49) (by decide +kernel)⟩
theorem im_X6_world : IMk yX6_world := List.mem_of_getElem? (i := 445) (by decide +kernel)
theorem sl_X6_world : SLk yX6_world := List.mem_of_getElem? (i := 446) (by decide +kernel)
theorem mw_X0_init : MWk yX0_init cX0_init 5 (Option.none : Option FieldType) := ⟨List.mem_of_getElem? (i := 346) (by decide +kernel), List.mem_of_getElem? (i := 56) (by decide +kernel)⟩
theorem im_X0_init : IMk yX0_init := List.mem_of_getElem? (i := 345) (by decide +kernel)
theorem mw_X1_init : MWk yX1_init cX1_init 1 (Option.none : Option FieldType) := ⟨List.mem_of_getElem? (i := 190) (by decide +kernel), List.mem_of_getElem? (i := 55) (by decide +kernel)⟩
theorem im_X1_init : IMk yX1_init := List.mem_of_getElem? (i := 189) (by decide +kernel)
theorem mw_X1_append : MWk yX1_append cX1_append 2 (Option.some FieldType.int) := ⟨List.mem_of_getElem? (i := 371) (by decide +kernel), List.mem_of_getElem? (i := 55) (by decide +kernel)⟩
theorem im_X1_append : IMk yX1_append := List.mem_of_getElem? (i := 369) (by decide +kernel)
theorem sl_X1_append : SLk yX1_append := List.mem_of_getElem? (i := 370) (by decide +kernel)
theorem mw_X2_init : MWk yX2_init cX2_init 1 (Option.none : Option FieldType) := ⟨List.mem_of_getElem? (i := 72) (by decide +kernel), List.mem_of_getElem? (i := 50) (by decide +kernel)⟩
theorem im_X2_init : IMk yX2_init := List.mem_of_getElem? (i := 71) (by decide +kernel)
theorem mw_X2_addAsked : MWk yX2_addAsked cX2_addAsked 2 (Option.none : Option FieldType) := ⟨List.mem_of_getElem? (i := 415) (by decide +kernel), List.mem_of_getElem? (i := 50) (by decide +kernel)⟩
theorem im_X2_addAsked : IMk yX2_addAsked := List.mem_of_getElem? (i := 414) (by decide +kernel)
theorem sl_X2_addAsked : SLk yX2_addAsked := List.mem_of_getElem? (i := 3) (by decide +kernel)
theorem mw_X2_addFirst : MWk yX2_addFirst cX2_addFirst 10 (Option.some FieldType.long) := ⟨List.mem_of_getElem? (i := 423) (by decide +kernel), List.mem_of_getElem? (i := 50) (by decide +kernel)⟩
theorem im_X2_addFirst : IMk yX2_addFirst := List.mem_of_getElem? (i := 422) (by decide +kernel)
theorem sl_X2_addFirst : SLk yX2_addFirst := List.mem_of_getElem? (i := 4) (by decide +kernel)
theorem mw_X2_append : MWk yX2_append cX2_append 2 (Option.some FieldType.int) := ⟨List.mem_of_getElem? (i := 274) (by decide +kernel), List.mem_of_getElem? (i := 50) (by decide +kernel)⟩
theorem im_X2_append : IMk yX2_append := List.mem_of_getElem? (i := 272) (by decide +kernel)
theorem sl_X2_append : SLk yX2_append := List.mem_of_getElem? (i := 273) (by decide +kernel)
theorem mw_X2_countLeading : MWk yX2_countLeading cX2_countLeading 4 (Option.some FieldType.int) := ⟨List.mem_of_getElem? (i := 379) (by decide +kernel), List.mem_of_getElem? (i := 50) (by decide +kernel)⟩
theorem im_X2_countLeading : IMk yX2_countLeading := List.mem_of_getElem? (i := 377) (by decide +kernel)
theorem sl_X2_countLeading : SLk yX2_countLeading := List.mem_of_getElem? (i := 378) (by decide +kernel)
theorem mw_X2_fieldOwner : MWk yX2_fieldOwner cX2_fieldOwner 3 (Option.some FieldType.int) := ⟨List.mem_of_getElem? (i := 399) (by decide +kernel), List.mem_of_getElem? (i := 50) (by decide +kernel)⟩
theorem im_X2_fieldOwner : IMk yX2_fieldOwner := List.mem_of_getElem? (i := 397) (by decide +kernel)
theorem sl_X2_fieldOwner : SLk yX2_fieldOwner := List.mem_of_getElem? (i := 398) (by decide +kernel)
theorem mw_X2_forgetFields : MWk yX2_forgetFields cX2_forgetFields 1 (Option.none : Option FieldType) := ⟨List.mem_of_getElem? (i := 299) (by decide +kernel), List.mem_of_getElem? (i := 50) (by decide +kernel)⟩
theorem im_X2_forgetFields : IMk yX2_forgetFields := List.mem_of_getElem? (i := 297) (by decide +kernel)
theorem sl_X2_forgetFields : SLk yX2_forgetFields := List.mem_of_getElem? (i := 298) (by decide +kernel)
theorem mw_X2_inRound : MWk yX2_inRound cX2_inRound 4 (Option.some FieldType.int) := ⟨List.mem_of_getElem? (i := 441) (by decide +kernel), List.mem_of_getElem? (i := 50) (by decide +kernel)⟩
theorem im_X2_inRound : IMk yX2_inRound := List.mem_of_getElem? (i := 439) (by decide +kernel)
theorem sl_X2_inRound : SLk yX2_inRound := List.mem_of_getElem? (i := 440) (by decide +kernel)
theorem mw_X2_knows : MWk yX2_knows cX2_knows 2 (Option.some FieldType.boolean) := ⟨List.mem_of_getElem? (i := 174) (by decide +kernel), List.mem_of_getElem? (i := 50) (by decide +kernel)⟩
theorem im_X2_knows : IMk yX2_knows := List.mem_of_getElem? (i := 172) (by decide +kernel)
theorem sl_X2_knows : SLk yX2_knows := List.mem_of_getElem? (i := 173) (by decide +kernel)
theorem mw_X2_leadsTo : MWk yX2_leadsTo cX2_leadsTo 3 (Option.some FieldType.boolean) := ⟨List.mem_of_getElem? (i := 290) (by decide +kernel), List.mem_of_getElem? (i := 50) (by decide +kernel)⟩
theorem im_X2_leadsTo : IMk yX2_leadsTo := List.mem_of_getElem? (i := 288) (by decide +kernel)
theorem sl_X2_leadsTo : SLk yX2_leadsTo := List.mem_of_getElem? (i := 289) (by decide +kernel)
theorem mw_X2_listAsked : MWk yX2_listAsked cX2_listAsked 4 (Option.none : Option FieldType) := ⟨List.mem_of_getElem? (i := 411) (by decide +kernel), List.mem_of_getElem? (i := 50) (by decide +kernel)⟩
theorem im_X2_listAsked : IMk yX2_listAsked := List.mem_of_getElem? (i := 409) (by decide +kernel)
theorem sl_X2_listAsked : SLk yX2_listAsked := List.mem_of_getElem? (i := 410) (by decide +kernel)
theorem mw_X2_methodOwner : MWk yX2_methodOwner cX2_methodOwner 5 (Option.some FieldType.int) := ⟨List.mem_of_getElem? (i := 395) (by decide +kernel), List.mem_of_getElem? (i := 50) (by decide +kernel)⟩
theorem im_X2_methodOwner : IMk yX2_methodOwner := List.mem_of_getElem? (i := 393) (by decide +kernel)
theorem sl_X2_methodOwner : SLk yX2_methodOwner := List.mem_of_getElem? (i := 394) (by decide +kernel)
theorem mw_X2_orderFirsts : MWk yX2_orderFirsts cX2_orderFirsts 5 (Option.none : Option FieldType) := ⟨List.mem_of_getElem? (i := 419) (by decide +kernel), List.mem_of_getElem? (i := 50) (by decide +kernel)⟩
theorem im_X2_orderFirsts : IMk yX2_orderFirsts := List.mem_of_getElem? (i := 417) (by decide +kernel)
theorem sl_X2_orderFirsts : SLk yX2_orderFirsts := List.mem_of_getElem? (i := 418) (by decide +kernel)
theorem mw_X2_putUnder : MWk yX2_putUnder cX2_putUnder 7 (Option.none : Option FieldType) := ⟨List.mem_of_getElem? (i := 294) (by decide +kernel), List.mem_of_getElem? (i := 50) (by decide +kernel)⟩
theorem im_X2_putUnder : IMk yX2_putUnder := List.mem_of_getElem? (i := 292) (by decide +kernel)
theorem sl_X2_putUnder : SLk yX2_putUnder := List.mem_of_getElem? (i := 293) (by decide +kernel)
theorem mw_X2_seekField : MWk yX2_seekField cX2_seekField 8 (Option.some FieldType.int) := ⟨List.mem_of_getElem? (i := 403) (by decide +kernel), List.mem_of_getElem? (i := 50) (by decide +kernel)⟩
theorem im_X2_seekField : IMk yX2_seekField := List.mem_of_getElem? (i := 402) (by decide +kernel)
theorem sl_X2_seekField : SLk yX2_seekField := List.mem_of_getElem? (i := 2) (by decide +kernel)
theorem mw_X2_startedBy : MWk yX2_startedBy cX2_startedBy 4 (Option.some FieldType.int) := ⟨List.mem_of_getElem? (i := 427) (by decide +kernel), List.mem_of_getElem? (i := 50) (by decide +kernel)⟩
theorem im_X2_startedBy : IMk yX2_startedBy := List.mem_of_getElem? (i := 425) (by decide +kernel)
theorem sl_X2_startedBy : SLk yX2_startedBy := List.mem_of_getElem? (i := 426) (by decide +kernel)
theorem mw_X2_startedByField : MWk yX2_startedByField cX2_startedByField 3 (Option.some FieldType.int) := ⟨List.mem_of_getElem? (i := 431) (by decide +kernel), List.mem_of_getElem? (i := 50) (by decide +kernel)⟩
theorem im_X2_startedByField : IMk yX2_startedByField := List.mem_of_getElem? (i := 430) (by decide +kernel)
theorem sl_X2_startedByField : SLk yX2_startedByField := List.mem_of_getElem? (i := 5) (by decide +kernel)
theorem mw_X2_valueOf : MWk yX2_valueOf cX2_valueOf 5 (Option.some FieldType.int) := ⟨List.mem_of_getElem? (i := 563) (by decide +kernel), List.mem_of_getElem? (i := 50) (by decide +kernel)⟩
theorem im_X2_valueOf : IMk yX2_valueOf := List.mem_of_getElem? (i := 561) (by decide +kernel)
theorem sl_X2_valueOf : SLk yX2_valueOf := List.mem_of_getElem? (i := 562) (by decide +kernel)
theorem mw_X3_init : MWk yX3_init cX3_init 3 (Option.none : Option FieldType) := ⟨List.mem_of_getElem? (i := 480) (by decide +kernel), List.mem_of_getElem? (i := 58) (by decide +kernel)⟩
theorem im_X3_init : IMk yX3_init := List.mem_of_getElem? (i := 479) (by decide +kernel)
theorem mw_X3_arise : MWk yX3_arise cX3_arise 3 (Option.some FieldType.int) := ⟨List.mem_of_getElem? (i := 520) (by decide +kernel), List.mem_of_getElem? (i := 58) (by decide +kernel)⟩
theorem im_X3_arise : IMk yX3_arise := List.mem_of_getElem? (i := 519) (by decide +kernel)
theorem sl_X3_arise : SLk yX3_arise := List.mem_of_getElem? (i := 9) (by decide +kernel)
theorem mw_X3_doTouch : MWk yX3_doTouch cX3_doTouch 2 (Option.some FieldType.int) := ⟨List.mem_of_getElem? (i := 512) (by decide +kernel), List.mem_of_getElem? (i := 58) (by decide +kernel)⟩
theorem im_X3_doTouch : IMk yX3_doTouch := List.mem_of_getElem? (i := 510) (by decide +kernel)
theorem sl_X3_doTouch : SLk yX3_doTouch := List.mem_of_getElem? (i := 511) (by decide +kernel)
theorem mw_X3_perform : MWk yX3_perform cX3_perform 6 (Option.some FieldType.int) := ⟨List.mem_of_getElem? (i := 516) (by decide +kernel), List.mem_of_getElem? (i := 58) (by decide +kernel)⟩
theorem im_X3_perform : IMk yX3_perform := List.mem_of_getElem? (i := 515) (by decide +kernel)
theorem sl_X3_perform : SLk yX3_perform := List.mem_of_getElem? (i := 8) (by decide +kernel)
theorem mw_X3_putThrough : MWk yX3_putThrough cX3_putThrough 3 (Option.none : Option FieldType) := ⟨List.mem_of_getElem? (i := 558) (by decide +kernel), List.mem_of_getElem? (i := 58) (by decide +kernel)⟩
theorem im_X3_putThrough : IMk yX3_putThrough := List.mem_of_getElem? (i := 557) (by decide +kernel)
theorem sl_X3_putThrough : SLk yX3_putThrough := List.mem_of_getElem? (i := 15) (by decide +kernel)
theorem mw_X3_runBody : MWk yX3_runBody cX3_runBody 8 (Option.some FieldType.int) := ⟨List.mem_of_getElem? (i := 542) (by decide +kernel), List.mem_of_getElem? (i := 58) (by decide +kernel)⟩
theorem im_X3_runBody : IMk yX3_runBody := List.mem_of_getElem? (i := 541) (by decide +kernel)
theorem sl_X3_runBody : SLk yX3_runBody := List.mem_of_getElem? (i := 13) (by decide +kernel)
theorem mw_X3_runStart : MWk yX3_runStart cX3_runStart 4 (Option.some FieldType.int) := ⟨List.mem_of_getElem? (i := 534) (by decide +kernel), List.mem_of_getElem? (i := 58) (by decide +kernel)⟩
theorem im_X3_runStart : IMk yX3_runStart := List.mem_of_getElem? (i := 533) (by decide +kernel)
theorem sl_X3_runStart : SLk yX3_runStart := List.mem_of_getElem? (i := 12) (by decide +kernel)
theorem mw_X3_startFirsts : MWk yX3_startFirsts cX3_startFirsts 6 (Option.some FieldType.int) := ⟨List.mem_of_getElem? (i := 529) (by decide +kernel), List.mem_of_getElem? (i := 58) (by decide +kernel)⟩
theorem im_X3_startFirsts : IMk yX3_startFirsts := List.mem_of_getElem? (i := 528) (by decide +kernel)
theorem sl_X3_startFirsts : SLk yX3_startFirsts := List.mem_of_getElem? (i := 11) (by decide +kernel)
theorem mw_X3_startType : MWk yX3_startType cX3_startType 6 (Option.some FieldType.int) := ⟨List.mem_of_getElem? (i := 525) (by decide +kernel), List.mem_of_getElem? (i := 58) (by decide +kernel)⟩
theorem im_X3_startType : IMk yX3_startType := List.mem_of_getElem? (i := 524) (by decide +kernel)
theorem sl_X3_startType : SLk yX3_startType := List.mem_of_getElem? (i := 10) (by decide +kernel)
theorem mw_X3_takeFailure : MWk yX3_takeFailure cX3_takeFailure 7 (Option.some FieldType.int) := ⟨List.mem_of_getElem? (i := 549) (by decide +kernel), List.mem_of_getElem? (i := 58) (by decide +kernel)⟩
theorem im_X3_takeFailure : IMk yX3_takeFailure := List.mem_of_getElem? (i := 548) (by decide +kernel)
theorem sl_X3_takeFailure : SLk yX3_takeFailure := List.mem_of_getElem? (i := 14) (by decide +kernel)
theorem mw_X4_init : MWk yX4_init cX4_init 4 (Option.none : Option FieldType) := ⟨List.mem_of_getElem? (i := 183) (by decide +kernel), List.mem_of_getElem? (i := 54) (by decide +kernel)⟩
theorem im_X4_init : IMk yX4_init := List.mem_of_getElem? (i := 182) (by decide +kernel)
theorem mw_X4_addField : MWk yX4_addField cX4_addField 4 (Option.none : Option FieldType) := ⟨List.mem_of_getElem? (i := 314) (by decide +kernel), List.mem_of_getElem? (i := 54) (by decide +kernel)⟩
theorem im_X4_addField : IMk yX4_addField := List.mem_of_getElem? (i := 312) (by decide +kernel)
theorem sl_X4_addField : SLk yX4_addField := List.mem_of_getElem? (i := 313) (by decide +kernel)
theorem mw_X4_addMethod : MWk yX4_addMethod cX4_addMethod 2 (Option.none : Option FieldType) := ⟨List.mem_of_getElem? (i := 323) (by decide +kernel), List.mem_of_getElem? (i := 54) (by decide +kernel)⟩
theorem im_X4_addMethod : IMk yX4_addMethod := List.mem_of_getElem? (i := 321) (by decide +kernel)
theorem sl_X4_addMethod : SLk yX4_addMethod := List.mem_of_getElem? (i := 322) (by decide +kernel)
theorem mw_X4_bodyOf : MWk yX4_bodyOf cX4_bodyOf 2 (Option.some (FieldType.object "StartBench$Body")) := ⟨List.mem_of_getElem? (i := 340) (by decide +kernel), List.mem_of_getElem? (i := 54) (by decide +kernel)⟩
theorem im_X4_bodyOf : IMk yX4_bodyOf := List.mem_of_getElem? (i := 338) (by decide +kernel)
theorem sl_X4_bodyOf : SLk yX4_bodyOf := List.mem_of_getElem? (i := 339) (by decide +kernel)
theorem mw_X4_isUnder : MWk yX4_isUnder cX4_isUnder 3 (Option.some FieldType.boolean) := ⟨List.mem_of_getElem? (i := 286) (by decide +kernel), List.mem_of_getElem? (i := 54) (by decide +kernel)⟩
theorem im_X4_isUnder : IMk yX4_isUnder := List.mem_of_getElem? (i := 284) (by decide +kernel)
theorem sl_X4_isUnder : SLk yX4_isUnder := List.mem_of_getElem? (i := 285) (by decide +kernel)
theorem mw_X4_tell : MWk yX4_tell cX4_tell 2 (Option.some FieldType.int) := ⟨List.mem_of_getElem? (i := 383) (by decide +kernel), List.mem_of_getElem? (i := 54) (by decide +kernel)⟩
theorem im_X4_tell : IMk yX4_tell := List.mem_of_getElem? (i := 381) (by decide +kernel)
theorem sl_X4_tell : SLk yX4_tell := List.mem_of_getElem? (i := 382) (by decide +kernel)
theorem mw_X5_init : MWk yX5_init cX5_init 1 (Option.none : Option FieldType) := ⟨List.mem_of_getElem? (i := 113) (by decide +kernel), List.mem_of_getElem? (i := 52) (by decide +kernel)⟩
theorem im_X5_init : IMk yX5_init := List.mem_of_getElem? (i := 112) (by decide +kernel)
theorem mw_X5_clear : MWk yX5_clear cX5_clear 1 (Option.none : Option FieldType) := ⟨List.mem_of_getElem? (i := 451) (by decide +kernel), List.mem_of_getElem? (i := 52) (by decide +kernel)⟩
theorem im_X5_clear : IMk yX5_clear := List.mem_of_getElem? (i := 449) (by decide +kernel)
theorem sl_X5_clear : SLk yX5_clear := List.mem_of_getElem? (i := 450) (by decide +kernel)
theorem mw_X5_keepAccount : MWk yX5_keepAccount cX5_keepAccount 4 (Option.none : Option FieldType) := ⟨List.mem_of_getElem? (i := 567) (by decide +kernel), List.mem_of_getElem? (i := 52) (by decide +kernel)⟩
theorem im_X5_keepAccount : IMk yX5_keepAccount := List.mem_of_getElem? (i := 565) (by decide +kernel)
theorem sl_X5_keepAccount : SLk yX5_keepAccount := List.mem_of_getElem? (i := 566) (by decide +kernel)
theorem mw_X5_putInRow : MWk yX5_putInRow cX5_putInRow 2 (Option.none : Option FieldType) := ⟨List.mem_of_getElem? (i := 538) (by decide +kernel), List.mem_of_getElem? (i := 52) (by decide +kernel)⟩
theorem im_X5_putInRow : IMk yX5_putInRow := List.mem_of_getElem? (i := 536) (by decide +kernel)
theorem sl_X5_putInRow : SLk yX5_putInRow := List.mem_of_getElem? (i := 537) (by decide +kernel)
theorem mw_X5_putOnTape : MWk yX5_putOnTape cX5_putOnTape 2 (Option.none : Option FieldType) := ⟨List.mem_of_getElem? (i := 553) (by decide +kernel), List.mem_of_getElem? (i := 52) (by decide +kernel)⟩
theorem im_X5_putOnTape : IMk yX5_putOnTape := List.mem_of_getElem? (i := 551) (by decide +kernel)
theorem sl_X5_putOnTape : SLk yX5_putOnTape := List.mem_of_getElem? (i := 552) (by decide +kernel)
theorem mw_X5_sameIn : MWk yX5_sameIn cX5_sameIn 4 (Option.some FieldType.boolean) := ⟨List.mem_of_getElem? (i := 611) (by decide +kernel), List.mem_of_getElem? (i := 52) (by decide +kernel)⟩
theorem im_X5_sameIn : IMk yX5_sameIn := List.mem_of_getElem? (i := 609) (by decide +kernel)
theorem sl_X5_sameIn : SLk yX5_sameIn := List.mem_of_getElem? (i := 610) (by decide +kernel)
theorem mw_X5_takeStateOf : MWk yX5_takeStateOf cX5_takeStateOf 2 (Option.none : Option FieldType) := ⟨List.mem_of_getElem? (i := 472) (by decide +kernel), List.mem_of_getElem? (i := 52) (by decide +kernel)⟩
theorem im_X5_takeStateOf : IMk yX5_takeStateOf := List.mem_of_getElem? (i := 470) (by decide +kernel)
theorem sl_X5_takeStateOf : SLk yX5_takeStateOf := List.mem_of_getElem? (i := 471) (by decide +kernel)
theorem mw_X7_init : MWk yX7_init cX7_init 2 (Option.none : Option FieldType) := ⟨List.mem_of_getElem? (i := 616) (by decide +kernel), List.mem_of_getElem? (i := 53) (by decide +kernel)⟩
theorem im_X7_init : IMk yX7_init := List.mem_of_getElem? (i := 615) (by decide +kernel)
theorem mw_X7_act : MWk yX7_act cX7_act 11 (Option.some FieldType.int) := ⟨List.mem_of_getElem? (i := 840) (by decide +kernel), List.mem_of_getElem? (i := 53) (by decide +kernel)⟩
theorem im_X7_act : IMk yX7_act := List.mem_of_getElem? (i := 838) (by decide +kernel)
theorem sl_X7_act : SLk yX7_act := List.mem_of_getElem? (i := 839) (by decide +kernel)
theorem mw_X7_addAsked : MWk yX7_addAsked cX7_addAsked 5 (Option.none : Option FieldType) := ⟨List.mem_of_getElem? (i := 876) (by decide +kernel), List.mem_of_getElem? (i := 53) (by decide +kernel)⟩
theorem im_X7_addAsked : IMk yX7_addAsked := List.mem_of_getElem? (i := 875) (by decide +kernel)
theorem sl_X7_addAsked : SLk yX7_addAsked := List.mem_of_getElem? (i := 25) (by decide +kernel)
theorem mw_X7_asks : MWk yX7_asks cX7_asks 3 (Option.some FieldType.int) := ⟨List.mem_of_getElem? (i := 864) (by decide +kernel), List.mem_of_getElem? (i := 53) (by decide +kernel)⟩
theorem im_X7_asks : IMk yX7_asks := List.mem_of_getElem? (i := 862) (by decide +kernel)
theorem sl_X7_asks : SLk yX7_asks := List.mem_of_getElem? (i := 863) (by decide +kernel)
theorem mw_X7_began : MWk yX7_began cX7_began 3 (Option.some FieldType.int) := ⟨List.mem_of_getElem? (i := 992) (by decide +kernel), List.mem_of_getElem? (i := 53) (by decide +kernel)⟩
theorem im_X7_began : IMk yX7_began := List.mem_of_getElem? (i := 990) (by decide +kernel)
theorem sl_X7_began : SLk yX7_began := List.mem_of_getElem? (i := 991) (by decide +kernel)
theorem mw_X7_below : MWk yX7_below cX7_below 3 (Option.some FieldType.int) := ⟨List.mem_of_getElem? (i := 848) (by decide +kernel), List.mem_of_getElem? (i := 53) (by decide +kernel)⟩
theorem im_X7_below : IMk yX7_below := List.mem_of_getElem? (i := 846) (by decide +kernel)
theorem sl_X7_below : SLk yX7_below := List.mem_of_getElem? (i := 847) (by decide +kernel)
theorem mw_X7_cameTo : MWk yX7_cameTo cX7_cameTo 1 (Option.some FieldType.int) := ⟨List.mem_of_getElem? (i := 980) (by decide +kernel), List.mem_of_getElem? (i := 53) (by decide +kernel)⟩
theorem im_X7_cameTo : IMk yX7_cameTo := List.mem_of_getElem? (i := 979) (by decide +kernel)
theorem sl_X7_cameTo : SLk yX7_cameTo := List.mem_of_getElem? (i := 47) (by decide +kernel)
theorem mw_X7_cls : MWk yX7_cls cX7_cls 3 (Option.some FieldType.int) := ⟨List.mem_of_getElem? (i := 797) (by decide +kernel), List.mem_of_getElem? (i := 53) (by decide +kernel)⟩
theorem im_X7_cls : IMk yX7_cls := List.mem_of_getElem? (i := 795) (by decide +kernel)
theorem sl_X7_cls : SLk yX7_cls := List.mem_of_getElem? (i := 796) (by decide +kernel)
theorem mw_X7_copy : MWk yX7_copy cX7_copy 4 (Option.none : Option FieldType) := ⟨List.mem_of_getElem? (i := 916) (by decide +kernel), List.mem_of_getElem? (i := 53) (by decide +kernel)⟩
theorem im_X7_copy : IMk yX7_copy := List.mem_of_getElem? (i := 915) (by decide +kernel)
theorem sl_X7_copy : SLk yX7_copy := List.mem_of_getElem? (i := 31) (by decide +kernel)
theorem mw_X7_did : MWk yX7_did cX7_did 2 (Option.none : Option FieldType) := ⟨List.mem_of_getElem? (i := 936) (by decide +kernel), List.mem_of_getElem? (i := 53) (by decide +kernel)⟩
theorem im_X7_did : IMk yX7_did := List.mem_of_getElem? (i := 935) (by decide +kernel)
theorem sl_X7_did : SLk yX7_did := List.mem_of_getElem? (i := 36) (by decide +kernel)
theorem mw_X7_differs : MWk yX7_differs cX7_differs 6 (Option.some FieldType.int) := ⟨List.mem_of_getElem? (i := 1016) (by decide +kernel), List.mem_of_getElem? (i := 53) (by decide +kernel)⟩
theorem im_X7_differs : IMk yX7_differs := List.mem_of_getElem? (i := 1014) (by decide +kernel)
theorem sl_X7_differs : SLk yX7_differs := List.mem_of_getElem? (i := 1015) (by decide +kernel)
theorem mw_X7_face : MWk yX7_face cX7_face 2 (Option.some FieldType.int) := ⟨List.mem_of_getElem? (i := 812) (by decide +kernel), List.mem_of_getElem? (i := 53) (by decide +kernel)⟩
theorem im_X7_face : IMk yX7_face := List.mem_of_getElem? (i := 810) (by decide +kernel)
theorem sl_X7_face : SLk yX7_face := List.mem_of_getElem? (i := 811) (by decide +kernel)
theorem mw_X7_fail : MWk yX7_fail cX7_fail 3 (Option.none : Option FieldType) := ⟨List.mem_of_getElem? (i := 928) (by decide +kernel), List.mem_of_getElem? (i := 53) (by decide +kernel)⟩
theorem im_X7_fail : IMk yX7_fail := List.mem_of_getElem? (i := 927) (by decide +kernel)
theorem sl_X7_fail : SLk yX7_fail := List.mem_of_getElem? (i := 34) (by decide +kernel)
theorem mw_X7_failed : MWk yX7_failed cX7_failed 3 (Option.some FieldType.int) := ⟨List.mem_of_getElem? (i := 1004) (by decide +kernel), List.mem_of_getElem? (i := 53) (by decide +kernel)⟩
theorem im_X7_failed : IMk yX7_failed := List.mem_of_getElem? (i := 1002) (by decide +kernel)
theorem sl_X7_failed : SLk yX7_failed := List.mem_of_getElem? (i := 1003) (by decide +kernel)
theorem mw_X7_field : MWk yX7_field cX7_field 6 (Option.some FieldType.int) := ⟨List.mem_of_getElem? (i := 824) (by decide +kernel), List.mem_of_getElem? (i := 53) (by decide +kernel)⟩
theorem im_X7_field : IMk yX7_field := List.mem_of_getElem? (i := 822) (by decide +kernel)
theorem sl_X7_field : SLk yX7_field := List.mem_of_getElem? (i := 823) (by decide +kernel)
theorem mw_X7_findField : MWk yX7_findField cX7_findField 7 (Option.some FieldType.int) := ⟨List.mem_of_getElem? (i := 860) (by decide +kernel), List.mem_of_getElem? (i := 53) (by decide +kernel)⟩
theorem im_X7_findField : IMk yX7_findField := List.mem_of_getElem? (i := 859) (by decide +kernel)
theorem sl_X7_findField : SLk yX7_findField := List.mem_of_getElem? (i := 22) (by decide +kernel)
theorem mw_X7_findMethod : MWk yX7_findMethod cX7_findMethod 5 (Option.some FieldType.int) := ⟨List.mem_of_getElem? (i := 856) (by decide +kernel), List.mem_of_getElem? (i := 53) (by decide +kernel)⟩
theorem im_X7_findMethod : IMk yX7_findMethod := List.mem_of_getElem? (i := 855) (by decide +kernel)
theorem sl_X7_findMethod : SLk yX7_findMethod := List.mem_of_getElem? (i := 21) (by decide +kernel)
theorem mw_X7_foretell : MWk yX7_foretell cX7_foretell 7 (Option.some FieldType.int) := ⟨List.mem_of_getElem? (i := 984) (by decide +kernel), List.mem_of_getElem? (i := 53) (by decide +kernel)⟩
theorem im_X7_foretell : IMk yX7_foretell := List.mem_of_getElem? (i := 982) (by decide +kernel)
theorem sl_X7_foretell : SLk yX7_foretell := List.mem_of_getElem? (i := 983) (by decide +kernel)
theorem mw_X7_found : MWk yX7_found cX7_found 5 (Option.some FieldType.int) := ⟨List.mem_of_getElem? (i := 852) (by decide +kernel), List.mem_of_getElem? (i := 53) (by decide +kernel)⟩
theorem im_X7_found : IMk yX7_found := List.mem_of_getElem? (i := 850) (by decide +kernel)
theorem sl_X7_found : SLk yX7_found := List.mem_of_getElem? (i := 851) (by decide +kernel)
theorem mw_X7_go : MWk yX7_go cX7_go 6 (Option.none : Option FieldType) := ⟨List.mem_of_getElem? (i := 920) (by decide +kernel), List.mem_of_getElem? (i := 53) (by decide +kernel)⟩
theorem im_X7_go : IMk yX7_go := List.mem_of_getElem? (i := 919) (by decide +kernel)
theorem sl_X7_go : SLk yX7_go := List.mem_of_getElem? (i := 32) (by decide +kernel)
theorem mw_X7_goBehind : MWk yX7_goBehind cX7_goBehind 6 (Option.none : Option FieldType) := ⟨List.mem_of_getElem? (i := 956) (by decide +kernel), List.mem_of_getElem? (i := 53) (by decide +kernel)⟩
theorem im_X7_goBehind : IMk yX7_goBehind := List.mem_of_getElem? (i := 955) (by decide +kernel)
theorem sl_X7_goBehind : SLk yX7_goBehind := List.mem_of_getElem? (i := 41) (by decide +kernel)
theorem mw_X7_goDown : MWk yX7_goDown cX7_goDown 4 (Option.none : Option FieldType) := ⟨List.mem_of_getElem? (i := 924) (by decide +kernel), List.mem_of_getElem? (i := 53) (by decide +kernel)⟩
theorem im_X7_goDown : IMk yX7_goDown := List.mem_of_getElem? (i := 923) (by decide +kernel)
theorem sl_X7_goDown : SLk yX7_goDown := List.mem_of_getElem? (i := 33) (by decide +kernel)
theorem mw_X7_goOnBody : MWk yX7_goOnBody cX7_goOnBody 4 (Option.none : Option FieldType) := ⟨List.mem_of_getElem? (i := 952) (by decide +kernel), List.mem_of_getElem? (i := 53) (by decide +kernel)⟩
theorem im_X7_goOnBody : IMk yX7_goOnBody := List.mem_of_getElem? (i := 951) (by decide +kernel)
theorem sl_X7_goOnBody : SLk yX7_goOnBody := List.mem_of_getElem? (i := 40) (by decide +kernel)
theorem mw_X7_goOnStart : MWk yX7_goOnStart cX7_goOnStart 4 (Option.none : Option FieldType) := ⟨List.mem_of_getElem? (i := 940) (by decide +kernel), List.mem_of_getElem? (i := 53) (by decide +kernel)⟩
theorem im_X7_goOnStart : IMk yX7_goOnStart := List.mem_of_getElem? (i := 939) (by decide +kernel)
theorem sl_X7_goOnStart : SLk yX7_goOnStart := List.mem_of_getElem? (i := 37) (by decide +kernel)
theorem mw_X7_gone : MWk yX7_gone cX7_gone 2 (Option.some FieldType.int) := ⟨List.mem_of_getElem? (i := 900) (by decide +kernel), List.mem_of_getElem? (i := 53) (by decide +kernel)⟩
theorem im_X7_gone : IMk yX7_gone := List.mem_of_getElem? (i := 898) (by decide +kernel)
theorem sl_X7_gone : SLk yX7_gone := List.mem_of_getElem? (i := 899) (by decide +kernel)
theorem mw_X7_in : MWk yX7_in cX7_in 3 (Option.some FieldType.boolean) := ⟨List.mem_of_getElem? (i := 804) (by decide +kernel), List.mem_of_getElem? (i := 53) (by decide +kernel)⟩
theorem sm_X7_in : SMk yX7_in := List.mem_of_getElem? (i := 803) (by decide +kernel)
theorem mw_X7_isRound : MWk yX7_isRound cX7_isRound 5 (Option.some FieldType.boolean) := ⟨List.mem_of_getElem? (i := 892) (by decide +kernel), List.mem_of_getElem? (i := 53) (by decide +kernel)⟩
theorem im_X7_isRound : IMk yX7_isRound := List.mem_of_getElem? (i := 891) (by decide +kernel)
theorem sl_X7_isRound : SLk yX7_isRound := List.mem_of_getElem? (i := 28) (by decide +kernel)
theorem mw_X7_isRuled : MWk yX7_isRuled cX7_isRuled 5 (Option.some FieldType.boolean) := ⟨List.mem_of_getElem? (i := 884) (by decide +kernel), List.mem_of_getElem? (i := 53) (by decide +kernel)⟩
theorem im_X7_isRuled : IMk yX7_isRuled := List.mem_of_getElem? (i := 883) (by decide +kernel)
theorem sl_X7_isRuled : SLk yX7_isRuled := List.mem_of_getElem? (i := 27) (by decide +kernel)
theorem mw_X7_isType : MWk yX7_isType cX7_isType 2 (Option.some FieldType.boolean) := ⟨List.mem_of_getElem? (i := 801) (by decide +kernel), List.mem_of_getElem? (i := 53) (by decide +kernel)⟩
theorem im_X7_isType : IMk yX7_isType := List.mem_of_getElem? (i := 800) (by decide +kernel)
theorem sl_X7_isType : SLk yX7_isType := List.mem_of_getElem? (i := 16) (by decide +kernel)
theorem mw_X7_isWorld : MWk yX7_isWorld cX7_isWorld 2 (Option.some FieldType.boolean) := ⟨List.mem_of_getElem? (i := 912) (by decide +kernel), List.mem_of_getElem? (i := 53) (by decide +kernel)⟩
theorem im_X7_isWorld : IMk yX7_isWorld := List.mem_of_getElem? (i := 911) (by decide +kernel)
theorem sl_X7_isWorld : SLk yX7_isWorld := List.mem_of_getElem? (i := 30) (by decide +kernel)
theorem mw_X7_kindAt : MWk yX7_kindAt cX7_kindAt 2 (Option.some FieldType.int) := ⟨List.mem_of_getElem? (i := 972) (by decide +kernel), List.mem_of_getElem? (i := 53) (by decide +kernel)⟩
theorem im_X7_kindAt : IMk yX7_kindAt := List.mem_of_getElem? (i := 971) (by decide +kernel)
theorem sl_X7_kindAt : SLk yX7_kindAt := List.mem_of_getElem? (i := 45) (by decide +kernel)
theorem mw_X7_leads : MWk yX7_leads cX7_leads 6 (Option.some FieldType.boolean) := ⟨List.mem_of_getElem? (i := 820) (by decide +kernel), List.mem_of_getElem? (i := 53) (by decide +kernel)⟩
theorem im_X7_leads : IMk yX7_leads := List.mem_of_getElem? (i := 819) (by decide +kernel)
theorem sl_X7_leads : SLk yX7_leads := List.mem_of_getElem? (i := 18) (by decide +kernel)
theorem mw_X7_listAsked : MWk yX7_listAsked cX7_listAsked 3 (Option.none : Option FieldType) := ⟨List.mem_of_getElem? (i := 868) (by decide +kernel), List.mem_of_getElem? (i := 53) (by decide +kernel)⟩
theorem im_X7_listAsked : IMk yX7_listAsked := List.mem_of_getElem? (i := 867) (by decide +kernel)
theorem sl_X7_listAsked : SLk yX7_listAsked := List.mem_of_getElem? (i := 23) (by decide +kernel)
theorem mw_X7_listFirst : MWk yX7_listFirst cX7_listFirst 5 (Option.none : Option FieldType) := ⟨List.mem_of_getElem? (i := 872) (by decide +kernel), List.mem_of_getElem? (i := 53) (by decide +kernel)⟩
theorem im_X7_listFirst : IMk yX7_listFirst := List.mem_of_getElem? (i := 871) (by decide +kernel)
theorem sl_X7_listFirst : SLk yX7_listFirst := List.mem_of_getElem? (i := 24) (by decide +kernel)
theorem mw_X7_make : MWk yX7_make cX7_make 4 (Option.some FieldType.int) := ⟨List.mem_of_getElem? (i := 808) (by decide +kernel), List.mem_of_getElem? (i := 53) (by decide +kernel)⟩
theorem im_X7_make : IMk yX7_make := List.mem_of_getElem? (i := 807) (by decide +kernel)
theorem sl_X7_make : SLk yX7_make := List.mem_of_getElem? (i := 17) (by decide +kernel)
theorem mw_X7_many : MWk yX7_many cX7_many 5 (Option.some FieldType.int) := ⟨List.mem_of_getElem? (i := 1012) (by decide +kernel), List.mem_of_getElem? (i := 53) (by decide +kernel)⟩
theorem im_X7_many : IMk yX7_many := List.mem_of_getElem? (i := 1010) (by decide +kernel)
theorem sl_X7_many : SLk yX7_many := List.mem_of_getElem? (i := 1011) (by decide +kernel)
theorem mw_X7_method : MWk yX7_method cX7_method 3 (Option.some FieldType.int) := ⟨List.mem_of_getElem? (i := 832) (by decide +kernel), List.mem_of_getElem? (i := 53) (by decide +kernel)⟩
theorem im_X7_method : IMk yX7_method := List.mem_of_getElem? (i := 830) (by decide +kernel)
theorem sl_X7_method : SLk yX7_method := List.mem_of_getElem? (i := 831) (by decide +kernel)
theorem mw_X7_nameAt : MWk yX7_nameAt cX7_nameAt 2 (Option.some FieldType.int) := ⟨List.mem_of_getElem? (i := 964) (by decide +kernel), List.mem_of_getElem? (i := 53) (by decide +kernel)⟩
theorem im_X7_nameAt : IMk yX7_nameAt := List.mem_of_getElem? (i := 963) (by decide +kernel)
theorem sl_X7_nameAt : SLk yX7_nameAt := List.mem_of_getElem? (i := 43) (by decide +kernel)
theorem mw_X7_onTape : MWk yX7_onTape cX7_onTape 2 (Option.none : Option FieldType) := ⟨List.mem_of_getElem? (i := 932) (by decide +kernel), List.mem_of_getElem? (i := 53) (by decide +kernel)⟩
theorem im_X7_onTape : IMk yX7_onTape := List.mem_of_getElem? (i := 931) (by decide +kernel)
theorem sl_X7_onTape : SLk yX7_onTape := List.mem_of_getElem? (i := 35) (by decide +kernel)
theorem mw_X7_ownField : MWk yX7_ownField cX7_ownField 5 (Option.some FieldType.int) := ⟨List.mem_of_getElem? (i := 828) (by decide +kernel), List.mem_of_getElem? (i := 53) (by decide +kernel)⟩
theorem im_X7_ownField : IMk yX7_ownField := List.mem_of_getElem? (i := 827) (by decide +kernel)
theorem sl_X7_ownField : SLk yX7_ownField := List.mem_of_getElem? (i := 19) (by decide +kernel)
theorem mw_X7_ownMethod : MWk yX7_ownMethod cX7_ownMethod 5 (Option.some FieldType.int) := ⟨List.mem_of_getElem? (i := 836) (by decide +kernel), List.mem_of_getElem? (i := 53) (by decide +kernel)⟩
theorem im_X7_ownMethod : IMk yX7_ownMethod := List.mem_of_getElem? (i := 835) (by decide +kernel)
theorem sl_X7_ownMethod : SLk yX7_ownMethod := List.mem_of_getElem? (i := 20) (by decide +kernel)
theorem mw_X7_pushBody : MWk yX7_pushBody cX7_pushBody 2 (Option.none : Option FieldType) := ⟨List.mem_of_getElem? (i := 948) (by decide +kernel), List.mem_of_getElem? (i := 53) (by decide +kernel)⟩
theorem im_X7_pushBody : IMk yX7_pushBody := List.mem_of_getElem? (i := 947) (by decide +kernel)
theorem sl_X7_pushBody : SLk yX7_pushBody := List.mem_of_getElem? (i := 39) (by decide +kernel)
theorem mw_X7_refusal : MWk yX7_refusal cX7_refusal 5 (Option.some FieldType.int) := ⟨List.mem_of_getElem? (i := 908) (by decide +kernel), List.mem_of_getElem? (i := 53) (by decide +kernel)⟩
theorem im_X7_refusal : IMk yX7_refusal := List.mem_of_getElem? (i := 907) (by decide +kernel)
theorem sl_X7_refusal : SLk yX7_refusal := List.mem_of_getElem? (i := 29) (by decide +kernel)
theorem mw_X7_round : MWk yX7_round cX7_round 4 (Option.some FieldType.int) := ⟨List.mem_of_getElem? (i := 888) (by decide +kernel), List.mem_of_getElem? (i := 53) (by decide +kernel)⟩
theorem im_X7_round : IMk yX7_round := List.mem_of_getElem? (i := 886) (by decide +kernel)
theorem sl_X7_round : SLk yX7_round := List.mem_of_getElem? (i := 887) (by decide +kernel)
theorem mw_X7_sizeOf : MWk yX7_sizeOf cX7_sizeOf 2 (Option.some FieldType.int) := ⟨List.mem_of_getElem? (i := 976) (by decide +kernel), List.mem_of_getElem? (i := 53) (by decide +kernel)⟩
theorem im_X7_sizeOf : IMk yX7_sizeOf := List.mem_of_getElem? (i := 975) (by decide +kernel)
theorem sl_X7_sizeOf : SLk yX7_sizeOf := List.mem_of_getElem? (i := 46) (by decide +kernel)
theorem mw_X7_spent : MWk yX7_spent cX7_spent 3 (Option.some FieldType.int) := ⟨List.mem_of_getElem? (i := 1008) (by decide +kernel), List.mem_of_getElem? (i := 53) (by decide +kernel)⟩
theorem im_X7_spent : IMk yX7_spent := List.mem_of_getElem? (i := 1006) (by decide +kernel)
theorem sl_X7_spent : SLk yX7_spent := List.mem_of_getElem? (i := 1007) (by decide +kernel)
theorem mw_X7_start : MWk yX7_start cX7_start 3 (Option.none : Option FieldType) := ⟨List.mem_of_getElem? (i := 944) (by decide +kernel), List.mem_of_getElem? (i := 53) (by decide +kernel)⟩
theorem im_X7_start : IMk yX7_start := List.mem_of_getElem? (i := 943) (by decide +kernel)
theorem sl_X7_start : SLk yX7_start := List.mem_of_getElem? (i := 38) (by decide +kernel)
theorem mw_X7_started : MWk yX7_started cX7_started 5 (Option.some FieldType.int) := ⟨List.mem_of_getElem? (i := 880) (by decide +kernel), List.mem_of_getElem? (i := 53) (by decide +kernel)⟩
theorem im_X7_started : IMk yX7_started := List.mem_of_getElem? (i := 879) (by decide +kernel)
theorem sl_X7_started : SLk yX7_started := List.mem_of_getElem? (i := 26) (by decide +kernel)
theorem mw_X7_state : MWk yX7_state cX7_state 3 (Option.some FieldType.int) := ⟨List.mem_of_getElem? (i := 988) (by decide +kernel), List.mem_of_getElem? (i := 53) (by decide +kernel)⟩
theorem im_X7_state : IMk yX7_state := List.mem_of_getElem? (i := 986) (by decide +kernel)
theorem sl_X7_state : SLk yX7_state := List.mem_of_getElem? (i := 987) (by decide +kernel)
theorem mw_X7_tape : MWk yX7_tape cX7_tape 3 (Option.some FieldType.int) := ⟨List.mem_of_getElem? (i := 996) (by decide +kernel), List.mem_of_getElem? (i := 53) (by decide +kernel)⟩
theorem im_X7_tape : IMk yX7_tape := List.mem_of_getElem? (i := 994) (by decide +kernel)
theorem sl_X7_tape : SLk yX7_tape := List.mem_of_getElem? (i := 995) (by decide +kernel)
theorem mw_X7_told : MWk yX7_told cX7_told 5 (Option.some FieldType.int) := ⟨List.mem_of_getElem? (i := 844) (by decide +kernel), List.mem_of_getElem? (i := 53) (by decide +kernel)⟩
theorem im_X7_told : IMk yX7_told := List.mem_of_getElem? (i := 842) (by decide +kernel)
theorem sl_X7_told : SLk yX7_told := List.mem_of_getElem? (i := 843) (by decide +kernel)
theorem mw_X7_touch : MWk yX7_touch cX7_touch 8 (Option.some FieldType.int) := ⟨List.mem_of_getElem? (i := 904) (by decide +kernel), List.mem_of_getElem? (i := 53) (by decide +kernel)⟩
theorem im_X7_touch : IMk yX7_touch := List.mem_of_getElem? (i := 902) (by decide +kernel)
theorem sl_X7_touch : SLk yX7_touch := List.mem_of_getElem? (i := 903) (by decide +kernel)
theorem mw_X7_typeAt : MWk yX7_typeAt cX7_typeAt 2 (Option.some FieldType.int) := ⟨List.mem_of_getElem? (i := 960) (by decide +kernel), List.mem_of_getElem? (i := 53) (by decide +kernel)⟩
theorem im_X7_typeAt : IMk yX7_typeAt := List.mem_of_getElem? (i := 959) (by decide +kernel)
theorem sl_X7_typeAt : SLk yX7_typeAt := List.mem_of_getElem? (i := 42) (by decide +kernel)
theorem mw_X7_under : MWk yX7_under cX7_under 5 (Option.some FieldType.int) := ⟨List.mem_of_getElem? (i := 816) (by decide +kernel), List.mem_of_getElem? (i := 53) (by decide +kernel)⟩
theorem im_X7_under : IMk yX7_under := List.mem_of_getElem? (i := 814) (by decide +kernel)
theorem sl_X7_under : SLk yX7_under := List.mem_of_getElem? (i := 815) (by decide +kernel)
theorem mw_X7_value : MWk yX7_value cX7_value 5 (Option.some FieldType.int) := ⟨List.mem_of_getElem? (i := 1000) (by decide +kernel), List.mem_of_getElem? (i := 53) (by decide +kernel)⟩
theorem im_X7_value : IMk yX7_value := List.mem_of_getElem? (i := 998) (by decide +kernel)
theorem sl_X7_value : SLk yX7_value := List.mem_of_getElem? (i := 999) (by decide +kernel)
theorem mw_X7_valueAt : MWk yX7_valueAt cX7_valueAt 2 (Option.some FieldType.int) := ⟨List.mem_of_getElem? (i := 968) (by decide +kernel), List.mem_of_getElem? (i := 53) (by decide +kernel)⟩
theorem im_X7_valueAt : IMk yX7_valueAt := List.mem_of_getElem? (i := 967) (by decide +kernel)
theorem sl_X7_valueAt : SLk yX7_valueAt := List.mem_of_getElem? (i := 44) (by decide +kernel)
theorem mw_X7_world : MWk yX7_world cX7_world 3 (Option.some FieldType.int) := ⟨List.mem_of_getElem? (i := 896) (by decide +kernel), List.mem_of_getElem? (i := 53) (by decide +kernel)⟩
theorem im_X7_world : IMk yX7_world := List.mem_of_getElem? (i := 894) (by decide +kernel)
theorem sl_X7_world : SLk yX7_world := List.mem_of_getElem? (i := 895) (by decide +kernel)
theorem mw_J9_max_7cf53 : MWk yJ9_max_7cf53 cJ9_max_7cf53 2 (Option.some FieldType.int) := ⟨List.mem_of_getElem? (i := 545) (by decide +kernel), List.mem_of_getElem? (i := 59) (by decide +kernel)⟩
theorem sm_J9_max_7cf53 : SMk yJ9_max_7cf53 := List.mem_of_getElem? (i := 544) (by decide +kernel)
theorem mw_J7_fill_53178 : MWk yJ7_fill_53178 cJ7_fill_53178 4 (Option.none : Option FieldType) := ⟨List.mem_of_getElem? (i := 78) (by decide +kernel), List.mem_of_getElem? (i := 51) (by decide +kernel)⟩
theorem sm_J7_fill_53178 : SMk yJ7_fill_53178 := List.mem_of_getElem? (i := 77) (by decide +kernel)
theorem ar_75 : Cond.arrayOver (FieldType.object "StartBench$Type") ∈ lw_tbl := List.mem_of_getElem? (i := 75) (by decide +kernel)
theorem ar_106 : Cond.arrayClass (FieldType.int) ∈ lw_tbl := List.mem_of_getElem? (i := 106) (by decide +kernel)
theorem ar_107 : Cond.arrayClass (FieldType.long) ∈ lw_tbl := List.mem_of_getElem? (i := 107) (by decide +kernel)
theorem ar_109 : Cond.arrayOver (FieldType.object "StartBench$World") ∈ lw_tbl := List.mem_of_getElem? (i := 109) (by decide +kernel)
theorem ar_186 : Cond.arrayOver (FieldType.object "StartBench$Body") ∈ lw_tbl := List.mem_of_getElem? (i := 186) (by decide +kernel)
theorem ar_193 : Cond.arrayOver (FieldType.object "StartBench$Action") ∈ lw_tbl := List.mem_of_getElem? (i := 193) (by decide +kernel)
theorem ar_793 : Cond.arrayClass (FieldType.boolean) ∈ lw_tbl := List.mem_of_getElem? (i := 793) (by decide +kernel)
theorem oi_code : Cond.code objectInit ⟨#[0xb1]⟩ 1 none ∈ lw_tbl := List.mem_of_getElem? (i := 67) (by decide +kernel)
theorem oi_inst : Cond.instanceMethod objectInit ∈ lw_tbl := List.mem_of_getElem? (i := 66) (by decide +kernel)
end
section
theorem dX0_init_0 : decode cX0_init 0 = .ok (.aload_n 0, 1) := by decide +kernel
theorem dX0_init_1 : decode cX0_init 1 = .ok (.invokespecial 1, 3) := by decide +kernel
theorem dX0_init_4 : decode cX0_init 4 = .ok (.aload_n 0, 1) := by decide +kernel
theorem dX0_init_5 : decode cX0_init 5 = .ok (.iload_n 1, 1) := by decide +kernel
theorem dX0_init_6 : decode cX0_init 6 = .ok (.putfield 7, 3) := by decide +kernel
theorem dX0_init_9 : decode cX0_init 9 = .ok (.aload_n 0, 1) := by decide +kernel
theorem dX0_init_10 : decode cX0_init 10 = .ok (.iload_n 2, 1) := by decide +kernel
theorem dX0_init_11 : decode cX0_init 11 = .ok (.putfield 13, 3) := by decide +kernel
theorem dX0_init_14 : decode cX0_init 14 = .ok (.aload_n 0, 1) := by decide +kernel
theorem dX0_init_15 : decode cX0_init 15 = .ok (.iload_n 3, 1) := by decide +kernel
theorem dX0_init_16 : decode cX0_init 16 = .ok (.putfield 16, 3) := by decide +kernel
theorem dX0_init_19 : decode cX0_init 19 = .ok (.aload_n 0, 1) := by decide +kernel
theorem dX0_init_20 : decode cX0_init 20 = .ok (.iload 4, 2) := by decide +kernel
theorem dX0_init_22 : decode cX0_init 22 = .ok (.putfield 19, 3) := by decide +kernel
theorem dX0_init_25 : decode cX0_init 25 = .ok (.return_, 1) := by decide +kernel
theorem dX1_init_0 : decode cX1_init 0 = .ok (.aload_n 0, 1) := by decide +kernel
theorem dX1_init_1 : decode cX1_init 1 = .ok (.invokespecial 3, 3) := by decide +kernel
theorem dX1_init_4 : decode cX1_init 4 = .ok (.aload_n 0, 1) := by decide +kernel
theorem dX1_init_5 : decode cX1_init 5 = .ok (.bipush 12, 2) := by decide +kernel
theorem dX1_init_7 : decode cX1_init 7 = .ok (.anewarray 9, 3) := by decide +kernel
theorem dX1_init_10 : decode cX1_init 10 = .ok (.putfield 11, 3) := by decide +kernel
theorem dX1_init_13 : decode cX1_init 13 = .ok (.return_, 1) := by decide +kernel
theorem dX1_append_0 : decode cX1_append 0 = .ok (.aload_n 0, 1) := by decide +kernel
theorem dX1_append_1 : decode cX1_append 1 = .ok (.getfield 17, 3) := by decide +kernel
theorem dX1_append_4 : decode cX1_append 4 = .ok (.bipush 12, 2) := by decide +kernel
theorem dX1_append_6 : decode cX1_append 6 = .ok (.if_icmp .ge 23, 3) := by decide +kernel
theorem dX1_append_9 : decode cX1_append 9 = .ok (.aload_n 0, 1) := by decide +kernel
theorem dX1_append_10 : decode cX1_append 10 = .ok (.getfield 11, 3) := by decide +kernel
theorem dX1_append_13 : decode cX1_append 13 = .ok (.aload_n 0, 1) := by decide +kernel
theorem dX1_append_14 : decode cX1_append 14 = .ok (.getfield 17, 3) := by decide +kernel
theorem dX1_append_17 : decode cX1_append 17 = .ok (.aload_n 1, 1) := by decide +kernel
theorem dX1_append_18 : decode cX1_append 18 = .ok (.aastore, 1) := by decide +kernel
theorem dX1_append_19 : decode cX1_append 19 = .ok (.aload_n 0, 1) := by decide +kernel
theorem dX1_append_20 : decode cX1_append 20 = .ok (.dup, 1) := by decide +kernel
theorem dX1_append_21 : decode cX1_append 21 = .ok (.getfield 17, 3) := by decide +kernel
theorem dX1_append_24 : decode cX1_append 24 = .ok (.iconst 1, 1) := by decide +kernel
theorem dX1_append_25 : decode cX1_append 25 = .ok (.iadd, 1) := by decide +kernel
theorem dX1_append_26 : decode cX1_append 26 = .ok (.putfield 17, 3) := by decide +kernel
theorem dX1_append_29 : decode cX1_append 29 = .ok (.aload_n 0, 1) := by decide +kernel
theorem dX1_append_30 : decode cX1_append 30 = .ok (.getfield 17, 3) := by decide +kernel
theorem dX1_append_33 : decode cX1_append 33 = .ok (.ireturn, 1) := by decide +kernel
theorem dX2_init_0 : decode cX2_init 0 = .ok (.aload_n 0, 1) := by decide +kernel
theorem dX2_init_1 : decode cX2_init 1 = .ok (.invokespecial 3, 3) := by decide +kernel
theorem dX2_init_4 : decode cX2_init 4 = .ok (.aload_n 0, 1) := by decide +kernel
theorem dX2_init_5 : decode cX2_init 5 = .ok (.bipush 40, 2) := by decide +kernel
theorem dX2_init_7 : decode cX2_init 7 = .ok (.anewarray 9, 3) := by decide +kernel
theorem dX2_init_10 : decode cX2_init 10 = .ok (.putfield 11, 3) := by decide +kernel
theorem dX2_init_13 : decode cX2_init 13 = .ok (.aload_n 0, 1) := by decide +kernel
theorem dX2_init_14 : decode cX2_init 14 = .ok (.sipush 400, 3) := by decide +kernel
theorem dX2_init_17 : decode cX2_init 17 = .ok (.newarray .int, 2) := by decide +kernel
theorem dX2_init_19 : decode cX2_init 19 = .ok (.putfield 17, 3) := by decide +kernel
theorem dX2_init_22 : decode cX2_init 22 = .ok (.aload_n 0, 1) := by decide +kernel
theorem dX2_init_23 : decode cX2_init 23 = .ok (.bipush 40, 2) := by decide +kernel
theorem dX2_init_25 : decode cX2_init 25 = .ok (.newarray .int, 2) := by decide +kernel
theorem dX2_init_27 : decode cX2_init 27 = .ok (.putfield 21, 3) := by decide +kernel
theorem dX2_init_30 : decode cX2_init 30 = .ok (.aload_n 0, 1) := by decide +kernel
theorem dX2_init_31 : decode cX2_init 31 = .ok (.bipush 40, 2) := by decide +kernel
theorem dX2_init_33 : decode cX2_init 33 = .ok (.newarray .long, 2) := by decide +kernel
theorem dX2_init_35 : decode cX2_init 35 = .ok (.putfield 24, 3) := by decide +kernel
theorem dX2_init_38 : decode cX2_init 38 = .ok (.aload_n 0, 1) := by decide +kernel
theorem dX2_init_39 : decode cX2_init 39 = .ok (.getfield 17, 3) := by decide +kernel
theorem dX2_init_42 : decode cX2_init 42 = .ok (.iconst (-1), 1) := by decide +kernel
theorem dX2_init_43 : decode cX2_init 43 = .ok (.invokestatic 28, 3) := by decide +kernel
theorem dX2_init_46 : decode cX2_init 46 = .ok (.return_, 1) := by decide +kernel
theorem dX2_knows_0 : decode cX2_knows 0 = .ok (.iload_n 1, 1) := by decide +kernel
theorem dX2_knows_1 : decode cX2_knows 1 = .ok (.ifCond .lt 15, 3) := by decide +kernel
theorem dX2_knows_4 : decode cX2_knows 4 = .ok (.iload_n 1, 1) := by decide +kernel
theorem dX2_knows_5 : decode cX2_knows 5 = .ok (.aload_n 0, 1) := by decide +kernel
theorem dX2_knows_6 : decode cX2_knows 6 = .ok (.getfield 34, 3) := by decide +kernel
theorem dX2_knows_9 : decode cX2_knows 9 = .ok (.if_icmp .ge 7, 3) := by decide +kernel
theorem dX2_knows_12 : decode cX2_knows 12 = .ok (.iconst 1, 1) := by decide +kernel
theorem dX2_knows_13 : decode cX2_knows 13 = .ok (.goto 4, 3) := by decide +kernel
theorem dX2_knows_16 : decode cX2_knows 16 = .ok (.iconst 0, 1) := by decide +kernel
theorem dX2_knows_17 : decode cX2_knows 17 = .ok (.ireturn, 1) := by decide +kernel
theorem dX2_append_0 : decode cX2_append 0 = .ok (.aload_n 1, 1) := by decide +kernel
theorem dX2_append_1 : decode cX2_append 1 = .ok (.getfield 38, 3) := by decide +kernel
theorem dX2_append_4 : decode cX2_append 4 = .ok (.ifCond .lt 26, 3) := by decide +kernel
theorem dX2_append_7 : decode cX2_append 7 = .ok (.aload_n 1, 1) := by decide +kernel
theorem dX2_append_8 : decode cX2_append 8 = .ok (.lconst 1, 1) := by decide +kernel
theorem dX2_append_9 : decode cX2_append 9 = .ok (.aload_n 1, 1) := by decide +kernel
theorem dX2_append_10 : decode cX2_append 10 = .ok (.getfield 38, 3) := by decide +kernel
theorem dX2_append_13 : decode cX2_append 13 = .ok (.lshl, 1) := by decide +kernel
theorem dX2_append_14 : decode cX2_append 14 = .ok (.aload_n 0, 1) := by decide +kernel
theorem dX2_append_15 : decode cX2_append 15 = .ok (.getfield 11, 3) := by decide +kernel
theorem dX2_append_18 : decode cX2_append 18 = .ok (.aload_n 1, 1) := by decide +kernel
theorem dX2_append_19 : decode cX2_append 19 = .ok (.getfield 38, 3) := by decide +kernel
theorem dX2_append_22 : decode cX2_append 22 = .ok (.aaload, 1) := by decide +kernel
theorem dX2_append_23 : decode cX2_append 23 = .ok (.getfield 41, 3) := by decide +kernel
theorem dX2_append_26 : decode cX2_append 26 = .ok (.lor, 1) := by decide +kernel
theorem dX2_append_27 : decode cX2_append 27 = .ok (.putfield 41, 3) := by decide +kernel
theorem dX2_append_30 : decode cX2_append 30 = .ok (.aload_n 0, 1) := by decide +kernel
theorem dX2_append_31 : decode cX2_append 31 = .ok (.getfield 11, 3) := by decide +kernel
theorem dX2_append_34 : decode cX2_append 34 = .ok (.aload_n 0, 1) := by decide +kernel
theorem dX2_append_35 : decode cX2_append 35 = .ok (.getfield 34, 3) := by decide +kernel
theorem dX2_append_38 : decode cX2_append 38 = .ok (.aload_n 1, 1) := by decide +kernel
theorem dX2_append_39 : decode cX2_append 39 = .ok (.aastore, 1) := by decide +kernel
theorem dX2_append_40 : decode cX2_append 40 = .ok (.aload_n 0, 1) := by decide +kernel
theorem dX2_append_41 : decode cX2_append 41 = .ok (.dup, 1) := by decide +kernel
theorem dX2_append_42 : decode cX2_append 42 = .ok (.getfield 34, 3) := by decide +kernel
theorem dX2_append_45 : decode cX2_append 45 = .ok (.iconst 1, 1) := by decide +kernel
theorem dX2_append_46 : decode cX2_append 46 = .ok (.iadd, 1) := by decide +kernel
theorem dX2_append_47 : decode cX2_append 47 = .ok (.putfield 34, 3) := by decide +kernel
theorem dX2_append_50 : decode cX2_append 50 = .ok (.aload_n 0, 1) := by decide +kernel
theorem dX2_append_51 : decode cX2_append 51 = .ok (.getfield 34, 3) := by decide +kernel
theorem dX2_append_54 : decode cX2_append 54 = .ok (.iconst 1, 1) := by decide +kernel
theorem dX2_append_55 : decode cX2_append 55 = .ok (.isub, 1) := by decide +kernel
theorem dX2_append_56 : decode cX2_append 56 = .ok (.ireturn, 1) := by decide +kernel
theorem dX2_leadsTo_0 : decode cX2_leadsTo 0 = .ok (.aload_n 0, 1) := by decide +kernel
theorem dX2_leadsTo_1 : decode cX2_leadsTo 1 = .ok (.getfield 11, 3) := by decide +kernel
theorem dX2_leadsTo_4 : decode cX2_leadsTo 4 = .ok (.iload_n 1, 1) := by decide +kernel
theorem dX2_leadsTo_5 : decode cX2_leadsTo 5 = .ok (.aaload, 1) := by decide +kernel
theorem dX2_leadsTo_6 : decode cX2_leadsTo 6 = .ok (.getfield 41, 3) := by decide +kernel
theorem dX2_leadsTo_9 : decode cX2_leadsTo 9 = .ok (.iload_n 2, 1) := by decide +kernel
theorem dX2_leadsTo_10 : decode cX2_leadsTo 10 = .ok (.lshr, 1) := by decide +kernel
theorem dX2_leadsTo_11 : decode cX2_leadsTo 11 = .ok (.lconst 1, 1) := by decide +kernel
theorem dX2_leadsTo_12 : decode cX2_leadsTo 12 = .ok (.land, 1) := by decide +kernel
theorem dX2_leadsTo_13 : decode cX2_leadsTo 13 = .ok (.lconst 0, 1) := by decide +kernel
theorem dX2_leadsTo_14 : decode cX2_leadsTo 14 = .ok (.lcmp, 1) := by decide +kernel
theorem dX2_leadsTo_15 : decode cX2_leadsTo 15 = .ok (.ifCond .eq 7, 3) := by decide +kernel
theorem dX2_leadsTo_18 : decode cX2_leadsTo 18 = .ok (.iconst 1, 1) := by decide +kernel
theorem dX2_leadsTo_19 : decode cX2_leadsTo 19 = .ok (.goto 4, 3) := by decide +kernel
theorem dX2_leadsTo_22 : decode cX2_leadsTo 22 = .ok (.iconst 0, 1) := by decide +kernel
theorem dX2_leadsTo_23 : decode cX2_leadsTo 23 = .ok (.ireturn, 1) := by decide +kernel
theorem dX2_countLeading_0 : decode cX2_countLeading 0 = .ok (.iconst 0, 1) := by decide +kernel
theorem dX2_countLeading_1 : decode cX2_countLeading 1 = .ok (.istore_n 2, 1) := by decide +kernel
theorem dX2_countLeading_2 : decode cX2_countLeading 2 = .ok (.iconst 0, 1) := by decide +kernel
theorem dX2_countLeading_3 : decode cX2_countLeading 3 = .ok (.istore_n 3, 1) := by decide +kernel
theorem dX2_countLeading_4 : decode cX2_countLeading 4 = .ok (.iload_n 3, 1) := by decide +kernel
theorem dX2_countLeading_5 : decode cX2_countLeading 5 = .ok (.aload_n 0, 1) := by decide +kernel
theorem dX2_countLeading_6 : decode cX2_countLeading 6 = .ok (.getfield 34, 3) := by decide +kernel
theorem dX2_countLeading_9 : decode cX2_countLeading 9 = .ok (.if_icmp .ge 21, 3) := by decide +kernel
theorem dX2_countLeading_12 : decode cX2_countLeading 12 = .ok (.aload_n 0, 1) := by decide +kernel
theorem dX2_countLeading_13 : decode cX2_countLeading 13 = .ok (.iload_n 3, 1) := by decide +kernel
theorem dX2_countLeading_14 : decode cX2_countLeading 14 = .ok (.iload_n 1, 1) := by decide +kernel
theorem dX2_countLeading_15 : decode cX2_countLeading 15 = .ok (.invokevirtual 45, 3) := by decide +kernel
theorem dX2_countLeading_18 : decode cX2_countLeading 18 = .ok (.ifCond .eq 6, 3) := by decide +kernel
theorem dX2_countLeading_21 : decode cX2_countLeading 21 = .ok (.iinc 2 1, 3) := by decide +kernel
theorem dX2_countLeading_24 : decode cX2_countLeading 24 = .ok (.iinc 3 1, 3) := by decide +kernel
theorem dX2_countLeading_27 : decode cX2_countLeading 27 = .ok (.goto (-23), 3) := by decide +kernel
theorem dX2_countLeading_30 : decode cX2_countLeading 30 = .ok (.iload_n 2, 1) := by decide +kernel
theorem dX2_countLeading_31 : decode cX2_countLeading 31 = .ok (.ireturn, 1) := by decide +kernel
theorem dX2_putUnder_0 : decode cX2_putUnder 0 = .ok (.aload_n 0, 1) := by decide +kernel
theorem dX2_putUnder_1 : decode cX2_putUnder 1 = .ok (.getfield 11, 3) := by decide +kernel
theorem dX2_putUnder_4 : decode cX2_putUnder 4 = .ok (.iload_n 1, 1) := by decide +kernel
theorem dX2_putUnder_5 : decode cX2_putUnder 5 = .ok (.aaload, 1) := by decide +kernel
theorem dX2_putUnder_6 : decode cX2_putUnder 6 = .ok (.astore_n 3, 1) := by decide +kernel
theorem dX2_putUnder_7 : decode cX2_putUnder 7 = .ok (.aload_n 3, 1) := by decide +kernel
theorem dX2_putUnder_8 : decode cX2_putUnder 8 = .ok (.getfield 49, 3) := by decide +kernel
theorem dX2_putUnder_11 : decode cX2_putUnder 11 = .ok (.aload_n 3, 1) := by decide +kernel
theorem dX2_putUnder_12 : decode cX2_putUnder 12 = .ok (.getfield 52, 3) := by decide +kernel
theorem dX2_putUnder_15 : decode cX2_putUnder 15 = .ok (.iload_n 2, 1) := by decide +kernel
theorem dX2_putUnder_16 : decode cX2_putUnder 16 = .ok (.iastore, 1) := by decide +kernel
theorem dX2_putUnder_17 : decode cX2_putUnder 17 = .ok (.aload_n 3, 1) := by decide +kernel
theorem dX2_putUnder_18 : decode cX2_putUnder 18 = .ok (.dup, 1) := by decide +kernel
theorem dX2_putUnder_19 : decode cX2_putUnder 19 = .ok (.getfield 52, 3) := by decide +kernel
theorem dX2_putUnder_22 : decode cX2_putUnder 22 = .ok (.iconst 1, 1) := by decide +kernel
theorem dX2_putUnder_23 : decode cX2_putUnder 23 = .ok (.iadd, 1) := by decide +kernel
theorem dX2_putUnder_24 : decode cX2_putUnder 24 = .ok (.putfield 52, 3) := by decide +kernel
theorem dX2_putUnder_27 : decode cX2_putUnder 27 = .ok (.lconst 1, 1) := by decide +kernel
theorem dX2_putUnder_28 : decode cX2_putUnder 28 = .ok (.iload_n 2, 1) := by decide +kernel
theorem dX2_putUnder_29 : decode cX2_putUnder 29 = .ok (.lshl, 1) := by decide +kernel
theorem dX2_putUnder_30 : decode cX2_putUnder 30 = .ok (.aload_n 0, 1) := by decide +kernel
theorem dX2_putUnder_31 : decode cX2_putUnder 31 = .ok (.getfield 11, 3) := by decide +kernel
theorem dX2_putUnder_34 : decode cX2_putUnder 34 = .ok (.iload_n 2, 1) := by decide +kernel
theorem dX2_putUnder_35 : decode cX2_putUnder 35 = .ok (.aaload, 1) := by decide +kernel
theorem dX2_putUnder_36 : decode cX2_putUnder 36 = .ok (.getfield 41, 3) := by decide +kernel
theorem dX2_putUnder_39 : decode cX2_putUnder 39 = .ok (.lor, 1) := by decide +kernel
theorem dX2_putUnder_40 : decode cX2_putUnder 40 = .ok (.lstore 4, 2) := by decide +kernel
theorem dX2_putUnder_42 : decode cX2_putUnder 42 = .ok (.iconst 0, 1) := by decide +kernel
theorem dX2_putUnder_43 : decode cX2_putUnder 43 = .ok (.istore 6, 2) := by decide +kernel
theorem dX2_putUnder_45 : decode cX2_putUnder 45 = .ok (.iload 6, 2) := by decide +kernel
theorem dX2_putUnder_47 : decode cX2_putUnder 47 = .ok (.aload_n 0, 1) := by decide +kernel
theorem dX2_putUnder_48 : decode cX2_putUnder 48 = .ok (.getfield 34, 3) := by decide +kernel
theorem dX2_putUnder_51 : decode cX2_putUnder 51 = .ok (.if_icmp .ge 42, 3) := by decide +kernel
theorem dX2_putUnder_54 : decode cX2_putUnder 54 = .ok (.iload 6, 2) := by decide +kernel
theorem dX2_putUnder_56 : decode cX2_putUnder 56 = .ok (.iload_n 1, 1) := by decide +kernel
theorem dX2_putUnder_57 : decode cX2_putUnder 57 = .ok (.if_icmp .eq 13, 3) := by decide +kernel
theorem dX2_putUnder_60 : decode cX2_putUnder 60 = .ok (.aload_n 0, 1) := by decide +kernel
theorem dX2_putUnder_61 : decode cX2_putUnder 61 = .ok (.iload 6, 2) := by decide +kernel
theorem dX2_putUnder_63 : decode cX2_putUnder 63 = .ok (.iload_n 1, 1) := by decide +kernel
theorem dX2_putUnder_64 : decode cX2_putUnder 64 = .ok (.invokevirtual 45, 3) := by decide +kernel
theorem dX2_putUnder_67 : decode cX2_putUnder 67 = .ok (.ifCond .eq 20, 3) := by decide +kernel
theorem dX2_putUnder_70 : decode cX2_putUnder 70 = .ok (.aload_n 0, 1) := by decide +kernel
theorem dX2_putUnder_71 : decode cX2_putUnder 71 = .ok (.getfield 11, 3) := by decide +kernel
theorem dX2_putUnder_74 : decode cX2_putUnder 74 = .ok (.iload 6, 2) := by decide +kernel
theorem dX2_putUnder_76 : decode cX2_putUnder 76 = .ok (.aaload, 1) := by decide +kernel
theorem dX2_putUnder_77 : decode cX2_putUnder 77 = .ok (.dup, 1) := by decide +kernel
theorem dX2_putUnder_78 : decode cX2_putUnder 78 = .ok (.getfield 41, 3) := by decide +kernel
theorem dX2_putUnder_81 : decode cX2_putUnder 81 = .ok (.lload 4, 2) := by decide +kernel
theorem dX2_putUnder_83 : decode cX2_putUnder 83 = .ok (.lor, 1) := by decide +kernel
theorem dX2_putUnder_84 : decode cX2_putUnder 84 = .ok (.putfield 41, 3) := by decide +kernel
theorem dX2_putUnder_87 : decode cX2_putUnder 87 = .ok (.iinc 6 1, 3) := by decide +kernel
theorem dX2_putUnder_90 : decode cX2_putUnder 90 = .ok (.goto (-45), 3) := by decide +kernel
theorem dX2_putUnder_93 : decode cX2_putUnder 93 = .ok (.aload_n 0, 1) := by decide +kernel
theorem dX2_putUnder_94 : decode cX2_putUnder 94 = .ok (.invokevirtual 55, 3) := by decide +kernel
theorem dX2_putUnder_97 : decode cX2_putUnder 97 = .ok (.return_, 1) := by decide +kernel
theorem dX2_forgetFields_0 : decode cX2_forgetFields 0 = .ok (.aload_n 0, 1) := by decide +kernel
theorem dX2_forgetFields_1 : decode cX2_forgetFields 1 = .ok (.getfield 17, 3) := by decide +kernel
theorem dX2_forgetFields_4 : decode cX2_forgetFields 4 = .ok (.iconst (-1), 1) := by decide +kernel
theorem dX2_forgetFields_5 : decode cX2_forgetFields 5 = .ok (.invokestatic 28, 3) := by decide +kernel
theorem dX2_forgetFields_8 : decode cX2_forgetFields 8 = .ok (.return_, 1) := by decide +kernel
theorem dX2_fieldOwner_0 : decode cX2_fieldOwner 0 = .ok (.aload_n 0, 1) := by decide +kernel
theorem dX2_fieldOwner_1 : decode cX2_fieldOwner 1 = .ok (.iload_n 1, 1) := by decide +kernel
theorem dX2_fieldOwner_2 : decode cX2_fieldOwner 2 = .ok (.iload_n 2, 1) := by decide +kernel
theorem dX2_fieldOwner_3 : decode cX2_fieldOwner 3 = .ok (.iconst 0, 1) := by decide +kernel
theorem dX2_fieldOwner_4 : decode cX2_fieldOwner 4 = .ok (.invokevirtual 58, 3) := by decide +kernel
theorem dX2_fieldOwner_7 : decode cX2_fieldOwner 7 = .ok (.ireturn, 1) := by decide +kernel
theorem dX2_seekField_0 : decode cX2_seekField 0 = .ok (.iload_n 3, 1) := by decide +kernel
theorem dX2_seekField_1 : decode cX2_seekField 1 = .ok (.bipush 40, 2) := by decide +kernel
theorem dX2_seekField_3 : decode cX2_seekField 3 = .ok (.if_icmp .lt 6, 3) := by decide +kernel
theorem dX2_seekField_6 : decode cX2_seekField 6 = .ok (.bipush (-6), 2) := by decide +kernel
theorem dX2_seekField_8 : decode cX2_seekField 8 = .ok (.ireturn, 1) := by decide +kernel
theorem dX2_seekField_9 : decode cX2_seekField 9 = .ok (.iload_n 1, 1) := by decide +kernel
theorem dX2_seekField_10 : decode cX2_seekField 10 = .ok (.bipush 10, 2) := by decide +kernel
theorem dX2_seekField_12 : decode cX2_seekField 12 = .ok (.imul, 1) := by decide +kernel
theorem dX2_seekField_13 : decode cX2_seekField 13 = .ok (.iload_n 2, 1) := by decide +kernel
theorem dX2_seekField_14 : decode cX2_seekField 14 = .ok (.iadd, 1) := by decide +kernel
theorem dX2_seekField_15 : decode cX2_seekField 15 = .ok (.istore 4, 2) := by decide +kernel
theorem dX2_seekField_17 : decode cX2_seekField 17 = .ok (.aload_n 0, 1) := by decide +kernel
theorem dX2_seekField_18 : decode cX2_seekField 18 = .ok (.getfield 17, 3) := by decide +kernel
theorem dX2_seekField_21 : decode cX2_seekField 21 = .ok (.iload 4, 2) := by decide +kernel
theorem dX2_seekField_23 : decode cX2_seekField 23 = .ok (.iaload, 1) := by decide +kernel
theorem dX2_seekField_24 : decode cX2_seekField 24 = .ok (.iconst (-1), 1) := by decide +kernel
theorem dX2_seekField_25 : decode cX2_seekField 25 = .ok (.if_icmp .eq 11, 3) := by decide +kernel
theorem dX2_seekField_28 : decode cX2_seekField 28 = .ok (.aload_n 0, 1) := by decide +kernel
theorem dX2_seekField_29 : decode cX2_seekField 29 = .ok (.getfield 17, 3) := by decide +kernel
theorem dX2_seekField_32 : decode cX2_seekField 32 = .ok (.iload 4, 2) := by decide +kernel
theorem dX2_seekField_34 : decode cX2_seekField 34 = .ok (.iaload, 1) := by decide +kernel
theorem dX2_seekField_35 : decode cX2_seekField 35 = .ok (.ireturn, 1) := by decide +kernel
theorem dX2_seekField_36 : decode cX2_seekField 36 = .ok (.aload_n 0, 1) := by decide +kernel
theorem dX2_seekField_37 : decode cX2_seekField 37 = .ok (.getfield 11, 3) := by decide +kernel
theorem dX2_seekField_40 : decode cX2_seekField 40 = .ok (.iload_n 1, 1) := by decide +kernel
theorem dX2_seekField_41 : decode cX2_seekField 41 = .ok (.aaload, 1) := by decide +kernel
theorem dX2_seekField_42 : decode cX2_seekField 42 = .ok (.astore 5, 2) := by decide +kernel
theorem dX2_seekField_44 : decode cX2_seekField 44 = .ok (.aload 5, 2) := by decide +kernel
theorem dX2_seekField_46 : decode cX2_seekField 46 = .ok (.getfield 62, 3) := by decide +kernel
theorem dX2_seekField_49 : decode cX2_seekField 49 = .ok (.iload_n 2, 1) := by decide +kernel
theorem dX2_seekField_50 : decode cX2_seekField 50 = .ok (.iaload, 1) := by decide +kernel
theorem dX2_seekField_51 : decode cX2_seekField 51 = .ok (.ifCond .eq 7, 3) := by decide +kernel
theorem dX2_seekField_54 : decode cX2_seekField 54 = .ok (.iload_n 1, 1) := by decide +kernel
theorem dX2_seekField_55 : decode cX2_seekField 55 = .ok (.goto 5, 3) := by decide +kernel
theorem dX2_seekField_58 : decode cX2_seekField 58 = .ok (.bipush (-6), 2) := by decide +kernel
theorem dX2_seekField_60 : decode cX2_seekField 60 = .ok (.istore 6, 2) := by decide +kernel
theorem dX2_seekField_62 : decode cX2_seekField 62 = .ok (.iconst 0, 1) := by decide +kernel
theorem dX2_seekField_63 : decode cX2_seekField 63 = .ok (.istore 7, 2) := by decide +kernel
theorem dX2_seekField_65 : decode cX2_seekField 65 = .ok (.iload 7, 2) := by decide +kernel
theorem dX2_seekField_67 : decode cX2_seekField 67 = .ok (.aload 5, 2) := by decide +kernel
theorem dX2_seekField_69 : decode cX2_seekField 69 = .ok (.getfield 52, 3) := by decide +kernel
theorem dX2_seekField_72 : decode cX2_seekField 72 = .ok (.if_icmp .ge 34, 3) := by decide +kernel
theorem dX2_seekField_75 : decode cX2_seekField 75 = .ok (.iload 6, 2) := by decide +kernel
theorem dX2_seekField_77 : decode cX2_seekField 77 = .ok (.bipush (-6), 2) := by decide +kernel
theorem dX2_seekField_79 : decode cX2_seekField 79 = .ok (.if_icmp .ne 27, 3) := by decide +kernel
theorem dX2_seekField_82 : decode cX2_seekField 82 = .ok (.aload_n 0, 1) := by decide +kernel
theorem dX2_seekField_83 : decode cX2_seekField 83 = .ok (.aload 5, 2) := by decide +kernel
theorem dX2_seekField_85 : decode cX2_seekField 85 = .ok (.getfield 49, 3) := by decide +kernel
theorem dX2_seekField_88 : decode cX2_seekField 88 = .ok (.iload 7, 2) := by decide +kernel
theorem dX2_seekField_90 : decode cX2_seekField 90 = .ok (.iaload, 1) := by decide +kernel
theorem dX2_seekField_91 : decode cX2_seekField 91 = .ok (.iload_n 2, 1) := by decide +kernel
theorem dX2_seekField_92 : decode cX2_seekField 92 = .ok (.iload_n 3, 1) := by decide +kernel
theorem dX2_seekField_93 : decode cX2_seekField 93 = .ok (.iconst 1, 1) := by decide +kernel
theorem dX2_seekField_94 : decode cX2_seekField 94 = .ok (.iadd, 1) := by decide +kernel
theorem dX2_seekField_95 : decode cX2_seekField 95 = .ok (.invokevirtual 58, 3) := by decide +kernel
theorem dX2_seekField_98 : decode cX2_seekField 98 = .ok (.istore 6, 2) := by decide +kernel
theorem dX2_seekField_100 : decode cX2_seekField 100 = .ok (.iinc 7 1, 3) := by decide +kernel
theorem dX2_seekField_103 : decode cX2_seekField 103 = .ok (.goto (-38), 3) := by decide +kernel
theorem dX2_seekField_106 : decode cX2_seekField 106 = .ok (.iload 6, 2) := by decide +kernel
theorem dX2_seekField_108 : decode cX2_seekField 108 = .ok (.bipush (-6), 2) := by decide +kernel
theorem dX2_seekField_110 : decode cX2_seekField 110 = .ok (.if_icmp .ne 26, 3) := by decide +kernel
theorem dX2_seekField_113 : decode cX2_seekField 113 = .ok (.aload 5, 2) := by decide +kernel
theorem dX2_seekField_115 : decode cX2_seekField 115 = .ok (.getfield 38, 3) := by decide +kernel
theorem dX2_seekField_118 : decode cX2_seekField 118 = .ok (.ifCond .lt 18, 3) := by decide +kernel
theorem dX2_seekField_121 : decode cX2_seekField 121 = .ok (.aload_n 0, 1) := by decide +kernel
theorem dX2_seekField_122 : decode cX2_seekField 122 = .ok (.aload 5, 2) := by decide +kernel
theorem dX2_seekField_124 : decode cX2_seekField 124 = .ok (.getfield 38, 3) := by decide +kernel
theorem dX2_seekField_127 : decode cX2_seekField 127 = .ok (.iload_n 2, 1) := by decide +kernel
theorem dX2_seekField_128 : decode cX2_seekField 128 = .ok (.iload_n 3, 1) := by decide +kernel
theorem dX2_seekField_129 : decode cX2_seekField 129 = .ok (.iconst 1, 1) := by decide +kernel
theorem dX2_seekField_130 : decode cX2_seekField 130 = .ok (.iadd, 1) := by decide +kernel
theorem dX2_seekField_131 : decode cX2_seekField 131 = .ok (.invokevirtual 58, 3) := by decide +kernel
theorem dX2_seekField_134 : decode cX2_seekField 134 = .ok (.istore 6, 2) := by decide +kernel
theorem dX2_seekField_136 : decode cX2_seekField 136 = .ok (.aload_n 0, 1) := by decide +kernel
theorem dX2_seekField_137 : decode cX2_seekField 137 = .ok (.getfield 17, 3) := by decide +kernel
theorem dX2_seekField_140 : decode cX2_seekField 140 = .ok (.iload 4, 2) := by decide +kernel
theorem dX2_seekField_142 : decode cX2_seekField 142 = .ok (.iload 6, 2) := by decide +kernel
theorem dX2_seekField_144 : decode cX2_seekField 144 = .ok (.iastore, 1) := by decide +kernel
theorem dX2_seekField_145 : decode cX2_seekField 145 = .ok (.iload 6, 2) := by decide +kernel
theorem dX2_seekField_147 : decode cX2_seekField 147 = .ok (.ireturn, 1) := by decide +kernel
theorem dX2_methodOwner_0 : decode cX2_methodOwner 0 = .ok (.iload_n 1, 1) := by decide +kernel
theorem dX2_methodOwner_1 : decode cX2_methodOwner 1 = .ok (.istore_n 3, 1) := by decide +kernel
theorem dX2_methodOwner_2 : decode cX2_methodOwner 2 = .ok (.iconst 0, 1) := by decide +kernel
theorem dX2_methodOwner_3 : decode cX2_methodOwner 3 = .ok (.istore 4, 2) := by decide +kernel
theorem dX2_methodOwner_5 : decode cX2_methodOwner 5 = .ok (.iload 4, 2) := by decide +kernel
theorem dX2_methodOwner_7 : decode cX2_methodOwner 7 = .ok (.bipush 40, 2) := by decide +kernel
theorem dX2_methodOwner_9 : decode cX2_methodOwner 9 = .ok (.if_icmp .ge 39, 3) := by decide +kernel
theorem dX2_methodOwner_12 : decode cX2_methodOwner 12 = .ok (.iload_n 3, 1) := by decide +kernel
theorem dX2_methodOwner_13 : decode cX2_methodOwner 13 = .ok (.ifCond .lt 35, 3) := by decide +kernel
theorem dX2_methodOwner_16 : decode cX2_methodOwner 16 = .ok (.aload_n 0, 1) := by decide +kernel
theorem dX2_methodOwner_17 : decode cX2_methodOwner 17 = .ok (.getfield 11, 3) := by decide +kernel
theorem dX2_methodOwner_20 : decode cX2_methodOwner 20 = .ok (.iload_n 3, 1) := by decide +kernel
theorem dX2_methodOwner_21 : decode cX2_methodOwner 21 = .ok (.aaload, 1) := by decide +kernel
theorem dX2_methodOwner_22 : decode cX2_methodOwner 22 = .ok (.getfield 65, 3) := by decide +kernel
theorem dX2_methodOwner_25 : decode cX2_methodOwner 25 = .ok (.iload_n 2, 1) := by decide +kernel
theorem dX2_methodOwner_26 : decode cX2_methodOwner 26 = .ok (.aaload, 1) := by decide +kernel
theorem dX2_methodOwner_27 : decode cX2_methodOwner 27 = .ok (.ifnull 5, 3) := by decide +kernel
theorem dX2_methodOwner_30 : decode cX2_methodOwner 30 = .ok (.iload_n 3, 1) := by decide +kernel
theorem dX2_methodOwner_31 : decode cX2_methodOwner 31 = .ok (.ireturn, 1) := by decide +kernel
theorem dX2_methodOwner_32 : decode cX2_methodOwner 32 = .ok (.aload_n 0, 1) := by decide +kernel
theorem dX2_methodOwner_33 : decode cX2_methodOwner 33 = .ok (.getfield 11, 3) := by decide +kernel
theorem dX2_methodOwner_36 : decode cX2_methodOwner 36 = .ok (.iload_n 3, 1) := by decide +kernel
theorem dX2_methodOwner_37 : decode cX2_methodOwner 37 = .ok (.aaload, 1) := by decide +kernel
theorem dX2_methodOwner_38 : decode cX2_methodOwner 38 = .ok (.getfield 38, 3) := by decide +kernel
theorem dX2_methodOwner_41 : decode cX2_methodOwner 41 = .ok (.istore_n 3, 1) := by decide +kernel
theorem dX2_methodOwner_42 : decode cX2_methodOwner 42 = .ok (.iinc 4 1, 3) := by decide +kernel
theorem dX2_methodOwner_45 : decode cX2_methodOwner 45 = .ok (.goto (-40), 3) := by decide +kernel
theorem dX2_methodOwner_48 : decode cX2_methodOwner 48 = .ok (.bipush (-6), 2) := by decide +kernel
theorem dX2_methodOwner_50 : decode cX2_methodOwner 50 = .ok (.ireturn, 1) := by decide +kernel
theorem dX2_valueOf_0 : decode cX2_valueOf 0 = .ok (.aload_n 0, 1) := by decide +kernel
theorem dX2_valueOf_1 : decode cX2_valueOf 1 = .ok (.getfield 11, 3) := by decide +kernel
theorem dX2_valueOf_4 : decode cX2_valueOf 4 = .ok (.iload_n 2, 1) := by decide +kernel
theorem dX2_valueOf_5 : decode cX2_valueOf 5 = .ok (.aaload, 1) := by decide +kernel
theorem dX2_valueOf_6 : decode cX2_valueOf 6 = .ok (.astore 4, 2) := by decide +kernel
theorem dX2_valueOf_8 : decode cX2_valueOf 8 = .ok (.aload 4, 2) := by decide +kernel
theorem dX2_valueOf_10 : decode cX2_valueOf 10 = .ok (.getfield 62, 3) := by decide +kernel
theorem dX2_valueOf_13 : decode cX2_valueOf 13 = .ok (.iload_n 3, 1) := by decide +kernel
theorem dX2_valueOf_14 : decode cX2_valueOf 14 = .ok (.iaload, 1) := by decide +kernel
theorem dX2_valueOf_15 : decode cX2_valueOf 15 = .ok (.iconst 2, 1) := by decide +kernel
theorem dX2_valueOf_16 : decode cX2_valueOf 16 = .ok (.if_icmp .ne 13, 3) := by decide +kernel
theorem dX2_valueOf_19 : decode cX2_valueOf 19 = .ok (.aload 4, 2) := by decide +kernel
theorem dX2_valueOf_21 : decode cX2_valueOf 21 = .ok (.getfield 69, 3) := by decide +kernel
theorem dX2_valueOf_24 : decode cX2_valueOf 24 = .ok (.iload_n 3, 1) := by decide +kernel
theorem dX2_valueOf_25 : decode cX2_valueOf 25 = .ok (.iaload, 1) := by decide +kernel
theorem dX2_valueOf_26 : decode cX2_valueOf 26 = .ok (.goto 14, 3) := by decide +kernel
theorem dX2_valueOf_29 : decode cX2_valueOf 29 = .ok (.aload_n 1, 1) := by decide +kernel
theorem dX2_valueOf_30 : decode cX2_valueOf 30 = .ok (.getfield 72, 3) := by decide +kernel
theorem dX2_valueOf_33 : decode cX2_valueOf 33 = .ok (.iload_n 2, 1) := by decide +kernel
theorem dX2_valueOf_34 : decode cX2_valueOf 34 = .ok (.bipush 10, 2) := by decide +kernel
theorem dX2_valueOf_36 : decode cX2_valueOf 36 = .ok (.imul, 1) := by decide +kernel
theorem dX2_valueOf_37 : decode cX2_valueOf 37 = .ok (.iload_n 3, 1) := by decide +kernel
theorem dX2_valueOf_38 : decode cX2_valueOf 38 = .ok (.iadd, 1) := by decide +kernel
theorem dX2_valueOf_39 : decode cX2_valueOf 39 = .ok (.iaload, 1) := by decide +kernel
theorem dX2_valueOf_40 : decode cX2_valueOf 40 = .ok (.ireturn, 1) := by decide +kernel
theorem dX2_startedBy_0 : decode cX2_startedBy 0 = .ok (.aload_n 1, 1) := by decide +kernel
theorem dX2_startedBy_1 : decode cX2_startedBy 1 = .ok (.getfield 77, 3) := by decide +kernel
theorem dX2_startedBy_4 : decode cX2_startedBy 4 = .ok (.tableswitch 107 1 5 #[36, 36, 42, 68, 102], 36) := by decide +kernel
theorem dX2_startedBy_40 : decode cX2_startedBy 40 = .ok (.aload_n 0, 1) := by decide +kernel
theorem dX2_startedBy_41 : decode cX2_startedBy 41 = .ok (.aload_n 1, 1) := by decide +kernel
theorem dX2_startedBy_42 : decode cX2_startedBy 42 = .ok (.invokevirtual 82, 3) := by decide +kernel
theorem dX2_startedBy_45 : decode cX2_startedBy 45 = .ok (.ireturn, 1) := by decide +kernel
theorem dX2_startedBy_46 : decode cX2_startedBy 46 = .ok (.aload_n 0, 1) := by decide +kernel
theorem dX2_startedBy_47 : decode cX2_startedBy 47 = .ok (.aload_n 1, 1) := by decide +kernel
theorem dX2_startedBy_48 : decode cX2_startedBy 48 = .ok (.getfield 86, 3) := by decide +kernel
theorem dX2_startedBy_51 : decode cX2_startedBy 51 = .ok (.aload_n 1, 1) := by decide +kernel
theorem dX2_startedBy_52 : decode cX2_startedBy 52 = .ok (.getfield 89, 3) := by decide +kernel
theorem dX2_startedBy_55 : decode cX2_startedBy 55 = .ok (.invokevirtual 92, 3) := by decide +kernel
theorem dX2_startedBy_58 : decode cX2_startedBy 58 = .ok (.istore_n 2, 1) := by decide +kernel
theorem dX2_startedBy_59 : decode cX2_startedBy 59 = .ok (.iload_n 2, 1) := by decide +kernel
theorem dX2_startedBy_60 : decode cX2_startedBy 60 = .ok (.bipush (-6), 2) := by decide +kernel
theorem dX2_startedBy_62 : decode cX2_startedBy 62 = .ok (.if_icmp .ne 8, 3) := by decide +kernel
theorem dX2_startedBy_65 : decode cX2_startedBy 65 = .ok (.bipush (-22), 2) := by decide +kernel
theorem dX2_startedBy_67 : decode cX2_startedBy 67 = .ok (.goto 4, 3) := by decide +kernel
theorem dX2_startedBy_70 : decode cX2_startedBy 70 = .ok (.iload_n 2, 1) := by decide +kernel
theorem dX2_startedBy_71 : decode cX2_startedBy 71 = .ok (.ireturn, 1) := by decide +kernel
theorem dX2_startedBy_72 : decode cX2_startedBy 72 = .ok (.aload_n 0, 1) := by decide +kernel
theorem dX2_startedBy_73 : decode cX2_startedBy 73 = .ok (.getfield 11, 3) := by decide +kernel
theorem dX2_startedBy_76 : decode cX2_startedBy 76 = .ok (.aload_n 1, 1) := by decide +kernel
theorem dX2_startedBy_77 : decode cX2_startedBy 77 = .ok (.getfield 86, 3) := by decide +kernel
theorem dX2_startedBy_80 : decode cX2_startedBy 80 = .ok (.aaload, 1) := by decide +kernel
theorem dX2_startedBy_81 : decode cX2_startedBy 81 = .ok (.astore_n 3, 1) := by decide +kernel
theorem dX2_startedBy_82 : decode cX2_startedBy 82 = .ok (.aload_n 3, 1) := by decide +kernel
theorem dX2_startedBy_83 : decode cX2_startedBy 83 = .ok (.getfield 96, 3) := by decide +kernel
theorem dX2_startedBy_86 : decode cX2_startedBy 86 = .ok (.ifCond .ne 10, 3) := by decide +kernel
theorem dX2_startedBy_89 : decode cX2_startedBy 89 = .ok (.aload_n 3, 1) := by decide +kernel
theorem dX2_startedBy_90 : decode cX2_startedBy 90 = .ok (.getfield 100, 3) := by decide +kernel
theorem dX2_startedBy_93 : decode cX2_startedBy 93 = .ok (.ifCond .eq 8, 3) := by decide +kernel
theorem dX2_startedBy_96 : decode cX2_startedBy 96 = .ok (.bipush (-22), 2) := by decide +kernel
theorem dX2_startedBy_98 : decode cX2_startedBy 98 = .ok (.goto 7, 3) := by decide +kernel
theorem dX2_startedBy_101 : decode cX2_startedBy 101 = .ok (.aload_n 1, 1) := by decide +kernel
theorem dX2_startedBy_102 : decode cX2_startedBy 102 = .ok (.getfield 86, 3) := by decide +kernel
theorem dX2_startedBy_105 : decode cX2_startedBy 105 = .ok (.ireturn, 1) := by decide +kernel
theorem dX2_startedBy_106 : decode cX2_startedBy 106 = .ok (.aload_n 1, 1) := by decide +kernel
theorem dX2_startedBy_107 : decode cX2_startedBy 107 = .ok (.getfield 86, 3) := by decide +kernel
theorem dX2_startedBy_110 : decode cX2_startedBy 110 = .ok (.ireturn, 1) := by decide +kernel
theorem dX2_startedBy_111 : decode cX2_startedBy 111 = .ok (.bipush (-6), 2) := by decide +kernel
theorem dX2_startedBy_113 : decode cX2_startedBy 113 = .ok (.ireturn, 1) := by decide +kernel
theorem dX2_startedByField_0 : decode cX2_startedByField 0 = .ok (.aload_n 0, 1) := by decide +kernel
theorem dX2_startedByField_1 : decode cX2_startedByField 1 = .ok (.aload_n 1, 1) := by decide +kernel
theorem dX2_startedByField_2 : decode cX2_startedByField 2 = .ok (.getfield 86, 3) := by decide +kernel
theorem dX2_startedByField_5 : decode cX2_startedByField 5 = .ok (.aload_n 1, 1) := by decide +kernel
theorem dX2_startedByField_6 : decode cX2_startedByField 6 = .ok (.getfield 89, 3) := by decide +kernel
theorem dX2_startedByField_9 : decode cX2_startedByField 9 = .ok (.invokevirtual 103, 3) := by decide +kernel
theorem dX2_startedByField_12 : decode cX2_startedByField 12 = .ok (.istore_n 2, 1) := by decide +kernel
theorem dX2_startedByField_13 : decode cX2_startedByField 13 = .ok (.iload_n 2, 1) := by decide +kernel
theorem dX2_startedByField_14 : decode cX2_startedByField 14 = .ok (.bipush (-6), 2) := by decide +kernel
theorem dX2_startedByField_16 : decode cX2_startedByField 16 = .ok (.if_icmp .ne 6, 3) := by decide +kernel
theorem dX2_startedByField_19 : decode cX2_startedByField 19 = .ok (.bipush (-22), 2) := by decide +kernel
theorem dX2_startedByField_21 : decode cX2_startedByField 21 = .ok (.ireturn, 1) := by decide +kernel
theorem dX2_startedByField_22 : decode cX2_startedByField 22 = .ok (.aload_n 0, 1) := by decide +kernel
theorem dX2_startedByField_23 : decode cX2_startedByField 23 = .ok (.getfield 11, 3) := by decide +kernel
theorem dX2_startedByField_26 : decode cX2_startedByField 26 = .ok (.iload_n 2, 1) := by decide +kernel
theorem dX2_startedByField_27 : decode cX2_startedByField 27 = .ok (.aaload, 1) := by decide +kernel
theorem dX2_startedByField_28 : decode cX2_startedByField 28 = .ok (.getfield 62, 3) := by decide +kernel
theorem dX2_startedByField_31 : decode cX2_startedByField 31 = .ok (.aload_n 1, 1) := by decide +kernel
theorem dX2_startedByField_32 : decode cX2_startedByField 32 = .ok (.getfield 89, 3) := by decide +kernel
theorem dX2_startedByField_35 : decode cX2_startedByField 35 = .ok (.iaload, 1) := by decide +kernel
theorem dX2_startedByField_36 : decode cX2_startedByField 36 = .ok (.iconst 1, 1) := by decide +kernel
theorem dX2_startedByField_37 : decode cX2_startedByField 37 = .ok (.if_icmp .ne 5, 3) := by decide +kernel
theorem dX2_startedByField_40 : decode cX2_startedByField 40 = .ok (.iload_n 2, 1) := by decide +kernel
theorem dX2_startedByField_41 : decode cX2_startedByField 41 = .ok (.ireturn, 1) := by decide +kernel
theorem dX2_startedByField_42 : decode cX2_startedByField 42 = .ok (.aload_n 1, 1) := by decide +kernel
theorem dX2_startedByField_43 : decode cX2_startedByField 43 = .ok (.getfield 77, 3) := by decide +kernel
theorem dX2_startedByField_46 : decode cX2_startedByField 46 = .ok (.iconst 1, 1) := by decide +kernel
theorem dX2_startedByField_47 : decode cX2_startedByField 47 = .ok (.if_icmp .ne 8, 3) := by decide +kernel
theorem dX2_startedByField_50 : decode cX2_startedByField 50 = .ok (.bipush (-6), 2) := by decide +kernel
theorem dX2_startedByField_52 : decode cX2_startedByField 52 = .ok (.goto 5, 3) := by decide +kernel
theorem dX2_startedByField_55 : decode cX2_startedByField 55 = .ok (.bipush (-22), 2) := by decide +kernel
theorem dX2_startedByField_57 : decode cX2_startedByField 57 = .ok (.ireturn, 1) := by decide +kernel
theorem dX2_orderFirsts_0 : decode cX2_orderFirsts 0 = .ok (.aload_n 1, 1) := by decide +kernel
theorem dX2_orderFirsts_1 : decode cX2_orderFirsts 1 = .ok (.iconst 0, 1) := by decide +kernel
theorem dX2_orderFirsts_2 : decode cX2_orderFirsts 2 = .ok (.putfield 106, 3) := by decide +kernel
theorem dX2_orderFirsts_5 : decode cX2_orderFirsts 5 = .ok (.lconst 0, 1) := by decide +kernel
theorem dX2_orderFirsts_6 : decode cX2_orderFirsts 6 = .ok (.lstore_n 2, 1) := by decide +kernel
theorem dX2_orderFirsts_7 : decode cX2_orderFirsts 7 = .ok (.iconst 0, 1) := by decide +kernel
theorem dX2_orderFirsts_8 : decode cX2_orderFirsts 8 = .ok (.istore 4, 2) := by decide +kernel
theorem dX2_orderFirsts_10 : decode cX2_orderFirsts 10 = .ok (.iload 4, 2) := by decide +kernel
theorem dX2_orderFirsts_12 : decode cX2_orderFirsts 12 = .ok (.aload_n 1, 1) := by decide +kernel
theorem dX2_orderFirsts_13 : decode cX2_orderFirsts 13 = .ok (.getfield 52, 3) := by decide +kernel
theorem dX2_orderFirsts_16 : decode cX2_orderFirsts 16 = .ok (.if_icmp .ge 24, 3) := by decide +kernel
theorem dX2_orderFirsts_19 : decode cX2_orderFirsts 19 = .ok (.aload_n 0, 1) := by decide +kernel
theorem dX2_orderFirsts_20 : decode cX2_orderFirsts 20 = .ok (.aload_n 1, 1) := by decide +kernel
theorem dX2_orderFirsts_21 : decode cX2_orderFirsts 21 = .ok (.aload_n 1, 1) := by decide +kernel
theorem dX2_orderFirsts_22 : decode cX2_orderFirsts 22 = .ok (.getfield 49, 3) := by decide +kernel
theorem dX2_orderFirsts_25 : decode cX2_orderFirsts 25 = .ok (.iload 4, 2) := by decide +kernel
theorem dX2_orderFirsts_27 : decode cX2_orderFirsts 27 = .ok (.iaload, 1) := by decide +kernel
theorem dX2_orderFirsts_28 : decode cX2_orderFirsts 28 = .ok (.lload_n 2, 1) := by decide +kernel
theorem dX2_orderFirsts_29 : decode cX2_orderFirsts 29 = .ok (.iconst 0, 1) := by decide +kernel
theorem dX2_orderFirsts_30 : decode cX2_orderFirsts 30 = .ok (.invokevirtual 109, 3) := by decide +kernel
theorem dX2_orderFirsts_33 : decode cX2_orderFirsts 33 = .ok (.lstore_n 2, 1) := by decide +kernel
theorem dX2_orderFirsts_34 : decode cX2_orderFirsts 34 = .ok (.iinc 4 1, 3) := by decide +kernel
theorem dX2_orderFirsts_37 : decode cX2_orderFirsts 37 = .ok (.goto (-27), 3) := by decide +kernel
theorem dX2_orderFirsts_40 : decode cX2_orderFirsts 40 = .ok (.return_, 1) := by decide +kernel
theorem dX2_addFirst_0 : decode cX2_addFirst 0 = .ok (.iload 5, 2) := by decide +kernel
theorem dX2_addFirst_2 : decode cX2_addFirst 2 = .ok (.bipush 40, 2) := by decide +kernel
theorem dX2_addFirst_4 : decode cX2_addFirst 4 = .ok (.if_icmp .ge 13, 3) := by decide +kernel
theorem dX2_addFirst_7 : decode cX2_addFirst 7 = .ok (.lload_n 3, 1) := by decide +kernel
theorem dX2_addFirst_8 : decode cX2_addFirst 8 = .ok (.iload_n 2, 1) := by decide +kernel
theorem dX2_addFirst_9 : decode cX2_addFirst 9 = .ok (.lshr, 1) := by decide +kernel
theorem dX2_addFirst_10 : decode cX2_addFirst 10 = .ok (.lconst 1, 1) := by decide +kernel
theorem dX2_addFirst_11 : decode cX2_addFirst 11 = .ok (.land, 1) := by decide +kernel
theorem dX2_addFirst_12 : decode cX2_addFirst 12 = .ok (.lconst 0, 1) := by decide +kernel
theorem dX2_addFirst_13 : decode cX2_addFirst 13 = .ok (.lcmp, 1) := by decide +kernel
theorem dX2_addFirst_14 : decode cX2_addFirst 14 = .ok (.ifCond .eq 5, 3) := by decide +kernel
theorem dX2_addFirst_17 : decode cX2_addFirst 17 = .ok (.lload_n 3, 1) := by decide +kernel
theorem dX2_addFirst_18 : decode cX2_addFirst 18 = .ok (.lreturn, 1) := by decide +kernel
theorem dX2_addFirst_19 : decode cX2_addFirst 19 = .ok (.aload_n 0, 1) := by decide +kernel
theorem dX2_addFirst_20 : decode cX2_addFirst 20 = .ok (.getfield 11, 3) := by decide +kernel
theorem dX2_addFirst_23 : decode cX2_addFirst 23 = .ok (.iload_n 2, 1) := by decide +kernel
theorem dX2_addFirst_24 : decode cX2_addFirst 24 = .ok (.aaload, 1) := by decide +kernel
theorem dX2_addFirst_25 : decode cX2_addFirst 25 = .ok (.astore 6, 2) := by decide +kernel
theorem dX2_addFirst_27 : decode cX2_addFirst 27 = .ok (.lload_n 3, 1) := by decide +kernel
theorem dX2_addFirst_28 : decode cX2_addFirst 28 = .ok (.lconst 1, 1) := by decide +kernel
theorem dX2_addFirst_29 : decode cX2_addFirst 29 = .ok (.iload_n 2, 1) := by decide +kernel
theorem dX2_addFirst_30 : decode cX2_addFirst 30 = .ok (.lshl, 1) := by decide +kernel
theorem dX2_addFirst_31 : decode cX2_addFirst 31 = .ok (.lor, 1) := by decide +kernel
theorem dX2_addFirst_32 : decode cX2_addFirst 32 = .ok (.lstore 7, 2) := by decide +kernel
theorem dX2_addFirst_34 : decode cX2_addFirst 34 = .ok (.iconst 0, 1) := by decide +kernel
theorem dX2_addFirst_35 : decode cX2_addFirst 35 = .ok (.istore 9, 2) := by decide +kernel
theorem dX2_addFirst_37 : decode cX2_addFirst 37 = .ok (.iload 9, 2) := by decide +kernel
theorem dX2_addFirst_39 : decode cX2_addFirst 39 = .ok (.aload 6, 2) := by decide +kernel
theorem dX2_addFirst_41 : decode cX2_addFirst 41 = .ok (.getfield 52, 3) := by decide +kernel
theorem dX2_addFirst_44 : decode cX2_addFirst 44 = .ok (.if_icmp .ge 30, 3) := by decide +kernel
theorem dX2_addFirst_47 : decode cX2_addFirst 47 = .ok (.aload_n 0, 1) := by decide +kernel
theorem dX2_addFirst_48 : decode cX2_addFirst 48 = .ok (.aload_n 1, 1) := by decide +kernel
theorem dX2_addFirst_49 : decode cX2_addFirst 49 = .ok (.aload 6, 2) := by decide +kernel
theorem dX2_addFirst_51 : decode cX2_addFirst 51 = .ok (.getfield 49, 3) := by decide +kernel
theorem dX2_addFirst_54 : decode cX2_addFirst 54 = .ok (.iload 9, 2) := by decide +kernel
theorem dX2_addFirst_56 : decode cX2_addFirst 56 = .ok (.iaload, 1) := by decide +kernel
theorem dX2_addFirst_57 : decode cX2_addFirst 57 = .ok (.lload 7, 2) := by decide +kernel
theorem dX2_addFirst_59 : decode cX2_addFirst 59 = .ok (.iload 5, 2) := by decide +kernel
theorem dX2_addFirst_61 : decode cX2_addFirst 61 = .ok (.iconst 1, 1) := by decide +kernel
theorem dX2_addFirst_62 : decode cX2_addFirst 62 = .ok (.iadd, 1) := by decide +kernel
theorem dX2_addFirst_63 : decode cX2_addFirst 63 = .ok (.invokevirtual 109, 3) := by decide +kernel
theorem dX2_addFirst_66 : decode cX2_addFirst 66 = .ok (.lstore 7, 2) := by decide +kernel
theorem dX2_addFirst_68 : decode cX2_addFirst 68 = .ok (.iinc 9 1, 3) := by decide +kernel
theorem dX2_addFirst_71 : decode cX2_addFirst 71 = .ok (.goto (-34), 3) := by decide +kernel
theorem dX2_addFirst_74 : decode cX2_addFirst 74 = .ok (.aload 6, 2) := by decide +kernel
theorem dX2_addFirst_76 : decode cX2_addFirst 76 = .ok (.getfield 100, 3) := by decide +kernel
theorem dX2_addFirst_79 : decode cX2_addFirst 79 = .ok (.ifCond .eq 32, 3) := by decide +kernel
theorem dX2_addFirst_82 : decode cX2_addFirst 82 = .ok (.aload_n 1, 1) := by decide +kernel
theorem dX2_addFirst_83 : decode cX2_addFirst 83 = .ok (.getfield 106, 3) := by decide +kernel
theorem dX2_addFirst_86 : decode cX2_addFirst 86 = .ok (.bipush 40, 2) := by decide +kernel
theorem dX2_addFirst_88 : decode cX2_addFirst 88 = .ok (.if_icmp .ge 23, 3) := by decide +kernel
theorem dX2_addFirst_91 : decode cX2_addFirst 91 = .ok (.aload_n 1, 1) := by decide +kernel
theorem dX2_addFirst_92 : decode cX2_addFirst 92 = .ok (.getfield 113, 3) := by decide +kernel
theorem dX2_addFirst_95 : decode cX2_addFirst 95 = .ok (.aload_n 1, 1) := by decide +kernel
theorem dX2_addFirst_96 : decode cX2_addFirst 96 = .ok (.getfield 106, 3) := by decide +kernel
theorem dX2_addFirst_99 : decode cX2_addFirst 99 = .ok (.iload_n 2, 1) := by decide +kernel
theorem dX2_addFirst_100 : decode cX2_addFirst 100 = .ok (.iastore, 1) := by decide +kernel
theorem dX2_addFirst_101 : decode cX2_addFirst 101 = .ok (.aload_n 1, 1) := by decide +kernel
theorem dX2_addFirst_102 : decode cX2_addFirst 102 = .ok (.dup, 1) := by decide +kernel
theorem dX2_addFirst_103 : decode cX2_addFirst 103 = .ok (.getfield 106, 3) := by decide +kernel
theorem dX2_addFirst_106 : decode cX2_addFirst 106 = .ok (.iconst 1, 1) := by decide +kernel
theorem dX2_addFirst_107 : decode cX2_addFirst 107 = .ok (.iadd, 1) := by decide +kernel
theorem dX2_addFirst_108 : decode cX2_addFirst 108 = .ok (.putfield 106, 3) := by decide +kernel
theorem dX2_addFirst_111 : decode cX2_addFirst 111 = .ok (.lload 7, 2) := by decide +kernel
theorem dX2_addFirst_113 : decode cX2_addFirst 113 = .ok (.lreturn, 1) := by decide +kernel
theorem dX2_listAsked_0 : decode cX2_listAsked 0 = .ok (.aload_n 0, 1) := by decide +kernel
theorem dX2_listAsked_1 : decode cX2_listAsked 1 = .ok (.getfield 11, 3) := by decide +kernel
theorem dX2_listAsked_4 : decode cX2_listAsked 4 = .ok (.iload_n 1, 1) := by decide +kernel
theorem dX2_listAsked_5 : decode cX2_listAsked 5 = .ok (.aaload, 1) := by decide +kernel
theorem dX2_listAsked_6 : decode cX2_listAsked 6 = .ok (.astore_n 2, 1) := by decide +kernel
theorem dX2_listAsked_7 : decode cX2_listAsked 7 = .ok (.aload_n 0, 1) := by decide +kernel
theorem dX2_listAsked_8 : decode cX2_listAsked 8 = .ok (.iconst 0, 1) := by decide +kernel
theorem dX2_listAsked_9 : decode cX2_listAsked 9 = .ok (.putfield 116, 3) := by decide +kernel
theorem dX2_listAsked_12 : decode cX2_listAsked 12 = .ok (.aload_n 0, 1) := by decide +kernel
theorem dX2_listAsked_13 : decode cX2_listAsked 13 = .ok (.lconst 1, 1) := by decide +kernel
theorem dX2_listAsked_14 : decode cX2_listAsked 14 = .ok (.iload_n 1, 1) := by decide +kernel
theorem dX2_listAsked_15 : decode cX2_listAsked 15 = .ok (.lshl, 1) := by decide +kernel
theorem dX2_listAsked_16 : decode cX2_listAsked 16 = .ok (.putfield 119, 3) := by decide +kernel
theorem dX2_listAsked_19 : decode cX2_listAsked 19 = .ok (.aload_n 2, 1) := by decide +kernel
theorem dX2_listAsked_20 : decode cX2_listAsked 20 = .ok (.getfield 96, 3) := by decide +kernel
theorem dX2_listAsked_23 : decode cX2_listAsked 23 = .ok (.ifCond .ne 42, 3) := by decide +kernel
theorem dX2_listAsked_26 : decode cX2_listAsked 26 = .ok (.aload_n 0, 1) := by decide +kernel
theorem dX2_listAsked_27 : decode cX2_listAsked 27 = .ok (.aload_n 2, 1) := by decide +kernel
theorem dX2_listAsked_28 : decode cX2_listAsked 28 = .ok (.getfield 38, 3) := by decide +kernel
theorem dX2_listAsked_31 : decode cX2_listAsked 31 = .ok (.invokevirtual 122, 3) := by decide +kernel
theorem dX2_listAsked_34 : decode cX2_listAsked 34 = .ok (.aload_n 0, 1) := by decide +kernel
theorem dX2_listAsked_35 : decode cX2_listAsked 35 = .ok (.aload_n 2, 1) := by decide +kernel
theorem dX2_listAsked_36 : decode cX2_listAsked 36 = .ok (.invokevirtual 126, 3) := by decide +kernel
theorem dX2_listAsked_39 : decode cX2_listAsked 39 = .ok (.iconst 0, 1) := by decide +kernel
theorem dX2_listAsked_40 : decode cX2_listAsked 40 = .ok (.istore_n 3, 1) := by decide +kernel
theorem dX2_listAsked_41 : decode cX2_listAsked 41 = .ok (.iload_n 3, 1) := by decide +kernel
theorem dX2_listAsked_42 : decode cX2_listAsked 42 = .ok (.aload_n 2, 1) := by decide +kernel
theorem dX2_listAsked_43 : decode cX2_listAsked 43 = .ok (.getfield 106, 3) := by decide +kernel
theorem dX2_listAsked_46 : decode cX2_listAsked 46 = .ok (.if_icmp .ge 19, 3) := by decide +kernel
theorem dX2_listAsked_49 : decode cX2_listAsked 49 = .ok (.aload_n 0, 1) := by decide +kernel
theorem dX2_listAsked_50 : decode cX2_listAsked 50 = .ok (.aload_n 2, 1) := by decide +kernel
theorem dX2_listAsked_51 : decode cX2_listAsked 51 = .ok (.getfield 113, 3) := by decide +kernel
theorem dX2_listAsked_54 : decode cX2_listAsked 54 = .ok (.iload_n 3, 1) := by decide +kernel
theorem dX2_listAsked_55 : decode cX2_listAsked 55 = .ok (.iaload, 1) := by decide +kernel
theorem dX2_listAsked_56 : decode cX2_listAsked 56 = .ok (.invokevirtual 122, 3) := by decide +kernel
theorem dX2_listAsked_59 : decode cX2_listAsked 59 = .ok (.iinc 3 1, 3) := by decide +kernel
theorem dX2_listAsked_62 : decode cX2_listAsked 62 = .ok (.goto (-21), 3) := by decide +kernel
theorem dX2_listAsked_65 : decode cX2_listAsked 65 = .ok (.iconst 0, 1) := by decide +kernel
theorem dX2_listAsked_66 : decode cX2_listAsked 66 = .ok (.istore_n 3, 1) := by decide +kernel
theorem dX2_listAsked_67 : decode cX2_listAsked 67 = .ok (.iload_n 3, 1) := by decide +kernel
theorem dX2_listAsked_68 : decode cX2_listAsked 68 = .ok (.aload_n 2, 1) := by decide +kernel
theorem dX2_listAsked_69 : decode cX2_listAsked 69 = .ok (.getfield 130, 3) := by decide +kernel
theorem dX2_listAsked_72 : decode cX2_listAsked 72 = .ok (.getfield 134, 3) := by decide +kernel
theorem dX2_listAsked_75 : decode cX2_listAsked 75 = .ok (.if_icmp .ge 26, 3) := by decide +kernel
theorem dX2_listAsked_78 : decode cX2_listAsked 78 = .ok (.aload_n 0, 1) := by decide +kernel
theorem dX2_listAsked_79 : decode cX2_listAsked 79 = .ok (.aload_n 0, 1) := by decide +kernel
theorem dX2_listAsked_80 : decode cX2_listAsked 80 = .ok (.aload_n 2, 1) := by decide +kernel
theorem dX2_listAsked_81 : decode cX2_listAsked 81 = .ok (.getfield 130, 3) := by decide +kernel
theorem dX2_listAsked_84 : decode cX2_listAsked 84 = .ok (.getfield 139, 3) := by decide +kernel
theorem dX2_listAsked_87 : decode cX2_listAsked 87 = .ok (.iload_n 3, 1) := by decide +kernel
theorem dX2_listAsked_88 : decode cX2_listAsked 88 = .ok (.aaload, 1) := by decide +kernel
theorem dX2_listAsked_89 : decode cX2_listAsked 89 = .ok (.invokevirtual 143, 3) := by decide +kernel
theorem dX2_listAsked_92 : decode cX2_listAsked 92 = .ok (.invokevirtual 122, 3) := by decide +kernel
theorem dX2_listAsked_95 : decode cX2_listAsked 95 = .ok (.iinc 3 1, 3) := by decide +kernel
theorem dX2_listAsked_98 : decode cX2_listAsked 98 = .ok (.goto (-31), 3) := by decide +kernel
theorem dX2_listAsked_101 : decode cX2_listAsked 101 = .ok (.return_, 1) := by decide +kernel
theorem dX2_addAsked_0 : decode cX2_addAsked 0 = .ok (.iload_n 1, 1) := by decide +kernel
theorem dX2_addAsked_1 : decode cX2_addAsked 1 = .ok (.ifCond .lt 57, 3) := by decide +kernel
theorem dX2_addAsked_4 : decode cX2_addAsked 4 = .ok (.aload_n 0, 1) := by decide +kernel
theorem dX2_addAsked_5 : decode cX2_addAsked 5 = .ok (.getfield 116, 3) := by decide +kernel
theorem dX2_addAsked_8 : decode cX2_addAsked 8 = .ok (.bipush 40, 2) := by decide +kernel
theorem dX2_addAsked_10 : decode cX2_addAsked 10 = .ok (.if_icmp .ge 48, 3) := by decide +kernel
theorem dX2_addAsked_13 : decode cX2_addAsked 13 = .ok (.aload_n 0, 1) := by decide +kernel
theorem dX2_addAsked_14 : decode cX2_addAsked 14 = .ok (.getfield 119, 3) := by decide +kernel
theorem dX2_addAsked_17 : decode cX2_addAsked 17 = .ok (.iload_n 1, 1) := by decide +kernel
theorem dX2_addAsked_18 : decode cX2_addAsked 18 = .ok (.lshr, 1) := by decide +kernel
theorem dX2_addAsked_19 : decode cX2_addAsked 19 = .ok (.lconst 1, 1) := by decide +kernel
theorem dX2_addAsked_20 : decode cX2_addAsked 20 = .ok (.land, 1) := by decide +kernel
theorem dX2_addAsked_21 : decode cX2_addAsked 21 = .ok (.lconst 0, 1) := by decide +kernel
theorem dX2_addAsked_22 : decode cX2_addAsked 22 = .ok (.lcmp, 1) := by decide +kernel
theorem dX2_addAsked_23 : decode cX2_addAsked 23 = .ok (.ifCond .ne 35, 3) := by decide +kernel
theorem dX2_addAsked_26 : decode cX2_addAsked 26 = .ok (.aload_n 0, 1) := by decide +kernel
theorem dX2_addAsked_27 : decode cX2_addAsked 27 = .ok (.getfield 21, 3) := by decide +kernel
theorem dX2_addAsked_30 : decode cX2_addAsked 30 = .ok (.aload_n 0, 1) := by decide +kernel
theorem dX2_addAsked_31 : decode cX2_addAsked 31 = .ok (.getfield 116, 3) := by decide +kernel
theorem dX2_addAsked_34 : decode cX2_addAsked 34 = .ok (.iload_n 1, 1) := by decide +kernel
theorem dX2_addAsked_35 : decode cX2_addAsked 35 = .ok (.iastore, 1) := by decide +kernel
theorem dX2_addAsked_36 : decode cX2_addAsked 36 = .ok (.aload_n 0, 1) := by decide +kernel
theorem dX2_addAsked_37 : decode cX2_addAsked 37 = .ok (.dup, 1) := by decide +kernel
theorem dX2_addAsked_38 : decode cX2_addAsked 38 = .ok (.getfield 116, 3) := by decide +kernel
theorem dX2_addAsked_41 : decode cX2_addAsked 41 = .ok (.iconst 1, 1) := by decide +kernel
theorem dX2_addAsked_42 : decode cX2_addAsked 42 = .ok (.iadd, 1) := by decide +kernel
theorem dX2_addAsked_43 : decode cX2_addAsked 43 = .ok (.putfield 116, 3) := by decide +kernel
theorem dX2_addAsked_46 : decode cX2_addAsked 46 = .ok (.aload_n 0, 1) := by decide +kernel
theorem dX2_addAsked_47 : decode cX2_addAsked 47 = .ok (.dup, 1) := by decide +kernel
theorem dX2_addAsked_48 : decode cX2_addAsked 48 = .ok (.getfield 119, 3) := by decide +kernel
theorem dX2_addAsked_51 : decode cX2_addAsked 51 = .ok (.lconst 1, 1) := by decide +kernel
theorem dX2_addAsked_52 : decode cX2_addAsked 52 = .ok (.iload_n 1, 1) := by decide +kernel
theorem dX2_addAsked_53 : decode cX2_addAsked 53 = .ok (.lshl, 1) := by decide +kernel
theorem dX2_addAsked_54 : decode cX2_addAsked 54 = .ok (.lor, 1) := by decide +kernel
theorem dX2_addAsked_55 : decode cX2_addAsked 55 = .ok (.putfield 119, 3) := by decide +kernel
theorem dX2_addAsked_58 : decode cX2_addAsked 58 = .ok (.return_, 1) := by decide +kernel
theorem dX2_inRound_0 : decode cX2_inRound 0 = .ok (.iconst 0, 1) := by decide +kernel
theorem dX2_inRound_1 : decode cX2_inRound 1 = .ok (.istore_n 2, 1) := by decide +kernel
theorem dX2_inRound_2 : decode cX2_inRound 2 = .ok (.iload_n 2, 1) := by decide +kernel
theorem dX2_inRound_3 : decode cX2_inRound 3 = .ok (.aload_n 0, 1) := by decide +kernel
theorem dX2_inRound_4 : decode cX2_inRound 4 = .ok (.getfield 34, 3) := by decide +kernel
theorem dX2_inRound_7 : decode cX2_inRound 7 = .ok (.if_icmp .ge 32, 3) := by decide +kernel
theorem dX2_inRound_10 : decode cX2_inRound 10 = .ok (.aload_n 0, 1) := by decide +kernel
theorem dX2_inRound_11 : decode cX2_inRound 11 = .ok (.iload_n 2, 1) := by decide +kernel
theorem dX2_inRound_12 : decode cX2_inRound 12 = .ok (.invokevirtual 146, 3) := by decide +kernel
theorem dX2_inRound_15 : decode cX2_inRound 15 = .ok (.aload_n 0, 1) := by decide +kernel
theorem dX2_inRound_16 : decode cX2_inRound 16 = .ok (.getfield 24, 3) := by decide +kernel
theorem dX2_inRound_19 : decode cX2_inRound 19 = .ok (.iload_n 2, 1) := by decide +kernel
theorem dX2_inRound_20 : decode cX2_inRound 20 = .ok (.aload_n 0, 1) := by decide +kernel
theorem dX2_inRound_21 : decode cX2_inRound 21 = .ok (.getfield 119, 3) := by decide +kernel
theorem dX2_inRound_24 : decode cX2_inRound 24 = .ok (.lconst 1, 1) := by decide +kernel
theorem dX2_inRound_25 : decode cX2_inRound 25 = .ok (.iload_n 2, 1) := by decide +kernel
theorem dX2_inRound_26 : decode cX2_inRound 26 = .ok (.lshl, 1) := by decide +kernel
theorem dX2_inRound_27 : decode cX2_inRound 27 = .ok (.ldc2_w 149, 3) := by decide +kernel
theorem dX2_inRound_30 : decode cX2_inRound 30 = .ok (.lxor, 1) := by decide +kernel
theorem dX2_inRound_31 : decode cX2_inRound 31 = .ok (.land, 1) := by decide +kernel
theorem dX2_inRound_32 : decode cX2_inRound 32 = .ok (.lastore, 1) := by decide +kernel
theorem dX2_inRound_33 : decode cX2_inRound 33 = .ok (.iinc 2 1, 3) := by decide +kernel
theorem dX2_inRound_36 : decode cX2_inRound 36 = .ok (.goto (-34), 3) := by decide +kernel
theorem dX2_inRound_39 : decode cX2_inRound 39 = .ok (.iconst 0, 1) := by decide +kernel
theorem dX2_inRound_40 : decode cX2_inRound 40 = .ok (.istore_n 2, 1) := by decide +kernel
theorem dX2_inRound_41 : decode cX2_inRound 41 = .ok (.iload_n 2, 1) := by decide +kernel
theorem dX2_inRound_42 : decode cX2_inRound 42 = .ok (.aload_n 0, 1) := by decide +kernel
theorem dX2_inRound_43 : decode cX2_inRound 43 = .ok (.getfield 34, 3) := by decide +kernel
theorem dX2_inRound_46 : decode cX2_inRound 46 = .ok (.if_icmp .ge 55, 3) := by decide +kernel
theorem dX2_inRound_49 : decode cX2_inRound 49 = .ok (.iconst 0, 1) := by decide +kernel
theorem dX2_inRound_50 : decode cX2_inRound 50 = .ok (.istore_n 3, 1) := by decide +kernel
theorem dX2_inRound_51 : decode cX2_inRound 51 = .ok (.iload_n 3, 1) := by decide +kernel
theorem dX2_inRound_52 : decode cX2_inRound 52 = .ok (.aload_n 0, 1) := by decide +kernel
theorem dX2_inRound_53 : decode cX2_inRound 53 = .ok (.getfield 34, 3) := by decide +kernel
theorem dX2_inRound_56 : decode cX2_inRound 56 = .ok (.if_icmp .ge 39, 3) := by decide +kernel
theorem dX2_inRound_59 : decode cX2_inRound 59 = .ok (.aload_n 0, 1) := by decide +kernel
theorem dX2_inRound_60 : decode cX2_inRound 60 = .ok (.getfield 24, 3) := by decide +kernel
theorem dX2_inRound_63 : decode cX2_inRound 63 = .ok (.iload_n 3, 1) := by decide +kernel
theorem dX2_inRound_64 : decode cX2_inRound 64 = .ok (.laload, 1) := by decide +kernel
theorem dX2_inRound_65 : decode cX2_inRound 65 = .ok (.iload_n 2, 1) := by decide +kernel
theorem dX2_inRound_66 : decode cX2_inRound 66 = .ok (.lshr, 1) := by decide +kernel
theorem dX2_inRound_67 : decode cX2_inRound 67 = .ok (.lconst 1, 1) := by decide +kernel
theorem dX2_inRound_68 : decode cX2_inRound 68 = .ok (.land, 1) := by decide +kernel
theorem dX2_inRound_69 : decode cX2_inRound 69 = .ok (.lconst 0, 1) := by decide +kernel
theorem dX2_inRound_70 : decode cX2_inRound 70 = .ok (.lcmp, 1) := by decide +kernel
theorem dX2_inRound_71 : decode cX2_inRound 71 = .ok (.ifCond .eq 18, 3) := by decide +kernel
theorem dX2_inRound_74 : decode cX2_inRound 74 = .ok (.aload_n 0, 1) := by decide +kernel
theorem dX2_inRound_75 : decode cX2_inRound 75 = .ok (.getfield 24, 3) := by decide +kernel
theorem dX2_inRound_78 : decode cX2_inRound 78 = .ok (.iload_n 3, 1) := by decide +kernel
theorem dX2_inRound_79 : decode cX2_inRound 79 = .ok (.dup2, 1) := by decide +kernel
theorem dX2_inRound_80 : decode cX2_inRound 80 = .ok (.laload, 1) := by decide +kernel
theorem dX2_inRound_81 : decode cX2_inRound 81 = .ok (.aload_n 0, 1) := by decide +kernel
theorem dX2_inRound_82 : decode cX2_inRound 82 = .ok (.getfield 24, 3) := by decide +kernel
theorem dX2_inRound_85 : decode cX2_inRound 85 = .ok (.iload_n 2, 1) := by decide +kernel
theorem dX2_inRound_86 : decode cX2_inRound 86 = .ok (.laload, 1) := by decide +kernel
theorem dX2_inRound_87 : decode cX2_inRound 87 = .ok (.lor, 1) := by decide +kernel
theorem dX2_inRound_88 : decode cX2_inRound 88 = .ok (.lastore, 1) := by decide +kernel
theorem dX2_inRound_89 : decode cX2_inRound 89 = .ok (.iinc 3 1, 3) := by decide +kernel
theorem dX2_inRound_92 : decode cX2_inRound 92 = .ok (.goto (-41), 3) := by decide +kernel
theorem dX2_inRound_95 : decode cX2_inRound 95 = .ok (.iinc 2 1, 3) := by decide +kernel
theorem dX2_inRound_98 : decode cX2_inRound 98 = .ok (.goto (-57), 3) := by decide +kernel
theorem dX2_inRound_101 : decode cX2_inRound 101 = .ok (.iconst 0, 1) := by decide +kernel
theorem dX2_inRound_102 : decode cX2_inRound 102 = .ok (.istore_n 2, 1) := by decide +kernel
theorem dX2_inRound_103 : decode cX2_inRound 103 = .ok (.iconst 0, 1) := by decide +kernel
theorem dX2_inRound_104 : decode cX2_inRound 104 = .ok (.istore_n 3, 1) := by decide +kernel
theorem dX2_inRound_105 : decode cX2_inRound 105 = .ok (.iload_n 3, 1) := by decide +kernel
theorem dX2_inRound_106 : decode cX2_inRound 106 = .ok (.aload_n 0, 1) := by decide +kernel
theorem dX2_inRound_107 : decode cX2_inRound 107 = .ok (.getfield 34, 3) := by decide +kernel
theorem dX2_inRound_110 : decode cX2_inRound 110 = .ok (.if_icmp .ge 34, 3) := by decide +kernel
theorem dX2_inRound_113 : decode cX2_inRound 113 = .ok (.aload_n 0, 1) := by decide +kernel
theorem dX2_inRound_114 : decode cX2_inRound 114 = .ok (.getfield 24, 3) := by decide +kernel
theorem dX2_inRound_117 : decode cX2_inRound 117 = .ok (.iload_n 3, 1) := by decide +kernel
theorem dX2_inRound_118 : decode cX2_inRound 118 = .ok (.laload, 1) := by decide +kernel
theorem dX2_inRound_119 : decode cX2_inRound 119 = .ok (.iload_n 3, 1) := by decide +kernel
theorem dX2_inRound_120 : decode cX2_inRound 120 = .ok (.lshr, 1) := by decide +kernel
theorem dX2_inRound_121 : decode cX2_inRound 121 = .ok (.lconst 1, 1) := by decide +kernel
theorem dX2_inRound_122 : decode cX2_inRound 122 = .ok (.land, 1) := by decide +kernel
theorem dX2_inRound_123 : decode cX2_inRound 123 = .ok (.lconst 0, 1) := by decide +kernel
theorem dX2_inRound_124 : decode cX2_inRound 124 = .ok (.lcmp, 1) := by decide +kernel
theorem dX2_inRound_125 : decode cX2_inRound 125 = .ok (.ifCond .eq 13, 3) := by decide +kernel
theorem dX2_inRound_128 : decode cX2_inRound 128 = .ok (.iload_n 2, 1) := by decide +kernel
theorem dX2_inRound_129 : decode cX2_inRound 129 = .ok (.iload_n 1, 1) := by decide +kernel
theorem dX2_inRound_130 : decode cX2_inRound 130 = .ok (.if_icmp .ne 5, 3) := by decide +kernel
theorem dX2_inRound_133 : decode cX2_inRound 133 = .ok (.iload_n 3, 1) := by decide +kernel
theorem dX2_inRound_134 : decode cX2_inRound 134 = .ok (.ireturn, 1) := by decide +kernel
theorem dX2_inRound_135 : decode cX2_inRound 135 = .ok (.iinc 2 1, 3) := by decide +kernel
theorem dX2_inRound_138 : decode cX2_inRound 138 = .ok (.iinc 3 1, 3) := by decide +kernel
theorem dX2_inRound_141 : decode cX2_inRound 141 = .ok (.goto (-36), 3) := by decide +kernel
theorem dX2_inRound_144 : decode cX2_inRound 144 = .ok (.bipush (-6), 2) := by decide +kernel
theorem dX2_inRound_146 : decode cX2_inRound 146 = .ok (.ireturn, 1) := by decide +kernel
theorem dX3_init_0 : decode cX3_init 0 = .ok (.aload_n 0, 1) := by decide +kernel
theorem dX3_init_1 : decode cX3_init 1 = .ok (.invokespecial 3, 3) := by decide +kernel
theorem dX3_init_4 : decode cX3_init 4 = .ok (.aload_n 0, 1) := by decide +kernel
theorem dX3_init_5 : decode cX3_init 5 = .ok (.bipush (-6), 2) := by decide +kernel
theorem dX3_init_7 : decode cX3_init 7 = .ok (.putfield 9, 3) := by decide +kernel
theorem dX3_init_10 : decode cX3_init 10 = .ok (.aload_n 0, 1) := by decide +kernel
theorem dX3_init_11 : decode cX3_init 11 = .ok (.aload_n 1, 1) := by decide +kernel
theorem dX3_init_12 : decode cX3_init 12 = .ok (.putfield 15, 3) := by decide +kernel
theorem dX3_init_15 : decode cX3_init 15 = .ok (.aload_n 0, 1) := by decide +kernel
theorem dX3_init_16 : decode cX3_init 16 = .ok (.aload_n 2, 1) := by decide +kernel
theorem dX3_init_17 : decode cX3_init 17 = .ok (.putfield 19, 3) := by decide +kernel
theorem dX3_init_20 : decode cX3_init 20 = .ok (.return_, 1) := by decide +kernel
theorem dX3_doTouch_0 : decode cX3_doTouch 0 = .ok (.aload_n 0, 1) := by decide +kernel
theorem dX3_doTouch_1 : decode cX3_doTouch 1 = .ok (.iconst 1, 1) := by decide +kernel
theorem dX3_doTouch_2 : decode cX3_doTouch 2 = .ok (.putfield 23, 3) := by decide +kernel
theorem dX3_doTouch_5 : decode cX3_doTouch 5 = .ok (.aload_n 0, 1) := by decide +kernel
theorem dX3_doTouch_6 : decode cX3_doTouch 6 = .ok (.aload_n 1, 1) := by decide +kernel
theorem dX3_doTouch_7 : decode cX3_doTouch 7 = .ok (.iconst 0, 1) := by decide +kernel
theorem dX3_doTouch_8 : decode cX3_doTouch 8 = .ok (.iconst 0, 1) := by decide +kernel
theorem dX3_doTouch_9 : decode cX3_doTouch 9 = .ok (.invokevirtual 26, 3) := by decide +kernel
theorem dX3_doTouch_12 : decode cX3_doTouch 12 = .ok (.ireturn, 1) := by decide +kernel
theorem dX3_perform_0 : decode cX3_perform 0 = .ok (.aload_n 1, 1) := by decide +kernel
theorem dX3_perform_1 : decode cX3_perform 1 = .ok (.getfield 30, 3) := by decide +kernel
theorem dX3_perform_4 : decode cX3_perform 4 = .ok (.bipush 7, 2) := by decide +kernel
theorem dX3_perform_6 : decode cX3_perform 6 = .ok (.if_icmp .ne 14, 3) := by decide +kernel
theorem dX3_perform_9 : decode cX3_perform 9 = .ok (.aload_n 0, 1) := by decide +kernel
theorem dX3_perform_10 : decode cX3_perform 10 = .ok (.aload_n 1, 1) := by decide +kernel
theorem dX3_perform_11 : decode cX3_perform 11 = .ok (.getfield 35, 3) := by decide +kernel
theorem dX3_perform_14 : decode cX3_perform 14 = .ok (.bipush (-6), 2) := by decide +kernel
theorem dX3_perform_16 : decode cX3_perform 16 = .ok (.invokevirtual 38, 3) := by decide +kernel
theorem dX3_perform_19 : decode cX3_perform 19 = .ok (.ireturn, 1) := by decide +kernel
theorem dX3_perform_20 : decode cX3_perform 20 = .ok (.aload_n 0, 1) := by decide +kernel
theorem dX3_perform_21 : decode cX3_perform 21 = .ok (.getfield 15, 3) := by decide +kernel
theorem dX3_perform_24 : decode cX3_perform 24 = .ok (.aload_n 1, 1) := by decide +kernel
theorem dX3_perform_25 : decode cX3_perform 25 = .ok (.invokevirtual 42, 3) := by decide +kernel
theorem dX3_perform_28 : decode cX3_perform 28 = .ok (.istore 4, 2) := by decide +kernel
theorem dX3_perform_30 : decode cX3_perform 30 = .ok (.iload 4, 2) := by decide +kernel
theorem dX3_perform_32 : decode cX3_perform 32 = .ok (.bipush (-22), 2) := by decide +kernel
theorem dX3_perform_34 : decode cX3_perform 34 = .ok (.if_icmp .ne 12, 3) := by decide +kernel
theorem dX3_perform_37 : decode cX3_perform 37 = .ok (.aload_n 0, 1) := by decide +kernel
theorem dX3_perform_38 : decode cX3_perform 38 = .ok (.bipush 22, 2) := by decide +kernel
theorem dX3_perform_40 : decode cX3_perform 40 = .ok (.bipush (-6), 2) := by decide +kernel
theorem dX3_perform_42 : decode cX3_perform 42 = .ok (.invokevirtual 38, 3) := by decide +kernel
theorem dX3_perform_45 : decode cX3_perform 45 = .ok (.ireturn, 1) := by decide +kernel
theorem dX3_perform_46 : decode cX3_perform 46 = .ok (.iload 4, 2) := by decide +kernel
theorem dX3_perform_48 : decode cX3_perform 48 = .ok (.ifCond .lt 14, 3) := by decide +kernel
theorem dX3_perform_51 : decode cX3_perform 51 = .ok (.aload_n 0, 1) := by decide +kernel
theorem dX3_perform_52 : decode cX3_perform 52 = .ok (.iload 4, 2) := by decide +kernel
theorem dX3_perform_54 : decode cX3_perform 54 = .ok (.iload_n 2, 1) := by decide +kernel
theorem dX3_perform_55 : decode cX3_perform 55 = .ok (.iload_n 3, 1) := by decide +kernel
theorem dX3_perform_56 : decode cX3_perform 56 = .ok (.invokevirtual 48, 3) := by decide +kernel
theorem dX3_perform_59 : decode cX3_perform 59 = .ok (.goto 5, 3) := by decide +kernel
theorem dX3_perform_62 : decode cX3_perform 62 = .ok (.bipush (-6), 2) := by decide +kernel
theorem dX3_perform_64 : decode cX3_perform 64 = .ok (.istore 5, 2) := by decide +kernel
theorem dX3_perform_66 : decode cX3_perform 66 = .ok (.iload 5, 2) := by decide +kernel
theorem dX3_perform_68 : decode cX3_perform 68 = .ok (.bipush (-6), 2) := by decide +kernel
theorem dX3_perform_70 : decode cX3_perform 70 = .ok (.if_icmp .eq 6, 3) := by decide +kernel
theorem dX3_perform_73 : decode cX3_perform 73 = .ok (.iload 5, 2) := by decide +kernel
theorem dX3_perform_75 : decode cX3_perform 75 = .ok (.ireturn, 1) := by decide +kernel
theorem dX3_perform_76 : decode cX3_perform 76 = .ok (.aload_n 1, 1) := by decide +kernel
theorem dX3_perform_77 : decode cX3_perform 77 = .ok (.getfield 30, 3) := by decide +kernel
theorem dX3_perform_80 : decode cX3_perform 80 = .ok (.iconst 3, 1) := by decide +kernel
theorem dX3_perform_81 : decode cX3_perform 81 = .ok (.if_icmp .ne 32, 3) := by decide +kernel
theorem dX3_perform_84 : decode cX3_perform 84 = .ok (.iload 4, 2) := by decide +kernel
theorem dX3_perform_86 : decode cX3_perform 86 = .ok (.ifCond .lt 27, 3) := by decide +kernel
theorem dX3_perform_89 : decode cX3_perform 89 = .ok (.aload_n 0, 1) := by decide +kernel
theorem dX3_perform_90 : decode cX3_perform 90 = .ok (.aload_n 0, 1) := by decide +kernel
theorem dX3_perform_91 : decode cX3_perform 91 = .ok (.getfield 15, 3) := by decide +kernel
theorem dX3_perform_94 : decode cX3_perform 94 = .ok (.getfield 52, 3) := by decide +kernel
theorem dX3_perform_97 : decode cX3_perform 97 = .ok (.iload 4, 2) := by decide +kernel
theorem dX3_perform_99 : decode cX3_perform 99 = .ok (.aaload, 1) := by decide +kernel
theorem dX3_perform_100 : decode cX3_perform 100 = .ok (.aload_n 1, 1) := by decide +kernel
theorem dX3_perform_101 : decode cX3_perform 101 = .ok (.getfield 56, 3) := by decide +kernel
theorem dX3_perform_104 : decode cX3_perform 104 = .ok (.invokevirtual 59, 3) := by decide +kernel
theorem dX3_perform_107 : decode cX3_perform 107 = .ok (.iload_n 2, 1) := by decide +kernel
theorem dX3_perform_108 : decode cX3_perform 108 = .ok (.iload_n 3, 1) := by decide +kernel
theorem dX3_perform_109 : decode cX3_perform 109 = .ok (.invokevirtual 65, 3) := by decide +kernel
theorem dX3_perform_112 : decode cX3_perform 112 = .ok (.ireturn, 1) := by decide +kernel
theorem dX3_perform_113 : decode cX3_perform 113 = .ok (.aload_n 0, 1) := by decide +kernel
theorem dX3_perform_114 : decode cX3_perform 114 = .ok (.aload_n 1, 1) := by decide +kernel
theorem dX3_perform_115 : decode cX3_perform 115 = .ok (.invokevirtual 69, 3) := by decide +kernel
theorem dX3_perform_118 : decode cX3_perform 118 = .ok (.bipush (-6), 2) := by decide +kernel
theorem dX3_perform_120 : decode cX3_perform 120 = .ok (.ireturn, 1) := by decide +kernel
theorem dX3_putThrough_0 : decode cX3_putThrough 0 = .ok (.aload_n 1, 1) := by decide +kernel
theorem dX3_putThrough_1 : decode cX3_putThrough 1 = .ok (.getfield 30, 3) := by decide +kernel
theorem dX3_putThrough_4 : decode cX3_putThrough 4 = .ok (.ifCond .ne 17, 3) := by decide +kernel
theorem dX3_putThrough_7 : decode cX3_putThrough 7 = .ok (.aload_n 0, 1) := by decide +kernel
theorem dX3_putThrough_8 : decode cX3_putThrough 8 = .ok (.getfield 19, 3) := by decide +kernel
theorem dX3_putThrough_11 : decode cX3_putThrough 11 = .ok (.aload_n 1, 1) := by decide +kernel
theorem dX3_putThrough_12 : decode cX3_putThrough 12 = .ok (.getfield 35, 3) := by decide +kernel
theorem dX3_putThrough_15 : decode cX3_putThrough 15 = .ok (.invokevirtual 73, 3) := by decide +kernel
theorem dX3_putThrough_18 : decode cX3_putThrough 18 = .ok (.goto 102, 3) := by decide +kernel
theorem dX3_putThrough_21 : decode cX3_putThrough 21 = .ok (.aload_n 1, 1) := by decide +kernel
theorem dX3_putThrough_22 : decode cX3_putThrough 22 = .ok (.getfield 30, 3) := by decide +kernel
theorem dX3_putThrough_25 : decode cX3_putThrough 25 = .ok (.iconst 1, 1) := by decide +kernel
theorem dX3_putThrough_26 : decode cX3_putThrough 26 = .ok (.if_icmp .eq 11, 3) := by decide +kernel
theorem dX3_putThrough_29 : decode cX3_putThrough 29 = .ok (.aload_n 1, 1) := by decide +kernel
theorem dX3_putThrough_30 : decode cX3_putThrough 30 = .ok (.getfield 30, 3) := by decide +kernel
theorem dX3_putThrough_33 : decode cX3_putThrough 33 = .ok (.iconst 2, 1) := by decide +kernel
theorem dX3_putThrough_34 : decode cX3_putThrough 34 = .ok (.if_icmp .ne 86, 3) := by decide +kernel
theorem dX3_putThrough_37 : decode cX3_putThrough 37 = .ok (.aload_n 0, 1) := by decide +kernel
theorem dX3_putThrough_38 : decode cX3_putThrough 38 = .ok (.getfield 15, 3) := by decide +kernel
theorem dX3_putThrough_41 : decode cX3_putThrough 41 = .ok (.aload_n 1, 1) := by decide +kernel
theorem dX3_putThrough_42 : decode cX3_putThrough 42 = .ok (.getfield 79, 3) := by decide +kernel
theorem dX3_putThrough_45 : decode cX3_putThrough 45 = .ok (.aload_n 1, 1) := by decide +kernel
theorem dX3_putThrough_46 : decode cX3_putThrough 46 = .ok (.getfield 56, 3) := by decide +kernel
theorem dX3_putThrough_49 : decode cX3_putThrough 49 = .ok (.invokevirtual 82, 3) := by decide +kernel
theorem dX3_putThrough_52 : decode cX3_putThrough 52 = .ok (.istore_n 2, 1) := by decide +kernel
theorem dX3_putThrough_53 : decode cX3_putThrough 53 = .ok (.iload_n 2, 1) := by decide +kernel
theorem dX3_putThrough_54 : decode cX3_putThrough 54 = .ok (.bipush (-6), 2) := by decide +kernel
theorem dX3_putThrough_56 : decode cX3_putThrough 56 = .ok (.if_icmp .eq 37, 3) := by decide +kernel
theorem dX3_putThrough_59 : decode cX3_putThrough 59 = .ok (.aload_n 1, 1) := by decide +kernel
theorem dX3_putThrough_60 : decode cX3_putThrough 60 = .ok (.getfield 30, 3) := by decide +kernel
theorem dX3_putThrough_63 : decode cX3_putThrough 63 = .ok (.iconst 1, 1) := by decide +kernel
theorem dX3_putThrough_64 : decode cX3_putThrough 64 = .ok (.if_icmp .ne 29, 3) := by decide +kernel
theorem dX3_putThrough_67 : decode cX3_putThrough 67 = .ok (.aload_n 0, 1) := by decide +kernel
theorem dX3_putThrough_68 : decode cX3_putThrough 68 = .ok (.getfield 19, 3) := by decide +kernel
theorem dX3_putThrough_71 : decode cX3_putThrough 71 = .ok (.aload_n 0, 1) := by decide +kernel
theorem dX3_putThrough_72 : decode cX3_putThrough 72 = .ok (.getfield 15, 3) := by decide +kernel
theorem dX3_putThrough_75 : decode cX3_putThrough 75 = .ok (.aload_n 0, 1) := by decide +kernel
theorem dX3_putThrough_76 : decode cX3_putThrough 76 = .ok (.getfield 19, 3) := by decide +kernel
theorem dX3_putThrough_79 : decode cX3_putThrough 79 = .ok (.iload_n 2, 1) := by decide +kernel
theorem dX3_putThrough_80 : decode cX3_putThrough 80 = .ok (.aload_n 1, 1) := by decide +kernel
theorem dX3_putThrough_81 : decode cX3_putThrough 81 = .ok (.getfield 56, 3) := by decide +kernel
theorem dX3_putThrough_84 : decode cX3_putThrough 84 = .ok (.invokevirtual 85, 3) := by decide +kernel
theorem dX3_putThrough_87 : decode cX3_putThrough 87 = .ok (.invokevirtual 73, 3) := by decide +kernel
theorem dX3_putThrough_90 : decode cX3_putThrough 90 = .ok (.goto 30, 3) := by decide +kernel
theorem dX3_putThrough_93 : decode cX3_putThrough 93 = .ok (.iload_n 2, 1) := by decide +kernel
theorem dX3_putThrough_94 : decode cX3_putThrough 94 = .ok (.bipush (-6), 2) := by decide +kernel
theorem dX3_putThrough_96 : decode cX3_putThrough 96 = .ok (.if_icmp .eq 24, 3) := by decide +kernel
theorem dX3_putThrough_99 : decode cX3_putThrough 99 = .ok (.aload_n 0, 1) := by decide +kernel
theorem dX3_putThrough_100 : decode cX3_putThrough 100 = .ok (.getfield 19, 3) := by decide +kernel
theorem dX3_putThrough_103 : decode cX3_putThrough 103 = .ok (.getfield 89, 3) := by decide +kernel
theorem dX3_putThrough_106 : decode cX3_putThrough 106 = .ok (.iload_n 2, 1) := by decide +kernel
theorem dX3_putThrough_107 : decode cX3_putThrough 107 = .ok (.bipush 10, 2) := by decide +kernel
theorem dX3_putThrough_109 : decode cX3_putThrough 109 = .ok (.imul, 1) := by decide +kernel
theorem dX3_putThrough_110 : decode cX3_putThrough 110 = .ok (.aload_n 1, 1) := by decide +kernel
theorem dX3_putThrough_111 : decode cX3_putThrough 111 = .ok (.getfield 56, 3) := by decide +kernel
theorem dX3_putThrough_114 : decode cX3_putThrough 114 = .ok (.iadd, 1) := by decide +kernel
theorem dX3_putThrough_115 : decode cX3_putThrough 115 = .ok (.aload_n 1, 1) := by decide +kernel
theorem dX3_putThrough_116 : decode cX3_putThrough 116 = .ok (.getfield 35, 3) := by decide +kernel
theorem dX3_putThrough_119 : decode cX3_putThrough 119 = .ok (.iastore, 1) := by decide +kernel
theorem dX3_putThrough_120 : decode cX3_putThrough 120 = .ok (.return_, 1) := by decide +kernel
theorem dX3_arise_0 : decode cX3_arise 0 = .ok (.aload_n 0, 1) := by decide +kernel
theorem dX3_arise_1 : decode cX3_arise 1 = .ok (.dup, 1) := by decide +kernel
theorem dX3_arise_2 : decode cX3_arise 2 = .ok (.getfield 93, 3) := by decide +kernel
theorem dX3_arise_5 : decode cX3_arise 5 = .ok (.iconst 1, 1) := by decide +kernel
theorem dX3_arise_6 : decode cX3_arise 6 = .ok (.iadd, 1) := by decide +kernel
theorem dX3_arise_7 : decode cX3_arise 7 = .ok (.putfield 93, 3) := by decide +kernel
theorem dX3_arise_10 : decode cX3_arise 10 = .ok (.aload_n 0, 1) := by decide +kernel
theorem dX3_arise_11 : decode cX3_arise 11 = .ok (.iload_n 2, 1) := by decide +kernel
theorem dX3_arise_12 : decode cX3_arise 12 = .ok (.putfield 9, 3) := by decide +kernel
theorem dX3_arise_15 : decode cX3_arise 15 = .ok (.aload_n 0, 1) := by decide +kernel
theorem dX3_arise_16 : decode cX3_arise 16 = .ok (.getfield 93, 3) := by decide +kernel
theorem dX3_arise_19 : decode cX3_arise 19 = .ok (.bipush 40, 2) := by decide +kernel
theorem dX3_arise_21 : decode cX3_arise 21 = .ok (.if_icmp .le 8, 3) := by decide +kernel
theorem dX3_arise_24 : decode cX3_arise 24 = .ok (.bipush 23, 2) := by decide +kernel
theorem dX3_arise_26 : decode cX3_arise 26 = .ok (.goto 4, 3) := by decide +kernel
theorem dX3_arise_29 : decode cX3_arise 29 = .ok (.iload_n 1, 1) := by decide +kernel
theorem dX3_arise_30 : decode cX3_arise 30 = .ok (.ireturn, 1) := by decide +kernel
theorem dX3_startType_0 : decode cX3_startType 0 = .ok (.aload_n 0, 1) := by decide +kernel
theorem dX3_startType_1 : decode cX3_startType 1 = .ok (.getfield 19, 3) := by decide +kernel
theorem dX3_startType_4 : decode cX3_startType 4 = .ok (.getfield 96, 3) := by decide +kernel
theorem dX3_startType_7 : decode cX3_startType 7 = .ok (.iload_n 1, 1) := by decide +kernel
theorem dX3_startType_8 : decode cX3_startType 8 = .ok (.iaload, 1) := by decide +kernel
theorem dX3_startType_9 : decode cX3_startType 9 = .ok (.istore 4, 2) := by decide +kernel
theorem dX3_startType_11 : decode cX3_startType 11 = .ok (.iload 4, 2) := by decide +kernel
theorem dX3_startType_13 : decode cX3_startType 13 = .ok (.iconst 3, 1) := by decide +kernel
theorem dX3_startType_14 : decode cX3_startType 14 = .ok (.if_icmp .ne 11, 3) := by decide +kernel
theorem dX3_startType_17 : decode cX3_startType 17 = .ok (.aload_n 0, 1) := by decide +kernel
theorem dX3_startType_18 : decode cX3_startType 18 = .ok (.bipush 21, 2) := by decide +kernel
theorem dX3_startType_20 : decode cX3_startType 20 = .ok (.iload_n 1, 1) := by decide +kernel
theorem dX3_startType_21 : decode cX3_startType 21 = .ok (.invokevirtual 38, 3) := by decide +kernel
theorem dX3_startType_24 : decode cX3_startType 24 = .ok (.ireturn, 1) := by decide +kernel
theorem dX3_startType_25 : decode cX3_startType 25 = .ok (.iload 4, 2) := by decide +kernel
theorem dX3_startType_27 : decode cX3_startType 27 = .ok (.ifCond .eq 6, 3) := by decide +kernel
theorem dX3_startType_30 : decode cX3_startType 30 = .ok (.bipush (-6), 2) := by decide +kernel
theorem dX3_startType_32 : decode cX3_startType 32 = .ok (.ireturn, 1) := by decide +kernel
theorem dX3_startType_33 : decode cX3_startType 33 = .ok (.iload_n 3, 1) := by decide +kernel
theorem dX3_startType_34 : decode cX3_startType 34 = .ok (.bipush 40, 2) := by decide +kernel
theorem dX3_startType_36 : decode cX3_startType 36 = .ok (.if_icmp .lt 6, 3) := by decide +kernel
theorem dX3_startType_39 : decode cX3_startType 39 = .ok (.bipush 23, 2) := by decide +kernel
theorem dX3_startType_41 : decode cX3_startType 41 = .ok (.ireturn, 1) := by decide +kernel
theorem dX3_startType_42 : decode cX3_startType 42 = .ok (.aload_n 0, 1) := by decide +kernel
theorem dX3_startType_43 : decode cX3_startType 43 = .ok (.getfield 19, 3) := by decide +kernel
theorem dX3_startType_46 : decode cX3_startType 46 = .ok (.getfield 96, 3) := by decide +kernel
theorem dX3_startType_49 : decode cX3_startType 49 = .ok (.iload_n 1, 1) := by decide +kernel
theorem dX3_startType_50 : decode cX3_startType 50 = .ok (.iconst 1, 1) := by decide +kernel
theorem dX3_startType_51 : decode cX3_startType 51 = .ok (.iastore, 1) := by decide +kernel
theorem dX3_startType_52 : decode cX3_startType 52 = .ok (.aload_n 0, 1) := by decide +kernel
theorem dX3_startType_53 : decode cX3_startType 53 = .ok (.aload_n 0, 1) := by decide +kernel
theorem dX3_startType_54 : decode cX3_startType 54 = .ok (.getfield 15, 3) := by decide +kernel
theorem dX3_startType_57 : decode cX3_startType 57 = .ok (.getfield 52, 3) := by decide +kernel
theorem dX3_startType_60 : decode cX3_startType 60 = .ok (.iload_n 1, 1) := by decide +kernel
theorem dX3_startType_61 : decode cX3_startType 61 = .ok (.aaload, 1) := by decide +kernel
theorem dX3_startType_62 : decode cX3_startType 62 = .ok (.iload_n 2, 1) := by decide +kernel
theorem dX3_startType_63 : decode cX3_startType 63 = .ok (.iload_n 3, 1) := by decide +kernel
theorem dX3_startType_64 : decode cX3_startType 64 = .ok (.iconst 1, 1) := by decide +kernel
theorem dX3_startType_65 : decode cX3_startType 65 = .ok (.iadd, 1) := by decide +kernel
theorem dX3_startType_66 : decode cX3_startType 66 = .ok (.invokevirtual 99, 3) := by decide +kernel
theorem dX3_startType_69 : decode cX3_startType 69 = .ok (.istore 5, 2) := by decide +kernel
theorem dX3_startType_71 : decode cX3_startType 71 = .ok (.iload 5, 2) := by decide +kernel
theorem dX3_startType_73 : decode cX3_startType 73 = .ok (.bipush (-6), 2) := by decide +kernel
theorem dX3_startType_75 : decode cX3_startType 75 = .ok (.if_icmp .ne 14, 3) := by decide +kernel
theorem dX3_startType_78 : decode cX3_startType 78 = .ok (.aload_n 0, 1) := by decide +kernel
theorem dX3_startType_79 : decode cX3_startType 79 = .ok (.iload_n 1, 1) := by decide +kernel
theorem dX3_startType_80 : decode cX3_startType 80 = .ok (.iload_n 2, 1) := by decide +kernel
theorem dX3_startType_81 : decode cX3_startType 81 = .ok (.iload_n 3, 1) := by decide +kernel
theorem dX3_startType_82 : decode cX3_startType 82 = .ok (.iconst 1, 1) := by decide +kernel
theorem dX3_startType_83 : decode cX3_startType 83 = .ok (.iadd, 1) := by decide +kernel
theorem dX3_startType_84 : decode cX3_startType 84 = .ok (.invokevirtual 103, 3) := by decide +kernel
theorem dX3_startType_87 : decode cX3_startType 87 = .ok (.istore 5, 2) := by decide +kernel
theorem dX3_startType_89 : decode cX3_startType 89 = .ok (.iload 5, 2) := by decide +kernel
theorem dX3_startType_91 : decode cX3_startType 91 = .ok (.ifCond .lt 20, 3) := by decide +kernel
theorem dX3_startType_94 : decode cX3_startType 94 = .ok (.iload 5, 2) := by decide +kernel
theorem dX3_startType_96 : decode cX3_startType 96 = .ok (.bipush 20, 2) := by decide +kernel
theorem dX3_startType_98 : decode cX3_startType 98 = .ok (.if_icmp .ge 13, 3) := by decide +kernel
theorem dX3_startType_101 : decode cX3_startType 101 = .ok (.aload_n 0, 1) := by decide +kernel
theorem dX3_startType_102 : decode cX3_startType 102 = .ok (.bipush 20, 2) := by decide +kernel
theorem dX3_startType_104 : decode cX3_startType 104 = .ok (.iload 5, 2) := by decide +kernel
theorem dX3_startType_106 : decode cX3_startType 106 = .ok (.invokevirtual 38, 3) := by decide +kernel
theorem dX3_startType_109 : decode cX3_startType 109 = .ok (.istore 5, 2) := by decide +kernel
theorem dX3_startType_111 : decode cX3_startType 111 = .ok (.aload_n 0, 1) := by decide +kernel
theorem dX3_startType_112 : decode cX3_startType 112 = .ok (.getfield 19, 3) := by decide +kernel
theorem dX3_startType_115 : decode cX3_startType 115 = .ok (.getfield 96, 3) := by decide +kernel
theorem dX3_startType_118 : decode cX3_startType 118 = .ok (.iload_n 1, 1) := by decide +kernel
theorem dX3_startType_119 : decode cX3_startType 119 = .ok (.iload 5, 2) := by decide +kernel
theorem dX3_startType_121 : decode cX3_startType 121 = .ok (.bipush (-6), 2) := by decide +kernel
theorem dX3_startType_123 : decode cX3_startType 123 = .ok (.if_icmp .ne 7, 3) := by decide +kernel
theorem dX3_startType_126 : decode cX3_startType 126 = .ok (.iconst 2, 1) := by decide +kernel
theorem dX3_startType_127 : decode cX3_startType 127 = .ok (.goto 4, 3) := by decide +kernel
theorem dX3_startType_130 : decode cX3_startType 130 = .ok (.iconst 3, 1) := by decide +kernel
theorem dX3_startType_131 : decode cX3_startType 131 = .ok (.iastore, 1) := by decide +kernel
theorem dX3_startType_132 : decode cX3_startType 132 = .ok (.iload 5, 2) := by decide +kernel
theorem dX3_startType_134 : decode cX3_startType 134 = .ok (.ireturn, 1) := by decide +kernel
theorem dX3_startFirsts_0 : decode cX3_startFirsts 0 = .ok (.aload_n 1, 1) := by decide +kernel
theorem dX3_startFirsts_1 : decode cX3_startFirsts 1 = .ok (.getfield 106, 3) := by decide +kernel
theorem dX3_startFirsts_4 : decode cX3_startFirsts 4 = .ok (.ifCond .eq 6, 3) := by decide +kernel
theorem dX3_startFirsts_7 : decode cX3_startFirsts 7 = .ok (.bipush (-6), 2) := by decide +kernel
theorem dX3_startFirsts_9 : decode cX3_startFirsts 9 = .ok (.ireturn, 1) := by decide +kernel
theorem dX3_startFirsts_10 : decode cX3_startFirsts 10 = .ok (.aload_n 1, 1) := by decide +kernel
theorem dX3_startFirsts_11 : decode cX3_startFirsts 11 = .ok (.getfield 110, 3) := by decide +kernel
theorem dX3_startFirsts_14 : decode cX3_startFirsts 14 = .ok (.ifCond .lt 16, 3) := by decide +kernel
theorem dX3_startFirsts_17 : decode cX3_startFirsts 17 = .ok (.aload_n 0, 1) := by decide +kernel
theorem dX3_startFirsts_18 : decode cX3_startFirsts 18 = .ok (.aload_n 1, 1) := by decide +kernel
theorem dX3_startFirsts_19 : decode cX3_startFirsts 19 = .ok (.getfield 110, 3) := by decide +kernel
theorem dX3_startFirsts_22 : decode cX3_startFirsts 22 = .ok (.iload_n 2, 1) := by decide +kernel
theorem dX3_startFirsts_23 : decode cX3_startFirsts 23 = .ok (.iload_n 3, 1) := by decide +kernel
theorem dX3_startFirsts_24 : decode cX3_startFirsts 24 = .ok (.invokevirtual 48, 3) := by decide +kernel
theorem dX3_startFirsts_27 : decode cX3_startFirsts 27 = .ok (.goto 5, 3) := by decide +kernel
theorem dX3_startFirsts_30 : decode cX3_startFirsts 30 = .ok (.bipush (-6), 2) := by decide +kernel
theorem dX3_startFirsts_32 : decode cX3_startFirsts 32 = .ok (.istore 4, 2) := by decide +kernel
theorem dX3_startFirsts_34 : decode cX3_startFirsts 34 = .ok (.aload_n 0, 1) := by decide +kernel
theorem dX3_startFirsts_35 : decode cX3_startFirsts 35 = .ok (.getfield 15, 3) := by decide +kernel
theorem dX3_startFirsts_38 : decode cX3_startFirsts 38 = .ok (.aload_n 1, 1) := by decide +kernel
theorem dX3_startFirsts_39 : decode cX3_startFirsts 39 = .ok (.invokevirtual 113, 3) := by decide +kernel
theorem dX3_startFirsts_42 : decode cX3_startFirsts 42 = .ok (.iconst 0, 1) := by decide +kernel
theorem dX3_startFirsts_43 : decode cX3_startFirsts 43 = .ok (.istore 5, 2) := by decide +kernel
theorem dX3_startFirsts_45 : decode cX3_startFirsts 45 = .ok (.iload 5, 2) := by decide +kernel
theorem dX3_startFirsts_47 : decode cX3_startFirsts 47 = .ok (.aload_n 1, 1) := by decide +kernel
theorem dX3_startFirsts_48 : decode cX3_startFirsts 48 = .ok (.getfield 117, 3) := by decide +kernel
theorem dX3_startFirsts_51 : decode cX3_startFirsts 51 = .ok (.if_icmp .ge 31, 3) := by decide +kernel
theorem dX3_startFirsts_54 : decode cX3_startFirsts 54 = .ok (.iload 4, 2) := by decide +kernel
theorem dX3_startFirsts_56 : decode cX3_startFirsts 56 = .ok (.bipush (-6), 2) := by decide +kernel
theorem dX3_startFirsts_58 : decode cX3_startFirsts 58 = .ok (.if_icmp .ne 24, 3) := by decide +kernel
theorem dX3_startFirsts_61 : decode cX3_startFirsts 61 = .ok (.aload_n 0, 1) := by decide +kernel
theorem dX3_startFirsts_62 : decode cX3_startFirsts 62 = .ok (.aload_n 1, 1) := by decide +kernel
theorem dX3_startFirsts_63 : decode cX3_startFirsts 63 = .ok (.getfield 120, 3) := by decide +kernel
theorem dX3_startFirsts_66 : decode cX3_startFirsts 66 = .ok (.iload 5, 2) := by decide +kernel
theorem dX3_startFirsts_68 : decode cX3_startFirsts 68 = .ok (.iaload, 1) := by decide +kernel
theorem dX3_startFirsts_69 : decode cX3_startFirsts 69 = .ok (.iload_n 2, 1) := by decide +kernel
theorem dX3_startFirsts_70 : decode cX3_startFirsts 70 = .ok (.iload_n 3, 1) := by decide +kernel
theorem dX3_startFirsts_71 : decode cX3_startFirsts 71 = .ok (.invokevirtual 48, 3) := by decide +kernel
theorem dX3_startFirsts_74 : decode cX3_startFirsts 74 = .ok (.istore 4, 2) := by decide +kernel
theorem dX3_startFirsts_76 : decode cX3_startFirsts 76 = .ok (.iinc 5 1, 3) := by decide +kernel
theorem dX3_startFirsts_79 : decode cX3_startFirsts 79 = .ok (.goto (-34), 3) := by decide +kernel
theorem dX3_startFirsts_82 : decode cX3_startFirsts 82 = .ok (.iload 4, 2) := by decide +kernel
theorem dX3_startFirsts_84 : decode cX3_startFirsts 84 = .ok (.ireturn, 1) := by decide +kernel
theorem dX3_runStart_0 : decode cX3_runStart 0 = .ok (.iload_n 2, 1) := by decide +kernel
theorem dX3_runStart_1 : decode cX3_runStart 1 = .ok (.bipush 30, 2) := by decide +kernel
theorem dX3_runStart_3 : decode cX3_runStart 3 = .ok (.if_icmp .lt 6, 3) := by decide +kernel
theorem dX3_runStart_6 : decode cX3_runStart 6 = .ok (.bipush 23, 2) := by decide +kernel
theorem dX3_runStart_8 : decode cX3_runStart 8 = .ok (.ireturn, 1) := by decide +kernel
theorem dX3_runStart_9 : decode cX3_runStart 9 = .ok (.aload_n 0, 1) := by decide +kernel
theorem dX3_runStart_10 : decode cX3_runStart 10 = .ok (.getfield 19, 3) := by decide +kernel
theorem dX3_runStart_13 : decode cX3_runStart 13 = .ok (.iload_n 1, 1) := by decide +kernel
theorem dX3_runStart_14 : decode cX3_runStart 14 = .ok (.invokevirtual 123, 3) := by decide +kernel
theorem dX3_runStart_17 : decode cX3_runStart 17 = .ok (.aload_n 0, 1) := by decide +kernel
theorem dX3_runStart_18 : decode cX3_runStart 18 = .ok (.dup, 1) := by decide +kernel
theorem dX3_runStart_19 : decode cX3_runStart 19 = .ok (.getfield 126, 3) := by decide +kernel
theorem dX3_runStart_22 : decode cX3_runStart 22 = .ok (.iconst 1, 1) := by decide +kernel
theorem dX3_runStart_23 : decode cX3_runStart 23 = .ok (.iadd, 1) := by decide +kernel
theorem dX3_runStart_24 : decode cX3_runStart 24 = .ok (.putfield 126, 3) := by decide +kernel
theorem dX3_runStart_27 : decode cX3_runStart 27 = .ok (.aload_n 0, 1) := by decide +kernel
theorem dX3_runStart_28 : decode cX3_runStart 28 = .ok (.aload_n 0, 1) := by decide +kernel
theorem dX3_runStart_29 : decode cX3_runStart 29 = .ok (.getfield 15, 3) := by decide +kernel
theorem dX3_runStart_32 : decode cX3_runStart 32 = .ok (.getfield 52, 3) := by decide +kernel
theorem dX3_runStart_35 : decode cX3_runStart 35 = .ok (.iload_n 1, 1) := by decide +kernel
theorem dX3_runStart_36 : decode cX3_runStart 36 = .ok (.aaload, 1) := by decide +kernel
theorem dX3_runStart_37 : decode cX3_runStart 37 = .ok (.getfield 129, 3) := by decide +kernel
theorem dX3_runStart_40 : decode cX3_runStart 40 = .ok (.iload_n 2, 1) := by decide +kernel
theorem dX3_runStart_41 : decode cX3_runStart 41 = .ok (.iload_n 3, 1) := by decide +kernel
theorem dX3_runStart_42 : decode cX3_runStart 42 = .ok (.invokevirtual 65, 3) := by decide +kernel
theorem dX3_runStart_45 : decode cX3_runStart 45 = .ok (.ireturn, 1) := by decide +kernel
theorem dX3_runBody_0 : decode cX3_runBody 0 = .ok (.aload_n 1, 1) := by decide +kernel
theorem dX3_runBody_1 : decode cX3_runBody 1 = .ok (.ifnull 9, 3) := by decide +kernel
theorem dX3_runBody_4 : decode cX3_runBody 4 = .ok (.iload_n 2, 1) := by decide +kernel
theorem dX3_runBody_5 : decode cX3_runBody 5 = .ok (.bipush 30, 2) := by decide +kernel
theorem dX3_runBody_7 : decode cX3_runBody 7 = .ok (.if_icmp .lt 6, 3) := by decide +kernel
theorem dX3_runBody_10 : decode cX3_runBody 10 = .ok (.bipush 23, 2) := by decide +kernel
theorem dX3_runBody_12 : decode cX3_runBody 12 = .ok (.ireturn, 1) := by decide +kernel
theorem dX3_runBody_13 : decode cX3_runBody 13 = .ok (.aload_n 0, 1) := by decide +kernel
theorem dX3_runBody_14 : decode cX3_runBody 14 = .ok (.aload_n 0, 1) := by decide +kernel
theorem dX3_runBody_15 : decode cX3_runBody 15 = .ok (.getfield 133, 3) := by decide +kernel
theorem dX3_runBody_18 : decode cX3_runBody 18 = .ok (.iload_n 2, 1) := by decide +kernel
theorem dX3_runBody_19 : decode cX3_runBody 19 = .ok (.iconst 1, 1) := by decide +kernel
theorem dX3_runBody_20 : decode cX3_runBody 20 = .ok (.iadd, 1) := by decide +kernel
theorem dX3_runBody_21 : decode cX3_runBody 21 = .ok (.invokestatic 136, 3) := by decide +kernel
theorem dX3_runBody_24 : decode cX3_runBody 24 = .ok (.putfield 133, 3) := by decide +kernel
theorem dX3_runBody_27 : decode cX3_runBody 27 = .ok (.iconst 0, 1) := by decide +kernel
theorem dX3_runBody_28 : decode cX3_runBody 28 = .ok (.istore 4, 2) := by decide +kernel
theorem dX3_runBody_30 : decode cX3_runBody 30 = .ok (.iconst 0, 1) := by decide +kernel
theorem dX3_runBody_31 : decode cX3_runBody 31 = .ok (.istore 5, 2) := by decide +kernel
theorem dX3_runBody_33 : decode cX3_runBody 33 = .ok (.iload 5, 2) := by decide +kernel
theorem dX3_runBody_35 : decode cX3_runBody 35 = .ok (.aload_n 1, 1) := by decide +kernel
theorem dX3_runBody_36 : decode cX3_runBody 36 = .ok (.getfield 141, 3) := by decide +kernel
theorem dX3_runBody_39 : decode cX3_runBody 39 = .ok (.if_icmp .ge 92, 3) := by decide +kernel
theorem dX3_runBody_42 : decode cX3_runBody 42 = .ok (.aload_n 0, 1) := by decide +kernel
theorem dX3_runBody_43 : decode cX3_runBody 43 = .ok (.getfield 23, 3) := by decide +kernel
theorem dX3_runBody_46 : decode cX3_runBody 46 = .ok (.sipush 1000, 3) := by decide +kernel
theorem dX3_runBody_49 : decode cX3_runBody 49 = .ok (.if_icmp .lt 6, 3) := by decide +kernel
theorem dX3_runBody_52 : decode cX3_runBody 52 = .ok (.bipush 23, 2) := by decide +kernel
theorem dX3_runBody_54 : decode cX3_runBody 54 = .ok (.ireturn, 1) := by decide +kernel
theorem dX3_runBody_55 : decode cX3_runBody 55 = .ok (.aload_n 0, 1) := by decide +kernel
theorem dX3_runBody_56 : decode cX3_runBody 56 = .ok (.dup, 1) := by decide +kernel
theorem dX3_runBody_57 : decode cX3_runBody 57 = .ok (.getfield 23, 3) := by decide +kernel
theorem dX3_runBody_60 : decode cX3_runBody 60 = .ok (.iconst 1, 1) := by decide +kernel
theorem dX3_runBody_61 : decode cX3_runBody 61 = .ok (.iadd, 1) := by decide +kernel
theorem dX3_runBody_62 : decode cX3_runBody 62 = .ok (.putfield 23, 3) := by decide +kernel
theorem dX3_runBody_65 : decode cX3_runBody 65 = .ok (.aload_n 1, 1) := by decide +kernel
theorem dX3_runBody_66 : decode cX3_runBody 66 = .ok (.getfield 146, 3) := by decide +kernel
theorem dX3_runBody_69 : decode cX3_runBody 69 = .ok (.iload 5, 2) := by decide +kernel
theorem dX3_runBody_71 : decode cX3_runBody 71 = .ok (.aaload, 1) := by decide +kernel
theorem dX3_runBody_72 : decode cX3_runBody 72 = .ok (.astore 6, 2) := by decide +kernel
theorem dX3_runBody_74 : decode cX3_runBody 74 = .ok (.aload 6, 2) := by decide +kernel
theorem dX3_runBody_76 : decode cX3_runBody 76 = .ok (.getfield 30, 3) := by decide +kernel
theorem dX3_runBody_79 : decode cX3_runBody 79 = .ok (.bipush 8, 2) := by decide +kernel
theorem dX3_runBody_81 : decode cX3_runBody 81 = .ok (.if_icmp .eq 44, 3) := by decide +kernel
theorem dX3_runBody_84 : decode cX3_runBody 84 = .ok (.aload_n 0, 1) := by decide +kernel
theorem dX3_runBody_85 : decode cX3_runBody 85 = .ok (.aload 6, 2) := by decide +kernel
theorem dX3_runBody_87 : decode cX3_runBody 87 = .ok (.iload_n 2, 1) := by decide +kernel
theorem dX3_runBody_88 : decode cX3_runBody 88 = .ok (.iconst 1, 1) := by decide +kernel
theorem dX3_runBody_89 : decode cX3_runBody 89 = .ok (.iadd, 1) := by decide +kernel
theorem dX3_runBody_90 : decode cX3_runBody 90 = .ok (.iload_n 3, 1) := by decide +kernel
theorem dX3_runBody_91 : decode cX3_runBody 91 = .ok (.invokevirtual 26, 3) := by decide +kernel
theorem dX3_runBody_94 : decode cX3_runBody 94 = .ok (.istore 7, 2) := by decide +kernel
theorem dX3_runBody_96 : decode cX3_runBody 96 = .ok (.aload_n 0, 1) := by decide +kernel
theorem dX3_runBody_97 : decode cX3_runBody 97 = .ok (.aload_n 1, 1) := by decide +kernel
theorem dX3_runBody_98 : decode cX3_runBody 98 = .ok (.iload 4, 2) := by decide +kernel
theorem dX3_runBody_100 : decode cX3_runBody 100 = .ok (.iload 5, 2) := by decide +kernel
theorem dX3_runBody_102 : decode cX3_runBody 102 = .ok (.iload 7, 2) := by decide +kernel
theorem dX3_runBody_104 : decode cX3_runBody 104 = .ok (.invokevirtual 149, 3) := by decide +kernel
theorem dX3_runBody_107 : decode cX3_runBody 107 = .ok (.istore 7, 2) := by decide +kernel
theorem dX3_runBody_109 : decode cX3_runBody 109 = .ok (.iload 7, 2) := by decide +kernel
theorem dX3_runBody_111 : decode cX3_runBody 111 = .ok (.bipush (-6), 2) := by decide +kernel
theorem dX3_runBody_113 : decode cX3_runBody 113 = .ok (.if_icmp .eq 6, 3) := by decide +kernel
theorem dX3_runBody_116 : decode cX3_runBody 116 = .ok (.iload 7, 2) := by decide +kernel
theorem dX3_runBody_118 : decode cX3_runBody 118 = .ok (.ireturn, 1) := by decide +kernel
theorem dX3_runBody_119 : decode cX3_runBody 119 = .ok (.iload 5, 2) := by decide +kernel
theorem dX3_runBody_121 : decode cX3_runBody 121 = .ok (.iconst 1, 1) := by decide +kernel
theorem dX3_runBody_122 : decode cX3_runBody 122 = .ok (.iadd, 1) := by decide +kernel
theorem dX3_runBody_123 : decode cX3_runBody 123 = .ok (.istore 4, 2) := by decide +kernel
theorem dX3_runBody_125 : decode cX3_runBody 125 = .ok (.iinc 5 1, 3) := by decide +kernel
theorem dX3_runBody_128 : decode cX3_runBody 128 = .ok (.goto (-95), 3) := by decide +kernel
theorem dX3_runBody_131 : decode cX3_runBody 131 = .ok (.bipush (-6), 2) := by decide +kernel
theorem dX3_runBody_133 : decode cX3_runBody 133 = .ok (.ireturn, 1) := by decide +kernel
theorem dX3_takeFailure_0 : decode cX3_takeFailure 0 = .ok (.iload 4, 2) := by decide +kernel
theorem dX3_takeFailure_2 : decode cX3_takeFailure 2 = .ok (.bipush (-6), 2) := by decide +kernel
theorem dX3_takeFailure_4 : decode cX3_takeFailure 4 = .ok (.if_icmp .eq 10, 3) := by decide +kernel
theorem dX3_takeFailure_7 : decode cX3_takeFailure 7 = .ok (.iload 4, 2) := by decide +kernel
theorem dX3_takeFailure_9 : decode cX3_takeFailure 9 = .ok (.bipush 23, 2) := by decide +kernel
theorem dX3_takeFailure_11 : decode cX3_takeFailure 11 = .ok (.if_icmp .ne 6, 3) := by decide +kernel
theorem dX3_takeFailure_14 : decode cX3_takeFailure 14 = .ok (.iload 4, 2) := by decide +kernel
theorem dX3_takeFailure_16 : decode cX3_takeFailure 16 = .ok (.ireturn, 1) := by decide +kernel
theorem dX3_takeFailure_17 : decode cX3_takeFailure 17 = .ok (.iload_n 3, 1) := by decide +kernel
theorem dX3_takeFailure_18 : decode cX3_takeFailure 18 = .ok (.iconst 1, 1) := by decide +kernel
theorem dX3_takeFailure_19 : decode cX3_takeFailure 19 = .ok (.isub, 1) := by decide +kernel
theorem dX3_takeFailure_20 : decode cX3_takeFailure 20 = .ok (.istore 5, 2) := by decide +kernel
theorem dX3_takeFailure_22 : decode cX3_takeFailure 22 = .ok (.iload 5, 2) := by decide +kernel
theorem dX3_takeFailure_24 : decode cX3_takeFailure 24 = .ok (.iload_n 2, 1) := by decide +kernel
theorem dX3_takeFailure_25 : decode cX3_takeFailure 25 = .ok (.if_icmp .lt 50, 3) := by decide +kernel
theorem dX3_takeFailure_28 : decode cX3_takeFailure 28 = .ok (.aload_n 1, 1) := by decide +kernel
theorem dX3_takeFailure_29 : decode cX3_takeFailure 29 = .ok (.getfield 146, 3) := by decide +kernel
theorem dX3_takeFailure_32 : decode cX3_takeFailure 32 = .ok (.iload 5, 2) := by decide +kernel
theorem dX3_takeFailure_34 : decode cX3_takeFailure 34 = .ok (.aaload, 1) := by decide +kernel
theorem dX3_takeFailure_35 : decode cX3_takeFailure 35 = .ok (.getfield 35, 3) := by decide +kernel
theorem dX3_takeFailure_38 : decode cX3_takeFailure 38 = .ok (.istore 6, 2) := by decide +kernel
theorem dX3_takeFailure_40 : decode cX3_takeFailure 40 = .ok (.iload 6, 2) := by decide +kernel
theorem dX3_takeFailure_42 : decode cX3_takeFailure 42 = .ok (.iconst (-1), 1) := by decide +kernel
theorem dX3_takeFailure_43 : decode cX3_takeFailure 43 = .ok (.if_icmp .eq 10, 3) := by decide +kernel
theorem dX3_takeFailure_46 : decode cX3_takeFailure 46 = .ok (.iload 6, 2) := by decide +kernel
theorem dX3_takeFailure_48 : decode cX3_takeFailure 48 = .ok (.iload 4, 2) := by decide +kernel
theorem dX3_takeFailure_50 : decode cX3_takeFailure 50 = .ok (.if_icmp .ne 19, 3) := by decide +kernel
theorem dX3_takeFailure_53 : decode cX3_takeFailure 53 = .ok (.aload_n 0, 1) := by decide +kernel
theorem dX3_takeFailure_54 : decode cX3_takeFailure 54 = .ok (.getfield 19, 3) := by decide +kernel
theorem dX3_takeFailure_57 : decode cX3_takeFailure 57 = .ok (.sipush 1000, 3) := by decide +kernel
theorem dX3_takeFailure_60 : decode cX3_takeFailure 60 = .ok (.iload 4, 2) := by decide +kernel
theorem dX3_takeFailure_62 : decode cX3_takeFailure 62 = .ok (.iadd, 1) := by decide +kernel
theorem dX3_takeFailure_63 : decode cX3_takeFailure 63 = .ok (.invokevirtual 73, 3) := by decide +kernel
theorem dX3_takeFailure_66 : decode cX3_takeFailure 66 = .ok (.bipush (-6), 2) := by decide +kernel
theorem dX3_takeFailure_68 : decode cX3_takeFailure 68 = .ok (.ireturn, 1) := by decide +kernel
theorem dX3_takeFailure_69 : decode cX3_takeFailure 69 = .ok (.iinc 5 (-1), 3) := by decide +kernel
theorem dX3_takeFailure_72 : decode cX3_takeFailure 72 = .ok (.goto (-50), 3) := by decide +kernel
theorem dX3_takeFailure_75 : decode cX3_takeFailure 75 = .ok (.iload 4, 2) := by decide +kernel
theorem dX3_takeFailure_77 : decode cX3_takeFailure 77 = .ok (.ireturn, 1) := by decide +kernel
theorem dX4_init_0 : decode cX4_init 0 = .ok (.aload_n 0, 1) := by decide +kernel
theorem dX4_init_1 : decode cX4_init 1 = .ok (.invokespecial 3, 3) := by decide +kernel
theorem dX4_init_4 : decode cX4_init 4 = .ok (.aload_n 0, 1) := by decide +kernel
theorem dX4_init_5 : decode cX4_init 5 = .ok (.iconst 4, 1) := by decide +kernel
theorem dX4_init_6 : decode cX4_init 6 = .ok (.newarray .int, 2) := by decide +kernel
theorem dX4_init_8 : decode cX4_init 8 = .ok (.putfield 9, 3) := by decide +kernel
theorem dX4_init_11 : decode cX4_init 11 = .ok (.aload_n 0, 1) := by decide +kernel
theorem dX4_init_12 : decode cX4_init 12 = .ok (.bipush 10, 2) := by decide +kernel
theorem dX4_init_14 : decode cX4_init 14 = .ok (.newarray .int, 2) := by decide +kernel
theorem dX4_init_16 : decode cX4_init 16 = .ok (.putfield 15, 3) := by decide +kernel
theorem dX4_init_19 : decode cX4_init 19 = .ok (.aload_n 0, 1) := by decide +kernel
theorem dX4_init_20 : decode cX4_init 20 = .ok (.bipush 10, 2) := by decide +kernel
theorem dX4_init_22 : decode cX4_init 22 = .ok (.newarray .int, 2) := by decide +kernel
theorem dX4_init_24 : decode cX4_init 24 = .ok (.putfield 18, 3) := by decide +kernel
theorem dX4_init_27 : decode cX4_init 27 = .ok (.aload_n 0, 1) := by decide +kernel
theorem dX4_init_28 : decode cX4_init 28 = .ok (.bipush 10, 2) := by decide +kernel
theorem dX4_init_30 : decode cX4_init 30 = .ok (.anewarray 21, 3) := by decide +kernel
theorem dX4_init_33 : decode cX4_init 33 = .ok (.putfield 23, 3) := by decide +kernel
theorem dX4_init_36 : decode cX4_init 36 = .ok (.aload_n 0, 1) := by decide +kernel
theorem dX4_init_37 : decode cX4_init 37 = .ok (.new 21, 3) := by decide +kernel
theorem dX4_init_40 : decode cX4_init 40 = .ok (.dup, 1) := by decide +kernel
theorem dX4_init_41 : decode cX4_init 41 = .ok (.invokespecial 27, 3) := by decide +kernel
theorem dX4_init_44 : decode cX4_init 44 = .ok (.putfield 28, 3) := by decide +kernel
theorem dX4_init_47 : decode cX4_init 47 = .ok (.aload_n 0, 1) := by decide +kernel
theorem dX4_init_48 : decode cX4_init 48 = .ok (.bipush 40, 2) := by decide +kernel
theorem dX4_init_50 : decode cX4_init 50 = .ok (.newarray .int, 2) := by decide +kernel
theorem dX4_init_52 : decode cX4_init 52 = .ok (.putfield 32, 3) := by decide +kernel
theorem dX4_init_55 : decode cX4_init 55 = .ok (.aload_n 0, 1) := by decide +kernel
theorem dX4_init_56 : decode cX4_init 56 = .ok (.iload_n 1, 1) := by decide +kernel
theorem dX4_init_57 : decode cX4_init 57 = .ok (.putfield 35, 3) := by decide +kernel
theorem dX4_init_60 : decode cX4_init 60 = .ok (.aload_n 0, 1) := by decide +kernel
theorem dX4_init_61 : decode cX4_init 61 = .ok (.iload_n 2, 1) := by decide +kernel
theorem dX4_init_62 : decode cX4_init 62 = .ok (.putfield 39, 3) := by decide +kernel
theorem dX4_init_65 : decode cX4_init 65 = .ok (.aload_n 0, 1) := by decide +kernel
theorem dX4_init_66 : decode cX4_init 66 = .ok (.iload_n 3, 1) := by decide +kernel
theorem dX4_init_67 : decode cX4_init 67 = .ok (.putfield 42, 3) := by decide +kernel
theorem dX4_init_70 : decode cX4_init 70 = .ok (.return_, 1) := by decide +kernel
theorem dX4_isUnder_0 : decode cX4_isUnder 0 = .ok (.iconst 0, 1) := by decide +kernel
theorem dX4_isUnder_1 : decode cX4_isUnder 1 = .ok (.istore_n 2, 1) := by decide +kernel
theorem dX4_isUnder_2 : decode cX4_isUnder 2 = .ok (.iload_n 2, 1) := by decide +kernel
theorem dX4_isUnder_3 : decode cX4_isUnder 3 = .ok (.aload_n 0, 1) := by decide +kernel
theorem dX4_isUnder_4 : decode cX4_isUnder 4 = .ok (.getfield 46, 3) := by decide +kernel
theorem dX4_isUnder_7 : decode cX4_isUnder 7 = .ok (.if_icmp .ge 21, 3) := by decide +kernel
theorem dX4_isUnder_10 : decode cX4_isUnder 10 = .ok (.aload_n 0, 1) := by decide +kernel
theorem dX4_isUnder_11 : decode cX4_isUnder 11 = .ok (.getfield 9, 3) := by decide +kernel
theorem dX4_isUnder_14 : decode cX4_isUnder 14 = .ok (.iload_n 2, 1) := by decide +kernel
theorem dX4_isUnder_15 : decode cX4_isUnder 15 = .ok (.iaload, 1) := by decide +kernel
theorem dX4_isUnder_16 : decode cX4_isUnder 16 = .ok (.iload_n 1, 1) := by decide +kernel
theorem dX4_isUnder_17 : decode cX4_isUnder 17 = .ok (.if_icmp .ne 5, 3) := by decide +kernel
theorem dX4_isUnder_20 : decode cX4_isUnder 20 = .ok (.iconst 1, 1) := by decide +kernel
theorem dX4_isUnder_21 : decode cX4_isUnder 21 = .ok (.ireturn, 1) := by decide +kernel
theorem dX4_isUnder_22 : decode cX4_isUnder 22 = .ok (.iinc 2 1, 3) := by decide +kernel
theorem dX4_isUnder_25 : decode cX4_isUnder 25 = .ok (.goto (-23), 3) := by decide +kernel
theorem dX4_isUnder_28 : decode cX4_isUnder 28 = .ok (.iconst 0, 1) := by decide +kernel
theorem dX4_isUnder_29 : decode cX4_isUnder 29 = .ok (.ireturn, 1) := by decide +kernel
theorem dX4_addField_0 : decode cX4_addField 0 = .ok (.aload_n 0, 1) := by decide +kernel
theorem dX4_addField_1 : decode cX4_addField 1 = .ok (.getfield 15, 3) := by decide +kernel
theorem dX4_addField_4 : decode cX4_addField 4 = .ok (.iload_n 1, 1) := by decide +kernel
theorem dX4_addField_5 : decode cX4_addField 5 = .ok (.iload_n 2, 1) := by decide +kernel
theorem dX4_addField_6 : decode cX4_addField 6 = .ok (.ifCond .eq 7, 3) := by decide +kernel
theorem dX4_addField_9 : decode cX4_addField 9 = .ok (.iconst 2, 1) := by decide +kernel
theorem dX4_addField_10 : decode cX4_addField 10 = .ok (.goto 4, 3) := by decide +kernel
theorem dX4_addField_13 : decode cX4_addField 13 = .ok (.iconst 1, 1) := by decide +kernel
theorem dX4_addField_14 : decode cX4_addField 14 = .ok (.iastore, 1) := by decide +kernel
theorem dX4_addField_15 : decode cX4_addField 15 = .ok (.aload_n 0, 1) := by decide +kernel
theorem dX4_addField_16 : decode cX4_addField 16 = .ok (.getfield 18, 3) := by decide +kernel
theorem dX4_addField_19 : decode cX4_addField 19 = .ok (.iload_n 1, 1) := by decide +kernel
theorem dX4_addField_20 : decode cX4_addField 20 = .ok (.iload_n 3, 1) := by decide +kernel
theorem dX4_addField_21 : decode cX4_addField 21 = .ok (.iastore, 1) := by decide +kernel
theorem dX4_addField_22 : decode cX4_addField 22 = .ok (.aload_n 0, 1) := by decide +kernel
theorem dX4_addField_23 : decode cX4_addField 23 = .ok (.dup, 1) := by decide +kernel
theorem dX4_addField_24 : decode cX4_addField 24 = .ok (.getfield 49, 3) := by decide +kernel
theorem dX4_addField_27 : decode cX4_addField 27 = .ok (.iconst 1, 1) := by decide +kernel
theorem dX4_addField_28 : decode cX4_addField 28 = .ok (.iadd, 1) := by decide +kernel
theorem dX4_addField_29 : decode cX4_addField 29 = .ok (.putfield 49, 3) := by decide +kernel
theorem dX4_addField_32 : decode cX4_addField 32 = .ok (.return_, 1) := by decide +kernel
theorem dX4_addMethod_0 : decode cX4_addMethod 0 = .ok (.aload_n 0, 1) := by decide +kernel
theorem dX4_addMethod_1 : decode cX4_addMethod 1 = .ok (.getfield 23, 3) := by decide +kernel
theorem dX4_addMethod_4 : decode cX4_addMethod 4 = .ok (.iload_n 1, 1) := by decide +kernel
theorem dX4_addMethod_5 : decode cX4_addMethod 5 = .ok (.new 21, 3) := by decide +kernel
theorem dX4_addMethod_8 : decode cX4_addMethod 8 = .ok (.dup, 1) := by decide +kernel
theorem dX4_addMethod_9 : decode cX4_addMethod 9 = .ok (.invokespecial 27, 3) := by decide +kernel
theorem dX4_addMethod_12 : decode cX4_addMethod 12 = .ok (.aastore, 1) := by decide +kernel
theorem dX4_addMethod_13 : decode cX4_addMethod 13 = .ok (.aload_n 0, 1) := by decide +kernel
theorem dX4_addMethod_14 : decode cX4_addMethod 14 = .ok (.dup, 1) := by decide +kernel
theorem dX4_addMethod_15 : decode cX4_addMethod 15 = .ok (.getfield 52, 3) := by decide +kernel
theorem dX4_addMethod_18 : decode cX4_addMethod 18 = .ok (.iconst 1, 1) := by decide +kernel
theorem dX4_addMethod_19 : decode cX4_addMethod 19 = .ok (.iadd, 1) := by decide +kernel
theorem dX4_addMethod_20 : decode cX4_addMethod 20 = .ok (.putfield 52, 3) := by decide +kernel
theorem dX4_addMethod_23 : decode cX4_addMethod 23 = .ok (.return_, 1) := by decide +kernel
theorem dX4_bodyOf_0 : decode cX4_bodyOf 0 = .ok (.iload_n 1, 1) := by decide +kernel
theorem dX4_bodyOf_1 : decode cX4_bodyOf 1 = .ok (.iconst (-1), 1) := by decide +kernel
theorem dX4_bodyOf_2 : decode cX4_bodyOf 2 = .ok (.if_icmp .ne 8, 3) := by decide +kernel
theorem dX4_bodyOf_5 : decode cX4_bodyOf 5 = .ok (.aload_n 0, 1) := by decide +kernel
theorem dX4_bodyOf_6 : decode cX4_bodyOf 6 = .ok (.getfield 28, 3) := by decide +kernel
theorem dX4_bodyOf_9 : decode cX4_bodyOf 9 = .ok (.areturn, 1) := by decide +kernel
theorem dX4_bodyOf_10 : decode cX4_bodyOf 10 = .ok (.iload_n 1, 1) := by decide +kernel
theorem dX4_bodyOf_11 : decode cX4_bodyOf 11 = .ok (.invokestatic 55, 3) := by decide +kernel
theorem dX4_bodyOf_14 : decode cX4_bodyOf 14 = .ok (.ifCond .eq 12, 3) := by decide +kernel
theorem dX4_bodyOf_17 : decode cX4_bodyOf 17 = .ok (.aload_n 0, 1) := by decide +kernel
theorem dX4_bodyOf_18 : decode cX4_bodyOf 18 = .ok (.getfield 23, 3) := by decide +kernel
theorem dX4_bodyOf_21 : decode cX4_bodyOf 21 = .ok (.iload_n 1, 1) := by decide +kernel
theorem dX4_bodyOf_22 : decode cX4_bodyOf 22 = .ok (.aaload, 1) := by decide +kernel
theorem dX4_bodyOf_23 : decode cX4_bodyOf 23 = .ok (.goto 4, 3) := by decide +kernel
theorem dX4_bodyOf_26 : decode cX4_bodyOf 26 = .ok (.aconst_null, 1) := by decide +kernel
theorem dX4_bodyOf_27 : decode cX4_bodyOf 27 = .ok (.areturn, 1) := by decide +kernel
theorem dX4_tell_0 : decode cX4_tell 0 = .ok (.iload_n 1, 1) := by decide +kernel
theorem dX4_tell_1 : decode cX4_tell 1 = .ok (.tableswitch 85 2 7 #[39, 52, 65, 70, 75, 80], 39) := by decide +kernel
theorem dX4_tell_40 : decode cX4_tell 40 = .ok (.aload_n 0, 1) := by decide +kernel
theorem dX4_tell_41 : decode cX4_tell 41 = .ok (.getfield 35, 3) := by decide +kernel
theorem dX4_tell_44 : decode cX4_tell 44 = .ok (.ifCond .eq 7, 3) := by decide +kernel
theorem dX4_tell_47 : decode cX4_tell 47 = .ok (.iconst 1, 1) := by decide +kernel
theorem dX4_tell_48 : decode cX4_tell 48 = .ok (.goto 4, 3) := by decide +kernel
theorem dX4_tell_51 : decode cX4_tell 51 = .ok (.iconst 0, 1) := by decide +kernel
theorem dX4_tell_52 : decode cX4_tell 52 = .ok (.ireturn, 1) := by decide +kernel
theorem dX4_tell_53 : decode cX4_tell 53 = .ok (.aload_n 0, 1) := by decide +kernel
theorem dX4_tell_54 : decode cX4_tell 54 = .ok (.getfield 39, 3) := by decide +kernel
theorem dX4_tell_57 : decode cX4_tell 57 = .ok (.ifCond .eq 7, 3) := by decide +kernel
theorem dX4_tell_60 : decode cX4_tell 60 = .ok (.iconst 1, 1) := by decide +kernel
theorem dX4_tell_61 : decode cX4_tell 61 = .ok (.goto 4, 3) := by decide +kernel
theorem dX4_tell_64 : decode cX4_tell 64 = .ok (.iconst 0, 1) := by decide +kernel
theorem dX4_tell_65 : decode cX4_tell 65 = .ok (.ireturn, 1) := by decide +kernel
theorem dX4_tell_66 : decode cX4_tell 66 = .ok (.aload_n 0, 1) := by decide +kernel
theorem dX4_tell_67 : decode cX4_tell 67 = .ok (.getfield 42, 3) := by decide +kernel
theorem dX4_tell_70 : decode cX4_tell 70 = .ok (.ireturn, 1) := by decide +kernel
theorem dX4_tell_71 : decode cX4_tell 71 = .ok (.aload_n 0, 1) := by decide +kernel
theorem dX4_tell_72 : decode cX4_tell 72 = .ok (.getfield 46, 3) := by decide +kernel
theorem dX4_tell_75 : decode cX4_tell 75 = .ok (.ireturn, 1) := by decide +kernel
theorem dX4_tell_76 : decode cX4_tell 76 = .ok (.aload_n 0, 1) := by decide +kernel
theorem dX4_tell_77 : decode cX4_tell 77 = .ok (.getfield 49, 3) := by decide +kernel
theorem dX4_tell_80 : decode cX4_tell 80 = .ok (.ireturn, 1) := by decide +kernel
theorem dX4_tell_81 : decode cX4_tell 81 = .ok (.aload_n 0, 1) := by decide +kernel
theorem dX4_tell_82 : decode cX4_tell 82 = .ok (.getfield 52, 3) := by decide +kernel
theorem dX4_tell_85 : decode cX4_tell 85 = .ok (.ireturn, 1) := by decide +kernel
theorem dX4_tell_86 : decode cX4_tell 86 = .ok (.aload_n 0, 1) := by decide +kernel
theorem dX4_tell_87 : decode cX4_tell 87 = .ok (.getfield 28, 3) := by decide +kernel
theorem dX4_tell_90 : decode cX4_tell 90 = .ok (.getfield 59, 3) := by decide +kernel
theorem dX4_tell_93 : decode cX4_tell 93 = .ok (.ireturn, 1) := by decide +kernel
theorem dX5_init_0 : decode cX5_init 0 = .ok (.aload_n 0, 1) := by decide +kernel
theorem dX5_init_1 : decode cX5_init 1 = .ok (.invokespecial 3, 3) := by decide +kernel
theorem dX5_init_4 : decode cX5_init 4 = .ok (.aload_n 0, 1) := by decide +kernel
theorem dX5_init_5 : decode cX5_init 5 = .ok (.bipush 40, 2) := by decide +kernel
theorem dX5_init_7 : decode cX5_init 7 = .ok (.newarray .int, 2) := by decide +kernel
theorem dX5_init_9 : decode cX5_init 9 = .ok (.putfield 9, 3) := by decide +kernel
theorem dX5_init_12 : decode cX5_init 12 = .ok (.aload_n 0, 1) := by decide +kernel
theorem dX5_init_13 : decode cX5_init 13 = .ok (.sipush 400, 3) := by decide +kernel
theorem dX5_init_16 : decode cX5_init 16 = .ok (.newarray .int, 2) := by decide +kernel
theorem dX5_init_18 : decode cX5_init 18 = .ok (.putfield 15, 3) := by decide +kernel
theorem dX5_init_21 : decode cX5_init 21 = .ok (.aload_n 0, 1) := by decide +kernel
theorem dX5_init_22 : decode cX5_init 22 = .ok (.sipush 300, 3) := by decide +kernel
theorem dX5_init_25 : decode cX5_init 25 = .ok (.newarray .int, 2) := by decide +kernel
theorem dX5_init_27 : decode cX5_init 27 = .ok (.putfield 18, 3) := by decide +kernel
theorem dX5_init_30 : decode cX5_init 30 = .ok (.aload_n 0, 1) := by decide +kernel
theorem dX5_init_31 : decode cX5_init 31 = .ok (.bipush 40, 2) := by decide +kernel
theorem dX5_init_33 : decode cX5_init 33 = .ok (.newarray .int, 2) := by decide +kernel
theorem dX5_init_35 : decode cX5_init 35 = .ok (.putfield 21, 3) := by decide +kernel
theorem dX5_init_38 : decode cX5_init 38 = .ok (.aload_n 0, 1) := by decide +kernel
theorem dX5_init_39 : decode cX5_init 39 = .ok (.bipush (-6), 2) := by decide +kernel
theorem dX5_init_41 : decode cX5_init 41 = .ok (.putfield 24, 3) := by decide +kernel
theorem dX5_init_44 : decode cX5_init 44 = .ok (.aload_n 0, 1) := by decide +kernel
theorem dX5_init_45 : decode cX5_init 45 = .ok (.bipush (-6), 2) := by decide +kernel
theorem dX5_init_47 : decode cX5_init 47 = .ok (.putfield 28, 3) := by decide +kernel
theorem dX5_init_50 : decode cX5_init 50 = .ok (.aload_n 0, 1) := by decide +kernel
theorem dX5_init_51 : decode cX5_init 51 = .ok (.iconst 4, 1) := by decide +kernel
theorem dX5_init_52 : decode cX5_init 52 = .ok (.newarray .int, 2) := by decide +kernel
theorem dX5_init_54 : decode cX5_init 54 = .ok (.putfield 31, 3) := by decide +kernel
theorem dX5_init_57 : decode cX5_init 57 = .ok (.return_, 1) := by decide +kernel
theorem dX5_clear_0 : decode cX5_clear 0 = .ok (.aload_n 0, 1) := by decide +kernel
theorem dX5_clear_1 : decode cX5_clear 1 = .ok (.getfield 9, 3) := by decide +kernel
theorem dX5_clear_4 : decode cX5_clear 4 = .ok (.iconst 0, 1) := by decide +kernel
theorem dX5_clear_5 : decode cX5_clear 5 = .ok (.invokestatic 34, 3) := by decide +kernel
theorem dX5_clear_8 : decode cX5_clear 8 = .ok (.aload_n 0, 1) := by decide +kernel
theorem dX5_clear_9 : decode cX5_clear 9 = .ok (.getfield 15, 3) := by decide +kernel
theorem dX5_clear_12 : decode cX5_clear 12 = .ok (.iconst 0, 1) := by decide +kernel
theorem dX5_clear_13 : decode cX5_clear 13 = .ok (.invokestatic 34, 3) := by decide +kernel
theorem dX5_clear_16 : decode cX5_clear 16 = .ok (.aload_n 0, 1) := by decide +kernel
theorem dX5_clear_17 : decode cX5_clear 17 = .ok (.iconst 0, 1) := by decide +kernel
theorem dX5_clear_18 : decode cX5_clear 18 = .ok (.putfield 40, 3) := by decide +kernel
theorem dX5_clear_21 : decode cX5_clear 21 = .ok (.aload_n 0, 1) := by decide +kernel
theorem dX5_clear_22 : decode cX5_clear 22 = .ok (.iconst 0, 1) := by decide +kernel
theorem dX5_clear_23 : decode cX5_clear 23 = .ok (.putfield 43, 3) := by decide +kernel
theorem dX5_clear_26 : decode cX5_clear 26 = .ok (.aload_n 0, 1) := by decide +kernel
theorem dX5_clear_27 : decode cX5_clear 27 = .ok (.bipush (-6), 2) := by decide +kernel
theorem dX5_clear_29 : decode cX5_clear 29 = .ok (.putfield 24, 3) := by decide +kernel
theorem dX5_clear_32 : decode cX5_clear 32 = .ok (.aload_n 0, 1) := by decide +kernel
theorem dX5_clear_33 : decode cX5_clear 33 = .ok (.bipush (-6), 2) := by decide +kernel
theorem dX5_clear_35 : decode cX5_clear 35 = .ok (.putfield 28, 3) := by decide +kernel
theorem dX5_clear_38 : decode cX5_clear 38 = .ok (.aload_n 0, 1) := by decide +kernel
theorem dX5_clear_39 : decode cX5_clear 39 = .ok (.getfield 31, 3) := by decide +kernel
theorem dX5_clear_42 : decode cX5_clear 42 = .ok (.iconst 0, 1) := by decide +kernel
theorem dX5_clear_43 : decode cX5_clear 43 = .ok (.invokestatic 34, 3) := by decide +kernel
theorem dX5_clear_46 : decode cX5_clear 46 = .ok (.return_, 1) := by decide +kernel
theorem dX5_takeStateOf_0 : decode cX5_takeStateOf 0 = .ok (.aload_n 1, 1) := by decide +kernel
theorem dX5_takeStateOf_1 : decode cX5_takeStateOf 1 = .ok (.getfield 9, 3) := by decide +kernel
theorem dX5_takeStateOf_4 : decode cX5_takeStateOf 4 = .ok (.iconst 0, 1) := by decide +kernel
theorem dX5_takeStateOf_5 : decode cX5_takeStateOf 5 = .ok (.aload_n 0, 1) := by decide +kernel
theorem dX5_takeStateOf_6 : decode cX5_takeStateOf 6 = .ok (.getfield 9, 3) := by decide +kernel
theorem dX5_takeStateOf_9 : decode cX5_takeStateOf 9 = .ok (.iconst 0, 1) := by decide +kernel
theorem dX5_takeStateOf_10 : decode cX5_takeStateOf 10 = .ok (.bipush 40, 2) := by decide +kernel
theorem dX5_takeStateOf_12 : decode cX5_takeStateOf 12 = .ok (.invokestatic 46, 3) := by decide +kernel
theorem dX5_takeStateOf_15 : decode cX5_takeStateOf 15 = .ok (.aload_n 1, 1) := by decide +kernel
theorem dX5_takeStateOf_16 : decode cX5_takeStateOf 16 = .ok (.getfield 15, 3) := by decide +kernel
theorem dX5_takeStateOf_19 : decode cX5_takeStateOf 19 = .ok (.iconst 0, 1) := by decide +kernel
theorem dX5_takeStateOf_20 : decode cX5_takeStateOf 20 = .ok (.aload_n 0, 1) := by decide +kernel
theorem dX5_takeStateOf_21 : decode cX5_takeStateOf 21 = .ok (.getfield 15, 3) := by decide +kernel
theorem dX5_takeStateOf_24 : decode cX5_takeStateOf 24 = .ok (.iconst 0, 1) := by decide +kernel
theorem dX5_takeStateOf_25 : decode cX5_takeStateOf 25 = .ok (.sipush 400, 3) := by decide +kernel
theorem dX5_takeStateOf_28 : decode cX5_takeStateOf 28 = .ok (.invokestatic 46, 3) := by decide +kernel
theorem dX5_takeStateOf_31 : decode cX5_takeStateOf 31 = .ok (.aload_n 0, 1) := by decide +kernel
theorem dX5_takeStateOf_32 : decode cX5_takeStateOf 32 = .ok (.aload_n 1, 1) := by decide +kernel
theorem dX5_takeStateOf_33 : decode cX5_takeStateOf 33 = .ok (.getfield 40, 3) := by decide +kernel
theorem dX5_takeStateOf_36 : decode cX5_takeStateOf 36 = .ok (.putfield 40, 3) := by decide +kernel
theorem dX5_takeStateOf_39 : decode cX5_takeStateOf 39 = .ok (.aload_n 0, 1) := by decide +kernel
theorem dX5_takeStateOf_40 : decode cX5_takeStateOf 40 = .ok (.aload_n 1, 1) := by decide +kernel
theorem dX5_takeStateOf_41 : decode cX5_takeStateOf 41 = .ok (.getfield 43, 3) := by decide +kernel
theorem dX5_takeStateOf_44 : decode cX5_takeStateOf 44 = .ok (.putfield 43, 3) := by decide +kernel
theorem dX5_takeStateOf_47 : decode cX5_takeStateOf 47 = .ok (.return_, 1) := by decide +kernel
theorem dX5_putOnTape_0 : decode cX5_putOnTape 0 = .ok (.aload_n 0, 1) := by decide +kernel
theorem dX5_putOnTape_1 : decode cX5_putOnTape 1 = .ok (.getfield 40, 3) := by decide +kernel
theorem dX5_putOnTape_4 : decode cX5_putOnTape 4 = .ok (.sipush 300, 3) := by decide +kernel
theorem dX5_putOnTape_7 : decode cX5_putOnTape 7 = .ok (.if_icmp .ge 13, 3) := by decide +kernel
theorem dX5_putOnTape_10 : decode cX5_putOnTape 10 = .ok (.aload_n 0, 1) := by decide +kernel
theorem dX5_putOnTape_11 : decode cX5_putOnTape 11 = .ok (.getfield 18, 3) := by decide +kernel
theorem dX5_putOnTape_14 : decode cX5_putOnTape 14 = .ok (.aload_n 0, 1) := by decide +kernel
theorem dX5_putOnTape_15 : decode cX5_putOnTape 15 = .ok (.getfield 40, 3) := by decide +kernel
theorem dX5_putOnTape_18 : decode cX5_putOnTape 18 = .ok (.iload_n 1, 1) := by decide +kernel
theorem dX5_putOnTape_19 : decode cX5_putOnTape 19 = .ok (.iastore, 1) := by decide +kernel
theorem dX5_putOnTape_20 : decode cX5_putOnTape 20 = .ok (.aload_n 0, 1) := by decide +kernel
theorem dX5_putOnTape_21 : decode cX5_putOnTape 21 = .ok (.dup, 1) := by decide +kernel
theorem dX5_putOnTape_22 : decode cX5_putOnTape 22 = .ok (.getfield 40, 3) := by decide +kernel
theorem dX5_putOnTape_25 : decode cX5_putOnTape 25 = .ok (.iconst 1, 1) := by decide +kernel
theorem dX5_putOnTape_26 : decode cX5_putOnTape 26 = .ok (.iadd, 1) := by decide +kernel
theorem dX5_putOnTape_27 : decode cX5_putOnTape 27 = .ok (.putfield 40, 3) := by decide +kernel
theorem dX5_putOnTape_30 : decode cX5_putOnTape 30 = .ok (.return_, 1) := by decide +kernel
theorem dX5_putInRow_0 : decode cX5_putInRow 0 = .ok (.aload_n 0, 1) := by decide +kernel
theorem dX5_putInRow_1 : decode cX5_putInRow 1 = .ok (.getfield 43, 3) := by decide +kernel
theorem dX5_putInRow_4 : decode cX5_putInRow 4 = .ok (.bipush 40, 2) := by decide +kernel
theorem dX5_putInRow_6 : decode cX5_putInRow 6 = .ok (.if_icmp .ge 23, 3) := by decide +kernel
theorem dX5_putInRow_9 : decode cX5_putInRow 9 = .ok (.aload_n 0, 1) := by decide +kernel
theorem dX5_putInRow_10 : decode cX5_putInRow 10 = .ok (.getfield 21, 3) := by decide +kernel
theorem dX5_putInRow_13 : decode cX5_putInRow 13 = .ok (.aload_n 0, 1) := by decide +kernel
theorem dX5_putInRow_14 : decode cX5_putInRow 14 = .ok (.getfield 43, 3) := by decide +kernel
theorem dX5_putInRow_17 : decode cX5_putInRow 17 = .ok (.iload_n 1, 1) := by decide +kernel
theorem dX5_putInRow_18 : decode cX5_putInRow 18 = .ok (.iastore, 1) := by decide +kernel
theorem dX5_putInRow_19 : decode cX5_putInRow 19 = .ok (.aload_n 0, 1) := by decide +kernel
theorem dX5_putInRow_20 : decode cX5_putInRow 20 = .ok (.dup, 1) := by decide +kernel
theorem dX5_putInRow_21 : decode cX5_putInRow 21 = .ok (.getfield 43, 3) := by decide +kernel
theorem dX5_putInRow_24 : decode cX5_putInRow 24 = .ok (.iconst 1, 1) := by decide +kernel
theorem dX5_putInRow_25 : decode cX5_putInRow 25 = .ok (.iadd, 1) := by decide +kernel
theorem dX5_putInRow_26 : decode cX5_putInRow 26 = .ok (.putfield 43, 3) := by decide +kernel
theorem dX5_putInRow_29 : decode cX5_putInRow 29 = .ok (.return_, 1) := by decide +kernel
theorem dX5_keepAccount_0 : decode cX5_keepAccount 0 = .ok (.iload_n 2, 1) := by decide +kernel
theorem dX5_keepAccount_1 : decode cX5_keepAccount 1 = .ok (.bipush (-6), 2) := by decide +kernel
theorem dX5_keepAccount_3 : decode cX5_keepAccount 3 = .ok (.if_icmp .eq 13, 3) := by decide +kernel
theorem dX5_keepAccount_6 : decode cX5_keepAccount 6 = .ok (.iload_n 2, 1) := by decide +kernel
theorem dX5_keepAccount_7 : decode cX5_keepAccount 7 = .ok (.bipush 23, 2) := by decide +kernel
theorem dX5_keepAccount_9 : decode cX5_keepAccount 9 = .ok (.if_icmp .eq 7, 3) := by decide +kernel
theorem dX5_keepAccount_12 : decode cX5_keepAccount 12 = .ok (.iconst 1, 1) := by decide +kernel
theorem dX5_keepAccount_13 : decode cX5_keepAccount 13 = .ok (.goto 4, 3) := by decide +kernel
theorem dX5_keepAccount_16 : decode cX5_keepAccount 16 = .ok (.iconst 0, 1) := by decide +kernel
theorem dX5_keepAccount_17 : decode cX5_keepAccount 17 = .ok (.istore_n 3, 1) := by decide +kernel
theorem dX5_keepAccount_18 : decode cX5_keepAccount 18 = .ok (.aload_n 0, 1) := by decide +kernel
theorem dX5_keepAccount_19 : decode cX5_keepAccount 19 = .ok (.iload_n 3, 1) := by decide +kernel
theorem dX5_keepAccount_20 : decode cX5_keepAccount 20 = .ok (.ifCond .eq 7, 3) := by decide +kernel
theorem dX5_keepAccount_23 : decode cX5_keepAccount 23 = .ok (.iload_n 2, 1) := by decide +kernel
theorem dX5_keepAccount_24 : decode cX5_keepAccount 24 = .ok (.goto 5, 3) := by decide +kernel
theorem dX5_keepAccount_27 : decode cX5_keepAccount 27 = .ok (.bipush (-6), 2) := by decide +kernel
theorem dX5_keepAccount_29 : decode cX5_keepAccount 29 = .ok (.putfield 24, 3) := by decide +kernel
theorem dX5_keepAccount_32 : decode cX5_keepAccount 32 = .ok (.aload_n 0, 1) := by decide +kernel
theorem dX5_keepAccount_33 : decode cX5_keepAccount 33 = .ok (.iload_n 3, 1) := by decide +kernel
theorem dX5_keepAccount_34 : decode cX5_keepAccount 34 = .ok (.ifCond .eq 10, 3) := by decide +kernel
theorem dX5_keepAccount_37 : decode cX5_keepAccount 37 = .ok (.aload_n 1, 1) := by decide +kernel
theorem dX5_keepAccount_38 : decode cX5_keepAccount 38 = .ok (.getfield 52, 3) := by decide +kernel
theorem dX5_keepAccount_41 : decode cX5_keepAccount 41 = .ok (.goto 5, 3) := by decide +kernel
theorem dX5_keepAccount_44 : decode cX5_keepAccount 44 = .ok (.bipush (-6), 2) := by decide +kernel
theorem dX5_keepAccount_46 : decode cX5_keepAccount 46 = .ok (.putfield 28, 3) := by decide +kernel
theorem dX5_keepAccount_49 : decode cX5_keepAccount 49 = .ok (.aload_n 0, 1) := by decide +kernel
theorem dX5_keepAccount_50 : decode cX5_keepAccount 50 = .ok (.getfield 31, 3) := by decide +kernel
theorem dX5_keepAccount_53 : decode cX5_keepAccount 53 = .ok (.iconst 0, 1) := by decide +kernel
theorem dX5_keepAccount_54 : decode cX5_keepAccount 54 = .ok (.aload_n 1, 1) := by decide +kernel
theorem dX5_keepAccount_55 : decode cX5_keepAccount 55 = .ok (.getfield 55, 3) := by decide +kernel
theorem dX5_keepAccount_58 : decode cX5_keepAccount 58 = .ok (.iastore, 1) := by decide +kernel
theorem dX5_keepAccount_59 : decode cX5_keepAccount 59 = .ok (.aload_n 0, 1) := by decide +kernel
theorem dX5_keepAccount_60 : decode cX5_keepAccount 60 = .ok (.getfield 31, 3) := by decide +kernel
theorem dX5_keepAccount_63 : decode cX5_keepAccount 63 = .ok (.iconst 1, 1) := by decide +kernel
theorem dX5_keepAccount_64 : decode cX5_keepAccount 64 = .ok (.aload_n 1, 1) := by decide +kernel
theorem dX5_keepAccount_65 : decode cX5_keepAccount 65 = .ok (.getfield 58, 3) := by decide +kernel
theorem dX5_keepAccount_68 : decode cX5_keepAccount 68 = .ok (.iastore, 1) := by decide +kernel
theorem dX5_keepAccount_69 : decode cX5_keepAccount 69 = .ok (.aload_n 0, 1) := by decide +kernel
theorem dX5_keepAccount_70 : decode cX5_keepAccount 70 = .ok (.getfield 31, 3) := by decide +kernel
theorem dX5_keepAccount_73 : decode cX5_keepAccount 73 = .ok (.iconst 2, 1) := by decide +kernel
theorem dX5_keepAccount_74 : decode cX5_keepAccount 74 = .ok (.aload_n 1, 1) := by decide +kernel
theorem dX5_keepAccount_75 : decode cX5_keepAccount 75 = .ok (.getfield 61, 3) := by decide +kernel
theorem dX5_keepAccount_78 : decode cX5_keepAccount 78 = .ok (.iastore, 1) := by decide +kernel
theorem dX5_keepAccount_79 : decode cX5_keepAccount 79 = .ok (.aload_n 0, 1) := by decide +kernel
theorem dX5_keepAccount_80 : decode cX5_keepAccount 80 = .ok (.getfield 31, 3) := by decide +kernel
theorem dX5_keepAccount_83 : decode cX5_keepAccount 83 = .ok (.iconst 3, 1) := by decide +kernel
theorem dX5_keepAccount_84 : decode cX5_keepAccount 84 = .ok (.aload_n 1, 1) := by decide +kernel
theorem dX5_keepAccount_85 : decode cX5_keepAccount 85 = .ok (.getfield 64, 3) := by decide +kernel
theorem dX5_keepAccount_88 : decode cX5_keepAccount 88 = .ok (.iastore, 1) := by decide +kernel
theorem dX5_keepAccount_89 : decode cX5_keepAccount 89 = .ok (.return_, 1) := by decide +kernel
theorem dX5_sameIn_0 : decode cX5_sameIn 0 = .ok (.aload_n 0, 1) := by decide +kernel
theorem dX5_sameIn_1 : decode cX5_sameIn 1 = .ok (.getfield 9, 3) := by decide +kernel
theorem dX5_sameIn_4 : decode cX5_sameIn 4 = .ok (.iload_n 2, 1) := by decide +kernel
theorem dX5_sameIn_5 : decode cX5_sameIn 5 = .ok (.iaload, 1) := by decide +kernel
theorem dX5_sameIn_6 : decode cX5_sameIn 6 = .ok (.aload_n 1, 1) := by decide +kernel
theorem dX5_sameIn_7 : decode cX5_sameIn 7 = .ok (.getfield 9, 3) := by decide +kernel
theorem dX5_sameIn_10 : decode cX5_sameIn 10 = .ok (.iload_n 2, 1) := by decide +kernel
theorem dX5_sameIn_11 : decode cX5_sameIn 11 = .ok (.iaload, 1) := by decide +kernel
theorem dX5_sameIn_12 : decode cX5_sameIn 12 = .ok (.if_icmp .eq 5, 3) := by decide +kernel
theorem dX5_sameIn_15 : decode cX5_sameIn 15 = .ok (.iconst 0, 1) := by decide +kernel
theorem dX5_sameIn_16 : decode cX5_sameIn 16 = .ok (.ireturn, 1) := by decide +kernel
theorem dX5_sameIn_17 : decode cX5_sameIn 17 = .ok (.iload_n 2, 1) := by decide +kernel
theorem dX5_sameIn_18 : decode cX5_sameIn 18 = .ok (.bipush 10, 2) := by decide +kernel
theorem dX5_sameIn_20 : decode cX5_sameIn 20 = .ok (.imul, 1) := by decide +kernel
theorem dX5_sameIn_21 : decode cX5_sameIn 21 = .ok (.istore_n 3, 1) := by decide +kernel
theorem dX5_sameIn_22 : decode cX5_sameIn 22 = .ok (.iload_n 3, 1) := by decide +kernel
theorem dX5_sameIn_23 : decode cX5_sameIn 23 = .ok (.iload_n 2, 1) := by decide +kernel
theorem dX5_sameIn_24 : decode cX5_sameIn 24 = .ok (.iconst 1, 1) := by decide +kernel
theorem dX5_sameIn_25 : decode cX5_sameIn 25 = .ok (.iadd, 1) := by decide +kernel
theorem dX5_sameIn_26 : decode cX5_sameIn 26 = .ok (.bipush 10, 2) := by decide +kernel
theorem dX5_sameIn_28 : decode cX5_sameIn 28 = .ok (.imul, 1) := by decide +kernel
theorem dX5_sameIn_29 : decode cX5_sameIn 29 = .ok (.if_icmp .ge 26, 3) := by decide +kernel
theorem dX5_sameIn_32 : decode cX5_sameIn 32 = .ok (.aload_n 0, 1) := by decide +kernel
theorem dX5_sameIn_33 : decode cX5_sameIn 33 = .ok (.getfield 15, 3) := by decide +kernel
theorem dX5_sameIn_36 : decode cX5_sameIn 36 = .ok (.iload_n 3, 1) := by decide +kernel
theorem dX5_sameIn_37 : decode cX5_sameIn 37 = .ok (.iaload, 1) := by decide +kernel
theorem dX5_sameIn_38 : decode cX5_sameIn 38 = .ok (.aload_n 1, 1) := by decide +kernel
theorem dX5_sameIn_39 : decode cX5_sameIn 39 = .ok (.getfield 15, 3) := by decide +kernel
theorem dX5_sameIn_42 : decode cX5_sameIn 42 = .ok (.iload_n 3, 1) := by decide +kernel
theorem dX5_sameIn_43 : decode cX5_sameIn 43 = .ok (.iaload, 1) := by decide +kernel
theorem dX5_sameIn_44 : decode cX5_sameIn 44 = .ok (.if_icmp .eq 5, 3) := by decide +kernel
theorem dX5_sameIn_47 : decode cX5_sameIn 47 = .ok (.iconst 0, 1) := by decide +kernel
theorem dX5_sameIn_48 : decode cX5_sameIn 48 = .ok (.ireturn, 1) := by decide +kernel
theorem dX5_sameIn_49 : decode cX5_sameIn 49 = .ok (.iinc 3 1, 3) := by decide +kernel
theorem dX5_sameIn_52 : decode cX5_sameIn 52 = .ok (.goto (-30), 3) := by decide +kernel
theorem dX5_sameIn_55 : decode cX5_sameIn 55 = .ok (.iconst 1, 1) := by decide +kernel
theorem dX5_sameIn_56 : decode cX5_sameIn 56 = .ok (.ireturn, 1) := by decide +kernel
theorem dX6_init_0 : decode cX6_init 0 = .ok (.aload_n 0, 1) := by decide +kernel
theorem dX6_init_1 : decode cX6_init 1 = .ok (.invokespecial 1, 3) := by decide +kernel
theorem dX6_init_4 : decode cX6_init 4 = .ok (.aload_n 0, 1) := by decide +kernel
theorem dX6_init_5 : decode cX6_init 5 = .ok (.new 7, 3) := by decide +kernel
theorem dX6_init_8 : decode cX6_init 8 = .ok (.dup, 1) := by decide +kernel
theorem dX6_init_9 : decode cX6_init 9 = .ok (.invokespecial 9, 3) := by decide +kernel
theorem dX6_init_12 : decode cX6_init 12 = .ok (.putfield 10, 3) := by decide +kernel
theorem dX6_init_15 : decode cX6_init 15 = .ok (.aload_n 0, 1) := by decide +kernel
theorem dX6_init_16 : decode cX6_init 16 = .ok (.bipush 12, 2) := by decide +kernel
theorem dX6_init_18 : decode cX6_init 18 = .ok (.anewarray 16, 3) := by decide +kernel
theorem dX6_init_21 : decode cX6_init 21 = .ok (.putfield 18, 3) := by decide +kernel
theorem dX6_init_24 : decode cX6_init 24 = .ok (.aload_n 0, 1) := by decide +kernel
theorem dX6_init_25 : decode cX6_init 25 = .ok (.iconst 0, 1) := by decide +kernel
theorem dX6_init_26 : decode cX6_init 26 = .ok (.putfield 22, 3) := by decide +kernel
theorem dX6_init_29 : decode cX6_init 29 = .ok (.aload_n 0, 1) := by decide +kernel
theorem dX6_init_30 : decode cX6_init 30 = .ok (.new 16, 3) := by decide +kernel
theorem dX6_init_33 : decode cX6_init 33 = .ok (.dup, 1) := by decide +kernel
theorem dX6_init_34 : decode cX6_init 34 = .ok (.invokespecial 26, 3) := by decide +kernel
theorem dX6_init_37 : decode cX6_init 37 = .ok (.putfield 27, 3) := by decide +kernel
theorem dX6_init_40 : decode cX6_init 40 = .ok (.return_, 1) := by decide +kernel
theorem dX6_cls_0 : decode cX6_cls 0 = .ok (.iload_n 1, 1) := by decide +kernel
theorem dX6_cls_1 : decode cX6_cls 1 = .ok (.iconst (-1), 1) := by decide +kernel
theorem dX6_cls_2 : decode cX6_cls 2 = .ok (.if_icmp .eq 16, 3) := by decide +kernel
theorem dX6_cls_5 : decode cX6_cls 5 = .ok (.aload_n 0, 1) := by decide +kernel
theorem dX6_cls_6 : decode cX6_cls 6 = .ok (.getfield 10, 3) := by decide +kernel
theorem dX6_cls_9 : decode cX6_cls 9 = .ok (.iload_n 1, 1) := by decide +kernel
theorem dX6_cls_10 : decode cX6_cls 10 = .ok (.invokevirtual 31, 3) := by decide +kernel
theorem dX6_cls_13 : decode cX6_cls 13 = .ok (.ifCond .ne 5, 3) := by decide +kernel
theorem dX6_cls_16 : decode cX6_cls 16 = .ok (.iconst (-1), 1) := by decide +kernel
theorem dX6_cls_17 : decode cX6_cls 17 = .ok (.ireturn, 1) := by decide +kernel
theorem dX6_cls_18 : decode cX6_cls 18 = .ok (.iload_n 1, 1) := by decide +kernel
theorem dX6_cls_19 : decode cX6_cls 19 = .ok (.iconst (-1), 1) := by decide +kernel
theorem dX6_cls_20 : decode cX6_cls 20 = .ok (.if_icmp .eq 21, 3) := by decide +kernel
theorem dX6_cls_23 : decode cX6_cls 23 = .ok (.aload_n 0, 1) := by decide +kernel
theorem dX6_cls_24 : decode cX6_cls 24 = .ok (.getfield 10, 3) := by decide +kernel
theorem dX6_cls_27 : decode cX6_cls 27 = .ok (.getfield 35, 3) := by decide +kernel
theorem dX6_cls_30 : decode cX6_cls 30 = .ok (.iload_n 1, 1) := by decide +kernel
theorem dX6_cls_31 : decode cX6_cls 31 = .ok (.aaload, 1) := by decide +kernel
theorem dX6_cls_32 : decode cX6_cls 32 = .ok (.getfield 39, 3) := by decide +kernel
theorem dX6_cls_35 : decode cX6_cls 35 = .ok (.ifCond .eq 6, 3) := by decide +kernel
theorem dX6_cls_38 : decode cX6_cls 38 = .ok (.bipush (-2), 2) := by decide +kernel
theorem dX6_cls_40 : decode cX6_cls 40 = .ok (.ireturn, 1) := by decide +kernel
theorem dX6_cls_41 : decode cX6_cls 41 = .ok (.aload_n 0, 1) := by decide +kernel
theorem dX6_cls_42 : decode cX6_cls 42 = .ok (.iconst 0, 1) := by decide +kernel
theorem dX6_cls_43 : decode cX6_cls 43 = .ok (.iload_n 2, 1) := by decide +kernel
theorem dX6_cls_44 : decode cX6_cls 44 = .ok (.iload_n 1, 1) := by decide +kernel
theorem dX6_cls_45 : decode cX6_cls 45 = .ok (.iconst (-1), 1) := by decide +kernel
theorem dX6_cls_46 : decode cX6_cls 46 = .ok (.if_icmp .ne 8, 3) := by decide +kernel
theorem dX6_cls_49 : decode cX6_cls 49 = .ok (.bipush (-6), 2) := by decide +kernel
theorem dX6_cls_51 : decode cX6_cls 51 = .ok (.goto 4, 3) := by decide +kernel
theorem dX6_cls_54 : decode cX6_cls 54 = .ok (.iload_n 1, 1) := by decide +kernel
theorem dX6_cls_55 : decode cX6_cls 55 = .ok (.invokevirtual 45, 3) := by decide +kernel
theorem dX6_cls_58 : decode cX6_cls 58 = .ok (.ireturn, 1) := by decide +kernel
theorem dX6_face_0 : decode cX6_face 0 = .ok (.aload_n 0, 1) := by decide +kernel
theorem dX6_face_1 : decode cX6_face 1 = .ok (.iconst 1, 1) := by decide +kernel
theorem dX6_face_2 : decode cX6_face 2 = .ok (.iload_n 1, 1) := by decide +kernel
theorem dX6_face_3 : decode cX6_face 3 = .ok (.bipush (-6), 2) := by decide +kernel
theorem dX6_face_5 : decode cX6_face 5 = .ok (.invokevirtual 45, 3) := by decide +kernel
theorem dX6_face_8 : decode cX6_face 8 = .ok (.ireturn, 1) := by decide +kernel
theorem dX6_addType_0 : decode cX6_addType 0 = .ok (.aload_n 0, 1) := by decide +kernel
theorem dX6_addType_1 : decode cX6_addType 1 = .ok (.getfield 22, 3) := by decide +kernel
theorem dX6_addType_4 : decode cX6_addType 4 = .ok (.ifCond .le 6, 3) := by decide +kernel
theorem dX6_addType_7 : decode cX6_addType 7 = .ok (.bipush (-3), 2) := by decide +kernel
theorem dX6_addType_9 : decode cX6_addType 9 = .ok (.ireturn, 1) := by decide +kernel
theorem dX6_addType_10 : decode cX6_addType 10 = .ok (.aload_n 0, 1) := by decide +kernel
theorem dX6_addType_11 : decode cX6_addType 11 = .ok (.getfield 10, 3) := by decide +kernel
theorem dX6_addType_14 : decode cX6_addType 14 = .ok (.getfield 49, 3) := by decide +kernel
theorem dX6_addType_17 : decode cX6_addType 17 = .ok (.bipush 40, 2) := by decide +kernel
theorem dX6_addType_19 : decode cX6_addType 19 = .ok (.if_icmp .lt 8, 3) := by decide +kernel
theorem dX6_addType_22 : decode cX6_addType 22 = .ok (.bipush (-4), 2) := by decide +kernel
theorem dX6_addType_24 : decode cX6_addType 24 = .ok (.goto 20, 3) := by decide +kernel
theorem dX6_addType_27 : decode cX6_addType 27 = .ok (.aload_n 0, 1) := by decide +kernel
theorem dX6_addType_28 : decode cX6_addType 28 = .ok (.getfield 10, 3) := by decide +kernel
theorem dX6_addType_31 : decode cX6_addType 31 = .ok (.new 40, 3) := by decide +kernel
theorem dX6_addType_34 : decode cX6_addType 34 = .ok (.dup, 1) := by decide +kernel
theorem dX6_addType_35 : decode cX6_addType 35 = .ok (.iload_n 1, 1) := by decide +kernel
theorem dX6_addType_36 : decode cX6_addType 36 = .ok (.iload_n 2, 1) := by decide +kernel
theorem dX6_addType_37 : decode cX6_addType 37 = .ok (.iload_n 3, 1) := by decide +kernel
theorem dX6_addType_38 : decode cX6_addType 38 = .ok (.invokespecial 52, 3) := by decide +kernel
theorem dX6_addType_41 : decode cX6_addType 41 = .ok (.invokevirtual 55, 3) := by decide +kernel
theorem dX6_addType_44 : decode cX6_addType 44 = .ok (.ireturn, 1) := by decide +kernel
theorem dX6_under_0 : decode cX6_under 0 = .ok (.aload_n 0, 1) := by decide +kernel
theorem dX6_under_1 : decode cX6_under 1 = .ok (.getfield 10, 3) := by decide +kernel
theorem dX6_under_4 : decode cX6_under 4 = .ok (.iload_n 1, 1) := by decide +kernel
theorem dX6_under_5 : decode cX6_under 5 = .ok (.invokevirtual 31, 3) := by decide +kernel
theorem dX6_under_8 : decode cX6_under 8 = .ok (.ifCond .eq 14, 3) := by decide +kernel
theorem dX6_under_11 : decode cX6_under 11 = .ok (.aload_n 0, 1) := by decide +kernel
theorem dX6_under_12 : decode cX6_under 12 = .ok (.getfield 10, 3) := by decide +kernel
theorem dX6_under_15 : decode cX6_under 15 = .ok (.iload_n 2, 1) := by decide +kernel
theorem dX6_under_16 : decode cX6_under 16 = .ok (.invokevirtual 31, 3) := by decide +kernel
theorem dX6_under_19 : decode cX6_under 19 = .ok (.ifCond .ne 5, 3) := by decide +kernel
theorem dX6_under_22 : decode cX6_under 22 = .ok (.iconst (-1), 1) := by decide +kernel
theorem dX6_under_23 : decode cX6_under 23 = .ok (.ireturn, 1) := by decide +kernel
theorem dX6_under_24 : decode cX6_under 24 = .ok (.aload_n 0, 1) := by decide +kernel
theorem dX6_under_25 : decode cX6_under 25 = .ok (.getfield 10, 3) := by decide +kernel
theorem dX6_under_28 : decode cX6_under 28 = .ok (.getfield 35, 3) := by decide +kernel
theorem dX6_under_31 : decode cX6_under 31 = .ok (.iload_n 2, 1) := by decide +kernel
theorem dX6_under_32 : decode cX6_under 32 = .ok (.aaload, 1) := by decide +kernel
theorem dX6_under_33 : decode cX6_under 33 = .ok (.getfield 39, 3) := by decide +kernel
theorem dX6_under_36 : decode cX6_under 36 = .ok (.ifCond .ne 6, 3) := by decide +kernel
theorem dX6_under_39 : decode cX6_under 39 = .ok (.bipush (-2), 2) := by decide +kernel
theorem dX6_under_41 : decode cX6_under 41 = .ok (.ireturn, 1) := by decide +kernel
theorem dX6_under_42 : decode cX6_under 42 = .ok (.aload_n 0, 1) := by decide +kernel
theorem dX6_under_43 : decode cX6_under 43 = .ok (.getfield 22, 3) := by decide +kernel
theorem dX6_under_46 : decode cX6_under 46 = .ok (.ifCond .le 6, 3) := by decide +kernel
theorem dX6_under_49 : decode cX6_under 49 = .ok (.bipush (-3), 2) := by decide +kernel
theorem dX6_under_51 : decode cX6_under 51 = .ok (.ireturn, 1) := by decide +kernel
theorem dX6_under_52 : decode cX6_under 52 = .ok (.aload_n 0, 1) := by decide +kernel
theorem dX6_under_53 : decode cX6_under 53 = .ok (.getfield 10, 3) := by decide +kernel
theorem dX6_under_56 : decode cX6_under 56 = .ok (.getfield 35, 3) := by decide +kernel
theorem dX6_under_59 : decode cX6_under 59 = .ok (.iload_n 1, 1) := by decide +kernel
theorem dX6_under_60 : decode cX6_under 60 = .ok (.aaload, 1) := by decide +kernel
theorem dX6_under_61 : decode cX6_under 61 = .ok (.astore_n 3, 1) := by decide +kernel
theorem dX6_under_62 : decode cX6_under 62 = .ok (.aload_n 3, 1) := by decide +kernel
theorem dX6_under_63 : decode cX6_under 63 = .ok (.getfield 59, 3) := by decide +kernel
theorem dX6_under_66 : decode cX6_under 66 = .ok (.iconst 4, 1) := by decide +kernel
theorem dX6_under_67 : decode cX6_under 67 = .ok (.if_icmp .lt 6, 3) := by decide +kernel
theorem dX6_under_70 : decode cX6_under 70 = .ok (.bipush (-4), 2) := by decide +kernel
theorem dX6_under_72 : decode cX6_under 72 = .ok (.ireturn, 1) := by decide +kernel
theorem dX6_under_73 : decode cX6_under 73 = .ok (.aload_n 3, 1) := by decide +kernel
theorem dX6_under_74 : decode cX6_under 74 = .ok (.iload_n 2, 1) := by decide +kernel
theorem dX6_under_75 : decode cX6_under 75 = .ok (.invokevirtual 62, 3) := by decide +kernel
theorem dX6_under_78 : decode cX6_under 78 = .ok (.ifCond .ne 20, 3) := by decide +kernel
theorem dX6_under_81 : decode cX6_under 81 = .ok (.iload_n 2, 1) := by decide +kernel
theorem dX6_under_82 : decode cX6_under 82 = .ok (.iload_n 1, 1) := by decide +kernel
theorem dX6_under_83 : decode cX6_under 83 = .ok (.if_icmp .eq 15, 3) := by decide +kernel
theorem dX6_under_86 : decode cX6_under 86 = .ok (.aload_n 0, 1) := by decide +kernel
theorem dX6_under_87 : decode cX6_under 87 = .ok (.getfield 10, 3) := by decide +kernel
theorem dX6_under_90 : decode cX6_under 90 = .ok (.iload_n 2, 1) := by decide +kernel
theorem dX6_under_91 : decode cX6_under 91 = .ok (.iload_n 1, 1) := by decide +kernel
theorem dX6_under_92 : decode cX6_under 92 = .ok (.invokevirtual 65, 3) := by decide +kernel
theorem dX6_under_95 : decode cX6_under 95 = .ok (.ifCond .eq 6, 3) := by decide +kernel
theorem dX6_under_98 : decode cX6_under 98 = .ok (.bipush (-5), 2) := by decide +kernel
theorem dX6_under_100 : decode cX6_under 100 = .ok (.ireturn, 1) := by decide +kernel
theorem dX6_under_101 : decode cX6_under 101 = .ok (.aload_n 0, 1) := by decide +kernel
theorem dX6_under_102 : decode cX6_under 102 = .ok (.getfield 10, 3) := by decide +kernel
theorem dX6_under_105 : decode cX6_under 105 = .ok (.iload_n 1, 1) := by decide +kernel
theorem dX6_under_106 : decode cX6_under 106 = .ok (.iload_n 2, 1) := by decide +kernel
theorem dX6_under_107 : decode cX6_under 107 = .ok (.invokevirtual 69, 3) := by decide +kernel
theorem dX6_under_110 : decode cX6_under 110 = .ok (.aload_n 3, 1) := by decide +kernel
theorem dX6_under_111 : decode cX6_under 111 = .ok (.getfield 59, 3) := by decide +kernel
theorem dX6_under_114 : decode cX6_under 114 = .ok (.ireturn, 1) := by decide +kernel
theorem dX6_field_0 : decode cX6_field 0 = .ok (.aload_n 0, 1) := by decide +kernel
theorem dX6_field_1 : decode cX6_field 1 = .ok (.iload_n 1, 1) := by decide +kernel
theorem dX6_field_2 : decode cX6_field 2 = .ok (.iload_n 2, 1) := by decide +kernel
theorem dX6_field_3 : decode cX6_field 3 = .ok (.invokevirtual 73, 3) := by decide +kernel
theorem dX6_field_6 : decode cX6_field 6 = .ok (.istore 5, 2) := by decide +kernel
theorem dX6_field_8 : decode cX6_field 8 = .ok (.iload 5, 2) := by decide +kernel
theorem dX6_field_10 : decode cX6_field 10 = .ok (.ifCond .eq 6, 3) := by decide +kernel
theorem dX6_field_13 : decode cX6_field 13 = .ok (.iload 5, 2) := by decide +kernel
theorem dX6_field_15 : decode cX6_field 15 = .ok (.ireturn, 1) := by decide +kernel
theorem dX6_field_16 : decode cX6_field 16 = .ok (.aload_n 0, 1) := by decide +kernel
theorem dX6_field_17 : decode cX6_field 17 = .ok (.getfield 10, 3) := by decide +kernel
theorem dX6_field_20 : decode cX6_field 20 = .ok (.getfield 35, 3) := by decide +kernel
theorem dX6_field_23 : decode cX6_field 23 = .ok (.iload_n 1, 1) := by decide +kernel
theorem dX6_field_24 : decode cX6_field 24 = .ok (.aaload, 1) := by decide +kernel
theorem dX6_field_25 : decode cX6_field 25 = .ok (.astore 6, 2) := by decide +kernel
theorem dX6_field_27 : decode cX6_field 27 = .ok (.aload 6, 2) := by decide +kernel
theorem dX6_field_29 : decode cX6_field 29 = .ok (.getfield 77, 3) := by decide +kernel
theorem dX6_field_32 : decode cX6_field 32 = .ok (.bipush 6, 2) := by decide +kernel
theorem dX6_field_34 : decode cX6_field 34 = .ok (.if_icmp .lt 6, 3) := by decide +kernel
theorem dX6_field_37 : decode cX6_field 37 = .ok (.bipush (-4), 2) := by decide +kernel
theorem dX6_field_39 : decode cX6_field 39 = .ok (.ireturn, 1) := by decide +kernel
theorem dX6_field_40 : decode cX6_field 40 = .ok (.aload 6, 2) := by decide +kernel
theorem dX6_field_42 : decode cX6_field 42 = .ok (.getfield 80, 3) := by decide +kernel
theorem dX6_field_45 : decode cX6_field 45 = .ok (.iload_n 2, 1) := by decide +kernel
theorem dX6_field_46 : decode cX6_field 46 = .ok (.iaload, 1) := by decide +kernel
theorem dX6_field_47 : decode cX6_field 47 = .ok (.ifCond .eq 6, 3) := by decide +kernel
theorem dX6_field_50 : decode cX6_field 50 = .ok (.bipush (-5), 2) := by decide +kernel
theorem dX6_field_52 : decode cX6_field 52 = .ok (.ireturn, 1) := by decide +kernel
theorem dX6_field_53 : decode cX6_field 53 = .ok (.aload 6, 2) := by decide +kernel
theorem dX6_field_55 : decode cX6_field 55 = .ok (.iload_n 2, 1) := by decide +kernel
theorem dX6_field_56 : decode cX6_field 56 = .ok (.iload_n 3, 1) := by decide +kernel
theorem dX6_field_57 : decode cX6_field 57 = .ok (.iload 4, 2) := by decide +kernel
theorem dX6_field_59 : decode cX6_field 59 = .ok (.invokevirtual 84, 3) := by decide +kernel
theorem dX6_field_62 : decode cX6_field 62 = .ok (.aload_n 0, 1) := by decide +kernel
theorem dX6_field_63 : decode cX6_field 63 = .ok (.getfield 10, 3) := by decide +kernel
theorem dX6_field_66 : decode cX6_field 66 = .ok (.invokevirtual 88, 3) := by decide +kernel
theorem dX6_field_69 : decode cX6_field 69 = .ok (.aload 6, 2) := by decide +kernel
theorem dX6_field_71 : decode cX6_field 71 = .ok (.getfield 77, 3) := by decide +kernel
theorem dX6_field_74 : decode cX6_field 74 = .ok (.ireturn, 1) := by decide +kernel
theorem dX6_method_0 : decode cX6_method 0 = .ok (.aload_n 0, 1) := by decide +kernel
theorem dX6_method_1 : decode cX6_method 1 = .ok (.iload_n 1, 1) := by decide +kernel
theorem dX6_method_2 : decode cX6_method 2 = .ok (.iload_n 2, 1) := by decide +kernel
theorem dX6_method_3 : decode cX6_method 3 = .ok (.invokevirtual 73, 3) := by decide +kernel
theorem dX6_method_6 : decode cX6_method 6 = .ok (.istore_n 3, 1) := by decide +kernel
theorem dX6_method_7 : decode cX6_method 7 = .ok (.iload_n 3, 1) := by decide +kernel
theorem dX6_method_8 : decode cX6_method 8 = .ok (.ifCond .eq 5, 3) := by decide +kernel
theorem dX6_method_11 : decode cX6_method 11 = .ok (.iload_n 3, 1) := by decide +kernel
theorem dX6_method_12 : decode cX6_method 12 = .ok (.ireturn, 1) := by decide +kernel
theorem dX6_method_13 : decode cX6_method 13 = .ok (.aload_n 0, 1) := by decide +kernel
theorem dX6_method_14 : decode cX6_method 14 = .ok (.getfield 10, 3) := by decide +kernel
theorem dX6_method_17 : decode cX6_method 17 = .ok (.getfield 35, 3) := by decide +kernel
theorem dX6_method_20 : decode cX6_method 20 = .ok (.iload_n 1, 1) := by decide +kernel
theorem dX6_method_21 : decode cX6_method 21 = .ok (.aaload, 1) := by decide +kernel
theorem dX6_method_22 : decode cX6_method 22 = .ok (.astore 4, 2) := by decide +kernel
theorem dX6_method_24 : decode cX6_method 24 = .ok (.aload 4, 2) := by decide +kernel
theorem dX6_method_26 : decode cX6_method 26 = .ok (.getfield 91, 3) := by decide +kernel
theorem dX6_method_29 : decode cX6_method 29 = .ok (.iconst 4, 1) := by decide +kernel
theorem dX6_method_30 : decode cX6_method 30 = .ok (.if_icmp .lt 6, 3) := by decide +kernel
theorem dX6_method_33 : decode cX6_method 33 = .ok (.bipush (-4), 2) := by decide +kernel
theorem dX6_method_35 : decode cX6_method 35 = .ok (.ireturn, 1) := by decide +kernel
theorem dX6_method_36 : decode cX6_method 36 = .ok (.aload 4, 2) := by decide +kernel
theorem dX6_method_38 : decode cX6_method 38 = .ok (.getfield 94, 3) := by decide +kernel
theorem dX6_method_41 : decode cX6_method 41 = .ok (.iload_n 2, 1) := by decide +kernel
theorem dX6_method_42 : decode cX6_method 42 = .ok (.aaload, 1) := by decide +kernel
theorem dX6_method_43 : decode cX6_method 43 = .ok (.ifnull 6, 3) := by decide +kernel
theorem dX6_method_46 : decode cX6_method 46 = .ok (.bipush (-5), 2) := by decide +kernel
theorem dX6_method_48 : decode cX6_method 48 = .ok (.ireturn, 1) := by decide +kernel
theorem dX6_method_49 : decode cX6_method 49 = .ok (.aload 4, 2) := by decide +kernel
theorem dX6_method_51 : decode cX6_method 51 = .ok (.iload_n 2, 1) := by decide +kernel
theorem dX6_method_52 : decode cX6_method 52 = .ok (.invokevirtual 98, 3) := by decide +kernel
theorem dX6_method_55 : decode cX6_method 55 = .ok (.aload 4, 2) := by decide +kernel
theorem dX6_method_57 : decode cX6_method 57 = .ok (.getfield 91, 3) := by decide +kernel
theorem dX6_method_60 : decode cX6_method 60 = .ok (.ireturn, 1) := by decide +kernel
theorem dX6_refusalOfMember_0 : decode cX6_refusalOfMember 0 = .ok (.aload_n 0, 1) := by decide +kernel
theorem dX6_refusalOfMember_1 : decode cX6_refusalOfMember 1 = .ok (.getfield 10, 3) := by decide +kernel
theorem dX6_refusalOfMember_4 : decode cX6_refusalOfMember 4 = .ok (.iload_n 1, 1) := by decide +kernel
theorem dX6_refusalOfMember_5 : decode cX6_refusalOfMember 5 = .ok (.invokevirtual 31, 3) := by decide +kernel
theorem dX6_refusalOfMember_8 : decode cX6_refusalOfMember 8 = .ok (.ifCond .ne 5, 3) := by decide +kernel
theorem dX6_refusalOfMember_11 : decode cX6_refusalOfMember 11 = .ok (.iconst (-1), 1) := by decide +kernel
theorem dX6_refusalOfMember_12 : decode cX6_refusalOfMember 12 = .ok (.ireturn, 1) := by decide +kernel
theorem dX6_refusalOfMember_13 : decode cX6_refusalOfMember 13 = .ok (.iload_n 2, 1) := by decide +kernel
theorem dX6_refusalOfMember_14 : decode cX6_refusalOfMember 14 = .ok (.invokestatic 102, 3) := by decide +kernel
theorem dX6_refusalOfMember_17 : decode cX6_refusalOfMember 17 = .ok (.ifCond .ne 6, 3) := by decide +kernel
theorem dX6_refusalOfMember_20 : decode cX6_refusalOfMember 20 = .ok (.bipush (-2), 2) := by decide +kernel
theorem dX6_refusalOfMember_22 : decode cX6_refusalOfMember 22 = .ok (.ireturn, 1) := by decide +kernel
theorem dX6_refusalOfMember_23 : decode cX6_refusalOfMember 23 = .ok (.aload_n 0, 1) := by decide +kernel
theorem dX6_refusalOfMember_24 : decode cX6_refusalOfMember 24 = .ok (.getfield 22, 3) := by decide +kernel
theorem dX6_refusalOfMember_27 : decode cX6_refusalOfMember 27 = .ok (.ifCond .le 8, 3) := by decide +kernel
theorem dX6_refusalOfMember_30 : decode cX6_refusalOfMember 30 = .ok (.bipush (-3), 2) := by decide +kernel
theorem dX6_refusalOfMember_32 : decode cX6_refusalOfMember 32 = .ok (.goto 4, 3) := by decide +kernel
theorem dX6_refusalOfMember_35 : decode cX6_refusalOfMember 35 = .ok (.iconst 0, 1) := by decide +kernel
theorem dX6_refusalOfMember_36 : decode cX6_refusalOfMember 36 = .ok (.ireturn, 1) := by decide +kernel
theorem dX6_act_0 : decode cX6_act 0 = .ok (.aload_n 0, 1) := by decide +kernel
theorem dX6_act_1 : decode cX6_act 1 = .ok (.getfield 10, 3) := by decide +kernel
theorem dX6_act_4 : decode cX6_act 4 = .ok (.iload_n 1, 1) := by decide +kernel
theorem dX6_act_5 : decode cX6_act 5 = .ok (.invokevirtual 31, 3) := by decide +kernel
theorem dX6_act_8 : decode cX6_act 8 = .ok (.ifCond .eq 22, 3) := by decide +kernel
theorem dX6_act_11 : decode cX6_act 11 = .ok (.iload_n 3, 1) := by decide +kernel
theorem dX6_act_12 : decode cX6_act 12 = .ok (.invokestatic 105, 3) := by decide +kernel
theorem dX6_act_15 : decode cX6_act 15 = .ok (.ifCond .eq 17, 3) := by decide +kernel
theorem dX6_act_18 : decode cX6_act 18 = .ok (.aload_n 0, 1) := by decide +kernel
theorem dX6_act_19 : decode cX6_act 19 = .ok (.getfield 10, 3) := by decide +kernel
theorem dX6_act_22 : decode cX6_act 22 = .ok (.iload 4, 2) := by decide +kernel
theorem dX6_act_24 : decode cX6_act 24 = .ok (.invokevirtual 31, 3) := by decide +kernel
theorem dX6_act_27 : decode cX6_act 27 = .ok (.ifCond .ne 5, 3) := by decide +kernel
theorem dX6_act_30 : decode cX6_act 30 = .ok (.iconst (-1), 1) := by decide +kernel
theorem dX6_act_31 : decode cX6_act 31 = .ok (.ireturn, 1) := by decide +kernel
theorem dX6_act_32 : decode cX6_act 32 = .ok (.iload_n 3, 1) := by decide +kernel
theorem dX6_act_33 : decode cX6_act 33 = .ok (.ifCond .lt 33, 3) := by decide +kernel
theorem dX6_act_36 : decode cX6_act 36 = .ok (.iload_n 3, 1) := by decide +kernel
theorem dX6_act_37 : decode cX6_act 37 = .ok (.bipush 8, 2) := by decide +kernel
theorem dX6_act_39 : decode cX6_act 39 = .ok (.if_icmp .gt 27, 3) := by decide +kernel
theorem dX6_act_42 : decode cX6_act 42 = .ok (.iload_n 3, 1) := by decide +kernel
theorem dX6_act_43 : decode cX6_act 43 = .ok (.invokestatic 108, 3) := by decide +kernel
theorem dX6_act_46 : decode cX6_act 46 = .ok (.ifCond .eq 11, 3) := by decide +kernel
theorem dX6_act_49 : decode cX6_act 49 = .ok (.iload 5, 2) := by decide +kernel
theorem dX6_act_51 : decode cX6_act 51 = .ok (.invokestatic 102, 3) := by decide +kernel
theorem dX6_act_54 : decode cX6_act 54 = .ok (.ifCond .eq 12, 3) := by decide +kernel
theorem dX6_act_57 : decode cX6_act 57 = .ok (.iload_n 3, 1) := by decide +kernel
theorem dX6_act_58 : decode cX6_act 58 = .ok (.iload 6, 2) := by decide +kernel
theorem dX6_act_60 : decode cX6_act 60 = .ok (.invokestatic 111, 3) := by decide +kernel
theorem dX6_act_63 : decode cX6_act 63 = .ok (.ifCond .ne 6, 3) := by decide +kernel
theorem dX6_act_66 : decode cX6_act 66 = .ok (.bipush (-2), 2) := by decide +kernel
theorem dX6_act_68 : decode cX6_act 68 = .ok (.ireturn, 1) := by decide +kernel
theorem dX6_act_69 : decode cX6_act 69 = .ok (.aload_n 0, 1) := by decide +kernel
theorem dX6_act_70 : decode cX6_act 70 = .ok (.getfield 22, 3) := by decide +kernel
theorem dX6_act_73 : decode cX6_act 73 = .ok (.ifCond .le 6, 3) := by decide +kernel
theorem dX6_act_76 : decode cX6_act 76 = .ok (.bipush (-3), 2) := by decide +kernel
theorem dX6_act_78 : decode cX6_act 78 = .ok (.ireturn, 1) := by decide +kernel
theorem dX6_act_79 : decode cX6_act 79 = .ok (.aload_n 0, 1) := by decide +kernel
theorem dX6_act_80 : decode cX6_act 80 = .ok (.getfield 10, 3) := by decide +kernel
theorem dX6_act_83 : decode cX6_act 83 = .ok (.getfield 35, 3) := by decide +kernel
theorem dX6_act_86 : decode cX6_act 86 = .ok (.iload_n 1, 1) := by decide +kernel
theorem dX6_act_87 : decode cX6_act 87 = .ok (.aaload, 1) := by decide +kernel
theorem dX6_act_88 : decode cX6_act 88 = .ok (.iload_n 2, 1) := by decide +kernel
theorem dX6_act_89 : decode cX6_act 89 = .ok (.invokevirtual 114, 3) := by decide +kernel
theorem dX6_act_92 : decode cX6_act 92 = .ok (.astore 7, 2) := by decide +kernel
theorem dX6_act_94 : decode cX6_act 94 = .ok (.aload 7, 2) := by decide +kernel
theorem dX6_act_96 : decode cX6_act 96 = .ok (.ifnonnull 6, 3) := by decide +kernel
theorem dX6_act_99 : decode cX6_act 99 = .ok (.bipush (-5), 2) := by decide +kernel
theorem dX6_act_101 : decode cX6_act 101 = .ok (.ireturn, 1) := by decide +kernel
theorem dX6_act_102 : decode cX6_act 102 = .ok (.aload 7, 2) := by decide +kernel
theorem dX6_act_104 : decode cX6_act 104 = .ok (.getfield 118, 3) := by decide +kernel
theorem dX6_act_107 : decode cX6_act 107 = .ok (.bipush 12, 2) := by decide +kernel
theorem dX6_act_109 : decode cX6_act 109 = .ok (.if_icmp .lt 8, 3) := by decide +kernel
theorem dX6_act_112 : decode cX6_act 112 = .ok (.bipush (-4), 2) := by decide +kernel
theorem dX6_act_114 : decode cX6_act 114 = .ok (.goto 22, 3) := by decide +kernel
theorem dX6_act_117 : decode cX6_act 117 = .ok (.aload 7, 2) := by decide +kernel
theorem dX6_act_119 : decode cX6_act 119 = .ok (.new 123, 3) := by decide +kernel
theorem dX6_act_122 : decode cX6_act 122 = .ok (.dup, 1) := by decide +kernel
theorem dX6_act_123 : decode cX6_act 123 = .ok (.iload_n 3, 1) := by decide +kernel
theorem dX6_act_124 : decode cX6_act 124 = .ok (.iload 4, 2) := by decide +kernel
theorem dX6_act_126 : decode cX6_act 126 = .ok (.iload 5, 2) := by decide +kernel
theorem dX6_act_128 : decode cX6_act 128 = .ok (.iload 6, 2) := by decide +kernel
theorem dX6_act_130 : decode cX6_act 130 = .ok (.invokespecial 125, 3) := by decide +kernel
theorem dX6_act_133 : decode cX6_act 133 = .ok (.invokevirtual 128, 3) := by decide +kernel
theorem dX6_act_136 : decode cX6_act 136 = .ok (.ireturn, 1) := by decide +kernel
theorem dX6_told_0 : decode cX6_told 0 = .ok (.iload_n 2, 1) := by decide +kernel
theorem dX6_told_1 : decode cX6_told 1 = .ok (.ifCond .lt 9, 3) := by decide +kernel
theorem dX6_told_4 : decode cX6_told 4 = .ok (.iload_n 2, 1) := by decide +kernel
theorem dX6_told_5 : decode cX6_told 5 = .ok (.bipush 9, 2) := by decide +kernel
theorem dX6_told_7 : decode cX6_told 7 = .ok (.if_icmp .le 6, 3) := by decide +kernel
theorem dX6_told_10 : decode cX6_told 10 = .ok (.bipush (-2), 2) := by decide +kernel
theorem dX6_told_12 : decode cX6_told 12 = .ok (.ireturn, 1) := by decide +kernel
theorem dX6_told_13 : decode cX6_told 13 = .ok (.iload_n 2, 1) := by decide +kernel
theorem dX6_told_14 : decode cX6_told 14 = .ok (.ifCond .ne 11, 3) := by decide +kernel
theorem dX6_told_17 : decode cX6_told 17 = .ok (.aload_n 0, 1) := by decide +kernel
theorem dX6_told_18 : decode cX6_told 18 = .ok (.getfield 10, 3) := by decide +kernel
theorem dX6_told_21 : decode cX6_told 21 = .ok (.getfield 49, 3) := by decide +kernel
theorem dX6_told_24 : decode cX6_told 24 = .ok (.ireturn, 1) := by decide +kernel
theorem dX6_told_25 : decode cX6_told 25 = .ok (.iload_n 2, 1) := by decide +kernel
theorem dX6_told_26 : decode cX6_told 26 = .ok (.iconst 1, 1) := by decide +kernel
theorem dX6_told_27 : decode cX6_told 27 = .ok (.if_icmp .ne 8, 3) := by decide +kernel
theorem dX6_told_30 : decode cX6_told 30 = .ok (.aload_n 0, 1) := by decide +kernel
theorem dX6_told_31 : decode cX6_told 31 = .ok (.getfield 22, 3) := by decide +kernel
theorem dX6_told_34 : decode cX6_told 34 = .ok (.ireturn, 1) := by decide +kernel
theorem dX6_told_35 : decode cX6_told 35 = .ok (.aload_n 0, 1) := by decide +kernel
theorem dX6_told_36 : decode cX6_told 36 = .ok (.getfield 10, 3) := by decide +kernel
theorem dX6_told_39 : decode cX6_told 39 = .ok (.iload_n 1, 1) := by decide +kernel
theorem dX6_told_40 : decode cX6_told 40 = .ok (.invokevirtual 31, 3) := by decide +kernel
theorem dX6_told_43 : decode cX6_told 43 = .ok (.ifCond .ne 5, 3) := by decide +kernel
theorem dX6_told_46 : decode cX6_told 46 = .ok (.iconst (-1), 1) := by decide +kernel
theorem dX6_told_47 : decode cX6_told 47 = .ok (.ireturn, 1) := by decide +kernel
theorem dX6_told_48 : decode cX6_told 48 = .ok (.iload_n 2, 1) := by decide +kernel
theorem dX6_told_49 : decode cX6_told 49 = .ok (.bipush 9, 2) := by decide +kernel
theorem dX6_told_51 : decode cX6_told 51 = .ok (.if_icmp .ne 14, 3) := by decide +kernel
theorem dX6_told_54 : decode cX6_told 54 = .ok (.aload_n 0, 1) := by decide +kernel
theorem dX6_told_55 : decode cX6_told 55 = .ok (.getfield 10, 3) := by decide +kernel
theorem dX6_told_58 : decode cX6_told 58 = .ok (.iload_n 1, 1) := by decide +kernel
theorem dX6_told_59 : decode cX6_told 59 = .ok (.invokevirtual 131, 3) := by decide +kernel
theorem dX6_told_62 : decode cX6_told 62 = .ok (.goto 16, 3) := by decide +kernel
theorem dX6_told_65 : decode cX6_told 65 = .ok (.aload_n 0, 1) := by decide +kernel
theorem dX6_told_66 : decode cX6_told 66 = .ok (.getfield 10, 3) := by decide +kernel
theorem dX6_told_69 : decode cX6_told 69 = .ok (.getfield 35, 3) := by decide +kernel
theorem dX6_told_72 : decode cX6_told 72 = .ok (.iload_n 1, 1) := by decide +kernel
theorem dX6_told_73 : decode cX6_told 73 = .ok (.aaload, 1) := by decide +kernel
theorem dX6_told_74 : decode cX6_told 74 = .ok (.iload_n 2, 1) := by decide +kernel
theorem dX6_told_75 : decode cX6_told 75 = .ok (.invokevirtual 135, 3) := by decide +kernel
theorem dX6_told_78 : decode cX6_told 78 = .ok (.ireturn, 1) := by decide +kernel
theorem dX6_below_0 : decode cX6_below 0 = .ok (.aload_n 0, 1) := by decide +kernel
theorem dX6_below_1 : decode cX6_below 1 = .ok (.getfield 10, 3) := by decide +kernel
theorem dX6_below_4 : decode cX6_below 4 = .ok (.iload_n 1, 1) := by decide +kernel
theorem dX6_below_5 : decode cX6_below 5 = .ok (.invokevirtual 31, 3) := by decide +kernel
theorem dX6_below_8 : decode cX6_below 8 = .ok (.ifCond .eq 14, 3) := by decide +kernel
theorem dX6_below_11 : decode cX6_below 11 = .ok (.aload_n 0, 1) := by decide +kernel
theorem dX6_below_12 : decode cX6_below 12 = .ok (.getfield 10, 3) := by decide +kernel
theorem dX6_below_15 : decode cX6_below 15 = .ok (.iload_n 2, 1) := by decide +kernel
theorem dX6_below_16 : decode cX6_below 16 = .ok (.invokevirtual 31, 3) := by decide +kernel
theorem dX6_below_19 : decode cX6_below 19 = .ok (.ifCond .ne 5, 3) := by decide +kernel
theorem dX6_below_22 : decode cX6_below 22 = .ok (.iconst (-1), 1) := by decide +kernel
theorem dX6_below_23 : decode cX6_below 23 = .ok (.ireturn, 1) := by decide +kernel
theorem dX6_below_24 : decode cX6_below 24 = .ok (.aload_n 0, 1) := by decide +kernel
theorem dX6_below_25 : decode cX6_below 25 = .ok (.getfield 10, 3) := by decide +kernel
theorem dX6_below_28 : decode cX6_below 28 = .ok (.iload_n 1, 1) := by decide +kernel
theorem dX6_below_29 : decode cX6_below 29 = .ok (.iload_n 2, 1) := by decide +kernel
theorem dX6_below_30 : decode cX6_below 30 = .ok (.invokevirtual 65, 3) := by decide +kernel
theorem dX6_below_33 : decode cX6_below 33 = .ok (.ifCond .eq 7, 3) := by decide +kernel
theorem dX6_below_36 : decode cX6_below 36 = .ok (.iconst 1, 1) := by decide +kernel
theorem dX6_below_37 : decode cX6_below 37 = .ok (.goto 4, 3) := by decide +kernel
theorem dX6_below_40 : decode cX6_below 40 = .ok (.iconst 0, 1) := by decide +kernel
theorem dX6_below_41 : decode cX6_below 41 = .ok (.ireturn, 1) := by decide +kernel
theorem dX6_found_0 : decode cX6_found 0 = .ok (.aload_n 0, 1) := by decide +kernel
theorem dX6_found_1 : decode cX6_found 1 = .ok (.getfield 10, 3) := by decide +kernel
theorem dX6_found_4 : decode cX6_found 4 = .ok (.iload_n 1, 1) := by decide +kernel
theorem dX6_found_5 : decode cX6_found 5 = .ok (.invokevirtual 31, 3) := by decide +kernel
theorem dX6_found_8 : decode cX6_found 8 = .ok (.ifCond .ne 5, 3) := by decide +kernel
theorem dX6_found_11 : decode cX6_found 11 = .ok (.iconst (-1), 1) := by decide +kernel
theorem dX6_found_12 : decode cX6_found 12 = .ok (.ireturn, 1) := by decide +kernel
theorem dX6_found_13 : decode cX6_found 13 = .ok (.iload_n 2, 1) := by decide +kernel
theorem dX6_found_14 : decode cX6_found 14 = .ok (.invokestatic 102, 3) := by decide +kernel
theorem dX6_found_17 : decode cX6_found 17 = .ok (.ifCond .ne 6, 3) := by decide +kernel
theorem dX6_found_20 : decode cX6_found 20 = .ok (.bipush (-2), 2) := by decide +kernel
theorem dX6_found_22 : decode cX6_found 22 = .ok (.ireturn, 1) := by decide +kernel
theorem dX6_found_23 : decode cX6_found 23 = .ok (.iload_n 3, 1) := by decide +kernel
theorem dX6_found_24 : decode cX6_found 24 = .ok (.ifCond .eq 15, 3) := by decide +kernel
theorem dX6_found_27 : decode cX6_found 27 = .ok (.aload_n 0, 1) := by decide +kernel
theorem dX6_found_28 : decode cX6_found 28 = .ok (.getfield 10, 3) := by decide +kernel
theorem dX6_found_31 : decode cX6_found 31 = .ok (.iload_n 1, 1) := by decide +kernel
theorem dX6_found_32 : decode cX6_found 32 = .ok (.iload_n 2, 1) := by decide +kernel
theorem dX6_found_33 : decode cX6_found 33 = .ok (.invokevirtual 138, 3) := by decide +kernel
theorem dX6_found_36 : decode cX6_found 36 = .ok (.goto 12, 3) := by decide +kernel
theorem dX6_found_39 : decode cX6_found 39 = .ok (.aload_n 0, 1) := by decide +kernel
theorem dX6_found_40 : decode cX6_found 40 = .ok (.getfield 10, 3) := by decide +kernel
theorem dX6_found_43 : decode cX6_found 43 = .ok (.iload_n 1, 1) := by decide +kernel
theorem dX6_found_44 : decode cX6_found 44 = .ok (.iload_n 2, 1) := by decide +kernel
theorem dX6_found_45 : decode cX6_found 45 = .ok (.invokevirtual 141, 3) := by decide +kernel
theorem dX6_found_48 : decode cX6_found 48 = .ok (.ireturn, 1) := by decide +kernel
theorem dX6_asks_0 : decode cX6_asks 0 = .ok (.aload_n 0, 1) := by decide +kernel
theorem dX6_asks_1 : decode cX6_asks 1 = .ok (.getfield 10, 3) := by decide +kernel
theorem dX6_asks_4 : decode cX6_asks 4 = .ok (.iload_n 1, 1) := by decide +kernel
theorem dX6_asks_5 : decode cX6_asks 5 = .ok (.invokevirtual 31, 3) := by decide +kernel
theorem dX6_asks_8 : decode cX6_asks 8 = .ok (.ifCond .ne 5, 3) := by decide +kernel
theorem dX6_asks_11 : decode cX6_asks 11 = .ok (.iconst (-1), 1) := by decide +kernel
theorem dX6_asks_12 : decode cX6_asks 12 = .ok (.ireturn, 1) := by decide +kernel
theorem dX6_asks_13 : decode cX6_asks 13 = .ok (.aload_n 0, 1) := by decide +kernel
theorem dX6_asks_14 : decode cX6_asks 14 = .ok (.getfield 10, 3) := by decide +kernel
theorem dX6_asks_17 : decode cX6_asks 17 = .ok (.iload_n 1, 1) := by decide +kernel
theorem dX6_asks_18 : decode cX6_asks 18 = .ok (.invokevirtual 144, 3) := by decide +kernel
theorem dX6_asks_21 : decode cX6_asks 21 = .ok (.iload_n 2, 1) := by decide +kernel
theorem dX6_asks_22 : decode cX6_asks 22 = .ok (.ifCond .lt 26, 3) := by decide +kernel
theorem dX6_asks_25 : decode cX6_asks 25 = .ok (.iload_n 2, 1) := by decide +kernel
theorem dX6_asks_26 : decode cX6_asks 26 = .ok (.aload_n 0, 1) := by decide +kernel
theorem dX6_asks_27 : decode cX6_asks 27 = .ok (.getfield 10, 3) := by decide +kernel
theorem dX6_asks_30 : decode cX6_asks 30 = .ok (.getfield 147, 3) := by decide +kernel
theorem dX6_asks_33 : decode cX6_asks 33 = .ok (.if_icmp .ge 15, 3) := by decide +kernel
theorem dX6_asks_36 : decode cX6_asks 36 = .ok (.aload_n 0, 1) := by decide +kernel
theorem dX6_asks_37 : decode cX6_asks 37 = .ok (.getfield 10, 3) := by decide +kernel
theorem dX6_asks_40 : decode cX6_asks 40 = .ok (.getfield 150, 3) := by decide +kernel
theorem dX6_asks_43 : decode cX6_asks 43 = .ok (.iload_n 2, 1) := by decide +kernel
theorem dX6_asks_44 : decode cX6_asks 44 = .ok (.iaload, 1) := by decide +kernel
theorem dX6_asks_45 : decode cX6_asks 45 = .ok (.goto 5, 3) := by decide +kernel
theorem dX6_asks_48 : decode cX6_asks 48 = .ok (.bipush (-6), 2) := by decide +kernel
theorem dX6_asks_50 : decode cX6_asks 50 = .ok (.ireturn, 1) := by decide +kernel
theorem dX6_round_0 : decode cX6_round 0 = .ok (.iload_n 1, 1) := by decide +kernel
theorem dX6_round_1 : decode cX6_round 1 = .ok (.ifCond .ge 8, 3) := by decide +kernel
theorem dX6_round_4 : decode cX6_round 4 = .ok (.bipush (-6), 2) := by decide +kernel
theorem dX6_round_6 : decode cX6_round 6 = .ok (.goto 11, 3) := by decide +kernel
theorem dX6_round_9 : decode cX6_round 9 = .ok (.aload_n 0, 1) := by decide +kernel
theorem dX6_round_10 : decode cX6_round 10 = .ok (.getfield 10, 3) := by decide +kernel
theorem dX6_round_13 : decode cX6_round 13 = .ok (.iload_n 1, 1) := by decide +kernel
theorem dX6_round_14 : decode cX6_round 14 = .ok (.invokevirtual 153, 3) := by decide +kernel
theorem dX6_round_17 : decode cX6_round 17 = .ok (.ireturn, 1) := by decide +kernel
theorem dX6_world_0 : decode cX6_world 0 = .ok (.aload_n 0, 1) := by decide +kernel
theorem dX6_world_1 : decode cX6_world 1 = .ok (.getfield 22, 3) := by decide +kernel
theorem dX6_world_4 : decode cX6_world 4 = .ok (.bipush 12, 2) := by decide +kernel
theorem dX6_world_6 : decode cX6_world 6 = .ok (.if_icmp .lt 6, 3) := by decide +kernel
theorem dX6_world_9 : decode cX6_world 9 = .ok (.bipush (-4), 2) := by decide +kernel
theorem dX6_world_11 : decode cX6_world 11 = .ok (.ireturn, 1) := by decide +kernel
theorem dX6_world_12 : decode cX6_world 12 = .ok (.aload_n 0, 1) := by decide +kernel
theorem dX6_world_13 : decode cX6_world 13 = .ok (.getfield 10, 3) := by decide +kernel
theorem dX6_world_16 : decode cX6_world 16 = .ok (.getfield 49, 3) := by decide +kernel
theorem dX6_world_19 : decode cX6_world 19 = .ok (.ifCond .ne 6, 3) := by decide +kernel
theorem dX6_world_22 : decode cX6_world 22 = .ok (.bipush (-5), 2) := by decide +kernel
theorem dX6_world_24 : decode cX6_world 24 = .ok (.ireturn, 1) := by decide +kernel
theorem dX6_world_25 : decode cX6_world 25 = .ok (.aload_n 0, 1) := by decide +kernel
theorem dX6_world_26 : decode cX6_world 26 = .ok (.getfield 18, 3) := by decide +kernel
theorem dX6_world_29 : decode cX6_world 29 = .ok (.aload_n 0, 1) := by decide +kernel
theorem dX6_world_30 : decode cX6_world 30 = .ok (.getfield 22, 3) := by decide +kernel
theorem dX6_world_33 : decode cX6_world 33 = .ok (.aaload, 1) := by decide +kernel
theorem dX6_world_34 : decode cX6_world 34 = .ok (.ifnonnull 22, 3) := by decide +kernel
theorem dX6_world_37 : decode cX6_world 37 = .ok (.aload_n 0, 1) := by decide +kernel
theorem dX6_world_38 : decode cX6_world 38 = .ok (.getfield 18, 3) := by decide +kernel
theorem dX6_world_41 : decode cX6_world 41 = .ok (.aload_n 0, 1) := by decide +kernel
theorem dX6_world_42 : decode cX6_world 42 = .ok (.getfield 22, 3) := by decide +kernel
theorem dX6_world_45 : decode cX6_world 45 = .ok (.new 16, 3) := by decide +kernel
theorem dX6_world_48 : decode cX6_world 48 = .ok (.dup, 1) := by decide +kernel
theorem dX6_world_49 : decode cX6_world 49 = .ok (.invokespecial 26, 3) := by decide +kernel
theorem dX6_world_52 : decode cX6_world 52 = .ok (.aastore, 1) := by decide +kernel
theorem dX6_world_53 : decode cX6_world 53 = .ok (.goto 15, 3) := by decide +kernel
theorem dX6_world_56 : decode cX6_world 56 = .ok (.aload_n 0, 1) := by decide +kernel
theorem dX6_world_57 : decode cX6_world 57 = .ok (.getfield 18, 3) := by decide +kernel
theorem dX6_world_60 : decode cX6_world 60 = .ok (.aload_n 0, 1) := by decide +kernel
theorem dX6_world_61 : decode cX6_world 61 = .ok (.getfield 22, 3) := by decide +kernel
theorem dX6_world_64 : decode cX6_world 64 = .ok (.aaload, 1) := by decide +kernel
theorem dX6_world_65 : decode cX6_world 65 = .ok (.invokevirtual 156, 3) := by decide +kernel
theorem dX6_world_68 : decode cX6_world 68 = .ok (.aload_n 0, 1) := by decide +kernel
theorem dX6_world_69 : decode cX6_world 69 = .ok (.dup, 1) := by decide +kernel
theorem dX6_world_70 : decode cX6_world 70 = .ok (.getfield 22, 3) := by decide +kernel
theorem dX6_world_73 : decode cX6_world 73 = .ok (.iconst 1, 1) := by decide +kernel
theorem dX6_world_74 : decode cX6_world 74 = .ok (.iadd, 1) := by decide +kernel
theorem dX6_world_75 : decode cX6_world 75 = .ok (.putfield 22, 3) := by decide +kernel
theorem dX6_world_78 : decode cX6_world 78 = .ok (.aload_n 0, 1) := by decide +kernel
theorem dX6_world_79 : decode cX6_world 79 = .ok (.getfield 22, 3) := by decide +kernel
theorem dX6_world_82 : decode cX6_world 82 = .ok (.iconst 1, 1) := by decide +kernel
theorem dX6_world_83 : decode cX6_world 83 = .ok (.isub, 1) := by decide +kernel
theorem dX6_world_84 : decode cX6_world 84 = .ok (.ireturn, 1) := by decide +kernel
theorem dX6_gone_0 : decode cX6_gone 0 = .ok (.aload_n 0, 1) := by decide +kernel
theorem dX6_gone_1 : decode cX6_gone 1 = .ok (.getfield 22, 3) := by decide +kernel
theorem dX6_gone_4 : decode cX6_gone 4 = .ok (.istore_n 1, 1) := by decide +kernel
theorem dX6_gone_5 : decode cX6_gone 5 = .ok (.aload_n 0, 1) := by decide +kernel
theorem dX6_gone_6 : decode cX6_gone 6 = .ok (.iconst 0, 1) := by decide +kernel
theorem dX6_gone_7 : decode cX6_gone 7 = .ok (.putfield 22, 3) := by decide +kernel
theorem dX6_gone_10 : decode cX6_gone 10 = .ok (.iload_n 1, 1) := by decide +kernel
theorem dX6_gone_11 : decode cX6_gone 11 = .ok (.ireturn, 1) := by decide +kernel
theorem dX6_touch_0 : decode cX6_touch 0 = .ok (.aload_n 0, 1) := by decide +kernel
theorem dX6_touch_1 : decode cX6_touch 1 = .ok (.iload_n 1, 1) := by decide +kernel
theorem dX6_touch_2 : decode cX6_touch 2 = .ok (.iload_n 2, 1) := by decide +kernel
theorem dX6_touch_3 : decode cX6_touch 3 = .ok (.iload_n 3, 1) := by decide +kernel
theorem dX6_touch_4 : decode cX6_touch 4 = .ok (.iload 4, 2) := by decide +kernel
theorem dX6_touch_6 : decode cX6_touch 6 = .ok (.invokevirtual 159, 3) := by decide +kernel
theorem dX6_touch_9 : decode cX6_touch 9 = .ok (.istore 6, 2) := by decide +kernel
theorem dX6_touch_11 : decode cX6_touch 11 = .ok (.iload 6, 2) := by decide +kernel
theorem dX6_touch_13 : decode cX6_touch 13 = .ok (.ifCond .eq 6, 3) := by decide +kernel
theorem dX6_touch_16 : decode cX6_touch 16 = .ok (.iload 6, 2) := by decide +kernel
theorem dX6_touch_18 : decode cX6_touch 18 = .ok (.ireturn, 1) := by decide +kernel
theorem dX6_touch_19 : decode cX6_touch 19 = .ok (.aload_n 0, 1) := by decide +kernel
theorem dX6_touch_20 : decode cX6_touch 20 = .ok (.getfield 18, 3) := by decide +kernel
theorem dX6_touch_23 : decode cX6_touch 23 = .ok (.iload_n 1, 1) := by decide +kernel
theorem dX6_touch_24 : decode cX6_touch 24 = .ok (.aaload, 1) := by decide +kernel
theorem dX6_touch_25 : decode cX6_touch 25 = .ok (.astore 7, 2) := by decide +kernel
theorem dX6_touch_27 : decode cX6_touch 27 = .ok (.aload_n 0, 1) := by decide +kernel
theorem dX6_touch_28 : decode cX6_touch 28 = .ok (.getfield 27, 3) := by decide +kernel
theorem dX6_touch_31 : decode cX6_touch 31 = .ok (.aload 7, 2) := by decide +kernel
theorem dX6_touch_33 : decode cX6_touch 33 = .ok (.invokevirtual 163, 3) := by decide +kernel
theorem dX6_touch_36 : decode cX6_touch 36 = .ok (.new 167, 3) := by decide +kernel
theorem dX6_touch_39 : decode cX6_touch 39 = .ok (.dup, 1) := by decide +kernel
theorem dX6_touch_40 : decode cX6_touch 40 = .ok (.aload_n 0, 1) := by decide +kernel
theorem dX6_touch_41 : decode cX6_touch 41 = .ok (.getfield 10, 3) := by decide +kernel
theorem dX6_touch_44 : decode cX6_touch 44 = .ok (.aload 7, 2) := by decide +kernel
theorem dX6_touch_46 : decode cX6_touch 46 = .ok (.invokespecial 169, 3) := by decide +kernel
theorem dX6_touch_49 : decode cX6_touch 49 = .ok (.astore 8, 2) := by decide +kernel
theorem dX6_touch_51 : decode cX6_touch 51 = .ok (.aload 8, 2) := by decide +kernel
theorem dX6_touch_53 : decode cX6_touch 53 = .ok (.new 123, 3) := by decide +kernel
theorem dX6_touch_56 : decode cX6_touch 56 = .ok (.dup, 1) := by decide +kernel
theorem dX6_touch_57 : decode cX6_touch 57 = .ok (.iload_n 2, 1) := by decide +kernel
theorem dX6_touch_58 : decode cX6_touch 58 = .ok (.iload_n 3, 1) := by decide +kernel
theorem dX6_touch_59 : decode cX6_touch 59 = .ok (.iload 4, 2) := by decide +kernel
theorem dX6_touch_61 : decode cX6_touch 61 = .ok (.iload 5, 2) := by decide +kernel
theorem dX6_touch_63 : decode cX6_touch 63 = .ok (.invokespecial 125, 3) := by decide +kernel
theorem dX6_touch_66 : decode cX6_touch 66 = .ok (.invokevirtual 172, 3) := by decide +kernel
theorem dX6_touch_69 : decode cX6_touch 69 = .ok (.istore 9, 2) := by decide +kernel
theorem dX6_touch_71 : decode cX6_touch 71 = .ok (.iload 9, 2) := by decide +kernel
theorem dX6_touch_73 : decode cX6_touch 73 = .ok (.bipush 23, 2) := by decide +kernel
theorem dX6_touch_75 : decode cX6_touch 75 = .ok (.if_icmp .ne 12, 3) := by decide +kernel
theorem dX6_touch_78 : decode cX6_touch 78 = .ok (.aload 7, 2) := by decide +kernel
theorem dX6_touch_80 : decode cX6_touch 80 = .ok (.aload_n 0, 1) := by decide +kernel
theorem dX6_touch_81 : decode cX6_touch 81 = .ok (.getfield 27, 3) := by decide +kernel
theorem dX6_touch_84 : decode cX6_touch 84 = .ok (.invokevirtual 163, 3) := by decide +kernel
theorem dX6_touch_87 : decode cX6_touch 87 = .ok (.aload 7, 2) := by decide +kernel
theorem dX6_touch_89 : decode cX6_touch 89 = .ok (.aload 8, 2) := by decide +kernel
theorem dX6_touch_91 : decode cX6_touch 91 = .ok (.iload 9, 2) := by decide +kernel
theorem dX6_touch_93 : decode cX6_touch 93 = .ok (.invokevirtual 175, 3) := by decide +kernel
theorem dX6_touch_96 : decode cX6_touch 96 = .ok (.iload 9, 2) := by decide +kernel
theorem dX6_touch_98 : decode cX6_touch 98 = .ok (.invokestatic 179, 3) := by decide +kernel
theorem dX6_touch_101 : decode cX6_touch 101 = .ok (.ireturn, 1) := by decide +kernel
theorem dX6_foretell_0 : decode cX6_foretell 0 = .ok (.aload_n 0, 1) := by decide +kernel
theorem dX6_foretell_1 : decode cX6_foretell 1 = .ok (.iload_n 1, 1) := by decide +kernel
theorem dX6_foretell_2 : decode cX6_foretell 2 = .ok (.iload_n 2, 1) := by decide +kernel
theorem dX6_foretell_3 : decode cX6_foretell 3 = .ok (.iload_n 3, 1) := by decide +kernel
theorem dX6_foretell_4 : decode cX6_foretell 4 = .ok (.iload 4, 2) := by decide +kernel
theorem dX6_foretell_6 : decode cX6_foretell 6 = .ok (.invokevirtual 159, 3) := by decide +kernel
theorem dX6_foretell_9 : decode cX6_foretell 9 = .ok (.istore 6, 2) := by decide +kernel
theorem dX6_foretell_11 : decode cX6_foretell 11 = .ok (.iload 6, 2) := by decide +kernel
theorem dX6_foretell_13 : decode cX6_foretell 13 = .ok (.ifCond .eq 6, 3) := by decide +kernel
theorem dX6_foretell_16 : decode cX6_foretell 16 = .ok (.iload 6, 2) := by decide +kernel
theorem dX6_foretell_18 : decode cX6_foretell 18 = .ok (.ireturn, 1) := by decide +kernel
theorem dX6_foretell_19 : decode cX6_foretell 19 = .ok (.aload_n 0, 1) := by decide +kernel
theorem dX6_foretell_20 : decode cX6_foretell 20 = .ok (.getfield 18, 3) := by decide +kernel
theorem dX6_foretell_23 : decode cX6_foretell 23 = .ok (.iload_n 1, 1) := by decide +kernel
theorem dX6_foretell_24 : decode cX6_foretell 24 = .ok (.aaload, 1) := by decide +kernel
theorem dX6_foretell_25 : decode cX6_foretell 25 = .ok (.astore 7, 2) := by decide +kernel
theorem dX6_foretell_27 : decode cX6_foretell 27 = .ok (.aload_n 0, 1) := by decide +kernel
theorem dX6_foretell_28 : decode cX6_foretell 28 = .ok (.getfield 27, 3) := by decide +kernel
theorem dX6_foretell_31 : decode cX6_foretell 31 = .ok (.aload 7, 2) := by decide +kernel
theorem dX6_foretell_33 : decode cX6_foretell 33 = .ok (.invokevirtual 163, 3) := by decide +kernel
theorem dX6_foretell_36 : decode cX6_foretell 36 = .ok (.new 167, 3) := by decide +kernel
theorem dX6_foretell_39 : decode cX6_foretell 39 = .ok (.dup, 1) := by decide +kernel
theorem dX6_foretell_40 : decode cX6_foretell 40 = .ok (.aload_n 0, 1) := by decide +kernel
theorem dX6_foretell_41 : decode cX6_foretell 41 = .ok (.getfield 10, 3) := by decide +kernel
theorem dX6_foretell_44 : decode cX6_foretell 44 = .ok (.aload 7, 2) := by decide +kernel
theorem dX6_foretell_46 : decode cX6_foretell 46 = .ok (.invokespecial 169, 3) := by decide +kernel
theorem dX6_foretell_49 : decode cX6_foretell 49 = .ok (.new 123, 3) := by decide +kernel
theorem dX6_foretell_52 : decode cX6_foretell 52 = .ok (.dup, 1) := by decide +kernel
theorem dX6_foretell_53 : decode cX6_foretell 53 = .ok (.iload_n 2, 1) := by decide +kernel
theorem dX6_foretell_54 : decode cX6_foretell 54 = .ok (.iload_n 3, 1) := by decide +kernel
theorem dX6_foretell_55 : decode cX6_foretell 55 = .ok (.iload 4, 2) := by decide +kernel
theorem dX6_foretell_57 : decode cX6_foretell 57 = .ok (.iload 5, 2) := by decide +kernel
theorem dX6_foretell_59 : decode cX6_foretell 59 = .ok (.invokespecial 125, 3) := by decide +kernel
theorem dX6_foretell_62 : decode cX6_foretell 62 = .ok (.invokevirtual 172, 3) := by decide +kernel
theorem dX6_foretell_65 : decode cX6_foretell 65 = .ok (.istore 8, 2) := by decide +kernel
theorem dX6_foretell_67 : decode cX6_foretell 67 = .ok (.aload 7, 2) := by decide +kernel
theorem dX6_foretell_69 : decode cX6_foretell 69 = .ok (.aload_n 0, 1) := by decide +kernel
theorem dX6_foretell_70 : decode cX6_foretell 70 = .ok (.getfield 27, 3) := by decide +kernel
theorem dX6_foretell_73 : decode cX6_foretell 73 = .ok (.invokevirtual 163, 3) := by decide +kernel
theorem dX6_foretell_76 : decode cX6_foretell 76 = .ok (.iload 8, 2) := by decide +kernel
theorem dX6_foretell_78 : decode cX6_foretell 78 = .ok (.invokestatic 179, 3) := by decide +kernel
theorem dX6_foretell_81 : decode cX6_foretell 81 = .ok (.ireturn, 1) := by decide +kernel
theorem dX6_refusalOfTouch_0 : decode cX6_refusalOfTouch 0 = .ok (.aload_n 0, 1) := by decide +kernel
theorem dX6_refusalOfTouch_1 : decode cX6_refusalOfTouch 1 = .ok (.iload_n 1, 1) := by decide +kernel
theorem dX6_refusalOfTouch_2 : decode cX6_refusalOfTouch 2 = .ok (.invokevirtual 182, 3) := by decide +kernel
theorem dX6_refusalOfTouch_5 : decode cX6_refusalOfTouch 5 = .ok (.ifCond .eq 14, 3) := by decide +kernel
theorem dX6_refusalOfTouch_8 : decode cX6_refusalOfTouch 8 = .ok (.aload_n 0, 1) := by decide +kernel
theorem dX6_refusalOfTouch_9 : decode cX6_refusalOfTouch 9 = .ok (.getfield 10, 3) := by decide +kernel
theorem dX6_refusalOfTouch_12 : decode cX6_refusalOfTouch 12 = .ok (.iload_n 3, 1) := by decide +kernel
theorem dX6_refusalOfTouch_13 : decode cX6_refusalOfTouch 13 = .ok (.invokevirtual 31, 3) := by decide +kernel
theorem dX6_refusalOfTouch_16 : decode cX6_refusalOfTouch 16 = .ok (.ifCond .ne 5, 3) := by decide +kernel
theorem dX6_refusalOfTouch_19 : decode cX6_refusalOfTouch 19 = .ok (.iconst (-1), 1) := by decide +kernel
theorem dX6_refusalOfTouch_20 : decode cX6_refusalOfTouch 20 = .ok (.ireturn, 1) := by decide +kernel
theorem dX6_refusalOfTouch_21 : decode cX6_refusalOfTouch 21 = .ok (.iload_n 2, 1) := by decide +kernel
theorem dX6_refusalOfTouch_22 : decode cX6_refusalOfTouch 22 = .ok (.iconst 1, 1) := by decide +kernel
theorem dX6_refusalOfTouch_23 : decode cX6_refusalOfTouch 23 = .ok (.if_icmp .lt 24, 3) := by decide +kernel
theorem dX6_refusalOfTouch_26 : decode cX6_refusalOfTouch 26 = .ok (.iload_n 2, 1) := by decide +kernel
theorem dX6_refusalOfTouch_27 : decode cX6_refusalOfTouch 27 = .ok (.bipush 6, 2) := by decide +kernel
theorem dX6_refusalOfTouch_29 : decode cX6_refusalOfTouch 29 = .ok (.if_icmp .gt 18, 3) := by decide +kernel
theorem dX6_refusalOfTouch_32 : decode cX6_refusalOfTouch 32 = .ok (.iload_n 2, 1) := by decide +kernel
theorem dX6_refusalOfTouch_33 : decode cX6_refusalOfTouch 33 = .ok (.invokestatic 108, 3) := by decide +kernel
theorem dX6_refusalOfTouch_36 : decode cX6_refusalOfTouch 36 = .ok (.ifCond .eq 14, 3) := by decide +kernel
theorem dX6_refusalOfTouch_39 : decode cX6_refusalOfTouch 39 = .ok (.iload 4, 2) := by decide +kernel
theorem dX6_refusalOfTouch_41 : decode cX6_refusalOfTouch 41 = .ok (.invokestatic 102, 3) := by decide +kernel
theorem dX6_refusalOfTouch_44 : decode cX6_refusalOfTouch 44 = .ok (.ifCond .ne 6, 3) := by decide +kernel
theorem dX6_refusalOfTouch_47 : decode cX6_refusalOfTouch 47 = .ok (.bipush (-2), 2) := by decide +kernel
theorem dX6_refusalOfTouch_49 : decode cX6_refusalOfTouch 49 = .ok (.ireturn, 1) := by decide +kernel
theorem dX6_refusalOfTouch_50 : decode cX6_refusalOfTouch 50 = .ok (.iconst 0, 1) := by decide +kernel
theorem dX6_refusalOfTouch_51 : decode cX6_refusalOfTouch 51 = .ok (.ireturn, 1) := by decide +kernel
theorem dX6_comesTo_0 : decode cX6_comesTo 0 = .ok (.iload_n 0, 1) := by decide +kernel
theorem dX6_comesTo_1 : decode cX6_comesTo 1 = .ok (.lookupswitch 61 #[(-6, 51), (20, 53), (21, 55), (22, 57), (23, 59)], 51) := by decide +kernel
theorem dX6_comesTo_52 : decode cX6_comesTo 52 = .ok (.iconst 0, 1) := by decide +kernel
theorem dX6_comesTo_53 : decode cX6_comesTo 53 = .ok (.ireturn, 1) := by decide +kernel
theorem dX6_comesTo_54 : decode cX6_comesTo 54 = .ok (.iconst 1, 1) := by decide +kernel
theorem dX6_comesTo_55 : decode cX6_comesTo 55 = .ok (.ireturn, 1) := by decide +kernel
theorem dX6_comesTo_56 : decode cX6_comesTo 56 = .ok (.iconst 2, 1) := by decide +kernel
theorem dX6_comesTo_57 : decode cX6_comesTo 57 = .ok (.ireturn, 1) := by decide +kernel
theorem dX6_comesTo_58 : decode cX6_comesTo 58 = .ok (.iconst 3, 1) := by decide +kernel
theorem dX6_comesTo_59 : decode cX6_comesTo 59 = .ok (.ireturn, 1) := by decide +kernel
theorem dX6_comesTo_60 : decode cX6_comesTo 60 = .ok (.iconst 5, 1) := by decide +kernel
theorem dX6_comesTo_61 : decode cX6_comesTo 61 = .ok (.ireturn, 1) := by decide +kernel
theorem dX6_comesTo_62 : decode cX6_comesTo 62 = .ok (.iconst 4, 1) := by decide +kernel
theorem dX6_comesTo_63 : decode cX6_comesTo 63 = .ok (.ireturn, 1) := by decide +kernel
theorem dX6_state_0 : decode cX6_state 0 = .ok (.aload_n 0, 1) := by decide +kernel
theorem dX6_state_1 : decode cX6_state 1 = .ok (.iload_n 1, 1) := by decide +kernel
theorem dX6_state_2 : decode cX6_state 2 = .ok (.invokevirtual 182, 3) := by decide +kernel
theorem dX6_state_5 : decode cX6_state 5 = .ok (.ifCond .eq 14, 3) := by decide +kernel
theorem dX6_state_8 : decode cX6_state 8 = .ok (.aload_n 0, 1) := by decide +kernel
theorem dX6_state_9 : decode cX6_state 9 = .ok (.getfield 10, 3) := by decide +kernel
theorem dX6_state_12 : decode cX6_state 12 = .ok (.iload_n 2, 1) := by decide +kernel
theorem dX6_state_13 : decode cX6_state 13 = .ok (.invokevirtual 31, 3) := by decide +kernel
theorem dX6_state_16 : decode cX6_state 16 = .ok (.ifCond .ne 5, 3) := by decide +kernel
theorem dX6_state_19 : decode cX6_state 19 = .ok (.iconst (-1), 1) := by decide +kernel
theorem dX6_state_20 : decode cX6_state 20 = .ok (.ireturn, 1) := by decide +kernel
theorem dX6_state_21 : decode cX6_state 21 = .ok (.aload_n 0, 1) := by decide +kernel
theorem dX6_state_22 : decode cX6_state 22 = .ok (.getfield 18, 3) := by decide +kernel
theorem dX6_state_25 : decode cX6_state 25 = .ok (.iload_n 1, 1) := by decide +kernel
theorem dX6_state_26 : decode cX6_state 26 = .ok (.aaload, 1) := by decide +kernel
theorem dX6_state_27 : decode cX6_state 27 = .ok (.getfield 185, 3) := by decide +kernel
theorem dX6_state_30 : decode cX6_state 30 = .ok (.iload_n 2, 1) := by decide +kernel
theorem dX6_state_31 : decode cX6_state 31 = .ok (.iaload, 1) := by decide +kernel
theorem dX6_state_32 : decode cX6_state 32 = .ok (.ireturn, 1) := by decide +kernel
theorem dX6_began_0 : decode cX6_began 0 = .ok (.aload_n 0, 1) := by decide +kernel
theorem dX6_began_1 : decode cX6_began 1 = .ok (.iload_n 1, 1) := by decide +kernel
theorem dX6_began_2 : decode cX6_began 2 = .ok (.invokevirtual 182, 3) := by decide +kernel
theorem dX6_began_5 : decode cX6_began 5 = .ok (.ifCond .ne 5, 3) := by decide +kernel
theorem dX6_began_8 : decode cX6_began 8 = .ok (.iconst (-1), 1) := by decide +kernel
theorem dX6_began_9 : decode cX6_began 9 = .ok (.ireturn, 1) := by decide +kernel
theorem dX6_began_10 : decode cX6_began 10 = .ok (.aload_n 0, 1) := by decide +kernel
theorem dX6_began_11 : decode cX6_began 11 = .ok (.getfield 18, 3) := by decide +kernel
theorem dX6_began_14 : decode cX6_began 14 = .ok (.iload_n 1, 1) := by decide +kernel
theorem dX6_began_15 : decode cX6_began 15 = .ok (.aaload, 1) := by decide +kernel
theorem dX6_began_16 : decode cX6_began 16 = .ok (.astore_n 3, 1) := by decide +kernel
theorem dX6_began_17 : decode cX6_began 17 = .ok (.iload_n 2, 1) := by decide +kernel
theorem dX6_began_18 : decode cX6_began 18 = .ok (.iconst (-1), 1) := by decide +kernel
theorem dX6_began_19 : decode cX6_began 19 = .ok (.if_icmp .ne 8, 3) := by decide +kernel
theorem dX6_began_22 : decode cX6_began 22 = .ok (.aload_n 3, 1) := by decide +kernel
theorem dX6_began_23 : decode cX6_began 23 = .ok (.getfield 188, 3) := by decide +kernel
theorem dX6_began_26 : decode cX6_began 26 = .ok (.ireturn, 1) := by decide +kernel
theorem dX6_began_27 : decode cX6_began 27 = .ok (.iload_n 2, 1) := by decide +kernel
theorem dX6_began_28 : decode cX6_began 28 = .ok (.ifCond .lt 20, 3) := by decide +kernel
theorem dX6_began_31 : decode cX6_began 31 = .ok (.iload_n 2, 1) := by decide +kernel
theorem dX6_began_32 : decode cX6_began 32 = .ok (.aload_n 3, 1) := by decide +kernel
theorem dX6_began_33 : decode cX6_began 33 = .ok (.getfield 188, 3) := by decide +kernel
theorem dX6_began_36 : decode cX6_began 36 = .ok (.if_icmp .ge 12, 3) := by decide +kernel
theorem dX6_began_39 : decode cX6_began 39 = .ok (.aload_n 3, 1) := by decide +kernel
theorem dX6_began_40 : decode cX6_began 40 = .ok (.getfield 191, 3) := by decide +kernel
theorem dX6_began_43 : decode cX6_began 43 = .ok (.iload_n 2, 1) := by decide +kernel
theorem dX6_began_44 : decode cX6_began 44 = .ok (.iaload, 1) := by decide +kernel
theorem dX6_began_45 : decode cX6_began 45 = .ok (.goto 5, 3) := by decide +kernel
theorem dX6_began_48 : decode cX6_began 48 = .ok (.bipush (-6), 2) := by decide +kernel
theorem dX6_began_50 : decode cX6_began 50 = .ok (.ireturn, 1) := by decide +kernel
theorem dX6_tape_0 : decode cX6_tape 0 = .ok (.aload_n 0, 1) := by decide +kernel
theorem dX6_tape_1 : decode cX6_tape 1 = .ok (.iload_n 1, 1) := by decide +kernel
theorem dX6_tape_2 : decode cX6_tape 2 = .ok (.invokevirtual 182, 3) := by decide +kernel
theorem dX6_tape_5 : decode cX6_tape 5 = .ok (.ifCond .ne 5, 3) := by decide +kernel
theorem dX6_tape_8 : decode cX6_tape 8 = .ok (.iconst 0, 1) := by decide +kernel
theorem dX6_tape_9 : decode cX6_tape 9 = .ok (.ireturn, 1) := by decide +kernel
theorem dX6_tape_10 : decode cX6_tape 10 = .ok (.aload_n 0, 1) := by decide +kernel
theorem dX6_tape_11 : decode cX6_tape 11 = .ok (.getfield 18, 3) := by decide +kernel
theorem dX6_tape_14 : decode cX6_tape 14 = .ok (.iload_n 1, 1) := by decide +kernel
theorem dX6_tape_15 : decode cX6_tape 15 = .ok (.aaload, 1) := by decide +kernel
theorem dX6_tape_16 : decode cX6_tape 16 = .ok (.astore_n 3, 1) := by decide +kernel
theorem dX6_tape_17 : decode cX6_tape 17 = .ok (.iload_n 2, 1) := by decide +kernel
theorem dX6_tape_18 : decode cX6_tape 18 = .ok (.iconst (-1), 1) := by decide +kernel
theorem dX6_tape_19 : decode cX6_tape 19 = .ok (.if_icmp .ne 8, 3) := by decide +kernel
theorem dX6_tape_22 : decode cX6_tape 22 = .ok (.aload_n 3, 1) := by decide +kernel
theorem dX6_tape_23 : decode cX6_tape 23 = .ok (.getfield 194, 3) := by decide +kernel
theorem dX6_tape_26 : decode cX6_tape 26 = .ok (.ireturn, 1) := by decide +kernel
theorem dX6_tape_27 : decode cX6_tape 27 = .ok (.iload_n 2, 1) := by decide +kernel
theorem dX6_tape_28 : decode cX6_tape 28 = .ok (.ifCond .lt 27, 3) := by decide +kernel
theorem dX6_tape_31 : decode cX6_tape 31 = .ok (.iload_n 2, 1) := by decide +kernel
theorem dX6_tape_32 : decode cX6_tape 32 = .ok (.aload_n 3, 1) := by decide +kernel
theorem dX6_tape_33 : decode cX6_tape 33 = .ok (.getfield 194, 3) := by decide +kernel
theorem dX6_tape_36 : decode cX6_tape 36 = .ok (.if_icmp .ge 19, 3) := by decide +kernel
theorem dX6_tape_39 : decode cX6_tape 39 = .ok (.iload_n 2, 1) := by decide +kernel
theorem dX6_tape_40 : decode cX6_tape 40 = .ok (.sipush 300, 3) := by decide +kernel
theorem dX6_tape_43 : decode cX6_tape 43 = .ok (.if_icmp .ge 12, 3) := by decide +kernel
theorem dX6_tape_46 : decode cX6_tape 46 = .ok (.aload_n 3, 1) := by decide +kernel
theorem dX6_tape_47 : decode cX6_tape 47 = .ok (.getfield 197, 3) := by decide +kernel
theorem dX6_tape_50 : decode cX6_tape 50 = .ok (.iload_n 2, 1) := by decide +kernel
theorem dX6_tape_51 : decode cX6_tape 51 = .ok (.iaload, 1) := by decide +kernel
theorem dX6_tape_52 : decode cX6_tape 52 = .ok (.goto 4, 3) := by decide +kernel
theorem dX6_tape_55 : decode cX6_tape 55 = .ok (.iconst 0, 1) := by decide +kernel
theorem dX6_tape_56 : decode cX6_tape 56 = .ok (.ireturn, 1) := by decide +kernel
theorem dX6_value_0 : decode cX6_value 0 = .ok (.aload_n 0, 1) := by decide +kernel
theorem dX6_value_1 : decode cX6_value 1 = .ok (.iload_n 1, 1) := by decide +kernel
theorem dX6_value_2 : decode cX6_value 2 = .ok (.invokevirtual 182, 3) := by decide +kernel
theorem dX6_value_5 : decode cX6_value 5 = .ok (.ifCond .eq 21, 3) := by decide +kernel
theorem dX6_value_8 : decode cX6_value 8 = .ok (.aload_n 0, 1) := by decide +kernel
theorem dX6_value_9 : decode cX6_value 9 = .ok (.getfield 10, 3) := by decide +kernel
theorem dX6_value_12 : decode cX6_value 12 = .ok (.iload_n 2, 1) := by decide +kernel
theorem dX6_value_13 : decode cX6_value 13 = .ok (.invokevirtual 31, 3) := by decide +kernel
theorem dX6_value_16 : decode cX6_value 16 = .ok (.ifCond .eq 10, 3) := by decide +kernel
theorem dX6_value_19 : decode cX6_value 19 = .ok (.iload_n 3, 1) := by decide +kernel
theorem dX6_value_20 : decode cX6_value 20 = .ok (.invokestatic 102, 3) := by decide +kernel
theorem dX6_value_23 : decode cX6_value 23 = .ok (.ifCond .ne 5, 3) := by decide +kernel
theorem dX6_value_26 : decode cX6_value 26 = .ok (.iconst 0, 1) := by decide +kernel
theorem dX6_value_27 : decode cX6_value 27 = .ok (.ireturn, 1) := by decide +kernel
theorem dX6_value_28 : decode cX6_value 28 = .ok (.aload_n 0, 1) := by decide +kernel
theorem dX6_value_29 : decode cX6_value 29 = .ok (.getfield 10, 3) := by decide +kernel
theorem dX6_value_32 : decode cX6_value 32 = .ok (.iload_n 2, 1) := by decide +kernel
theorem dX6_value_33 : decode cX6_value 33 = .ok (.iload_n 3, 1) := by decide +kernel
theorem dX6_value_34 : decode cX6_value 34 = .ok (.invokevirtual 141, 3) := by decide +kernel
theorem dX6_value_37 : decode cX6_value 37 = .ok (.istore 4, 2) := by decide +kernel
theorem dX6_value_39 : decode cX6_value 39 = .ok (.iload 4, 2) := by decide +kernel
theorem dX6_value_41 : decode cX6_value 41 = .ok (.bipush (-6), 2) := by decide +kernel
theorem dX6_value_43 : decode cX6_value 43 = .ok (.if_icmp .ne 7, 3) := by decide +kernel
theorem dX6_value_46 : decode cX6_value 46 = .ok (.iconst 0, 1) := by decide +kernel
theorem dX6_value_47 : decode cX6_value 47 = .ok (.goto 19, 3) := by decide +kernel
theorem dX6_value_50 : decode cX6_value 50 = .ok (.aload_n 0, 1) := by decide +kernel
theorem dX6_value_51 : decode cX6_value 51 = .ok (.getfield 10, 3) := by decide +kernel
theorem dX6_value_54 : decode cX6_value 54 = .ok (.aload_n 0, 1) := by decide +kernel
theorem dX6_value_55 : decode cX6_value 55 = .ok (.getfield 18, 3) := by decide +kernel
theorem dX6_value_58 : decode cX6_value 58 = .ok (.iload_n 1, 1) := by decide +kernel
theorem dX6_value_59 : decode cX6_value 59 = .ok (.aaload, 1) := by decide +kernel
theorem dX6_value_60 : decode cX6_value 60 = .ok (.iload 4, 2) := by decide +kernel
theorem dX6_value_62 : decode cX6_value 62 = .ok (.iload_n 3, 1) := by decide +kernel
theorem dX6_value_63 : decode cX6_value 63 = .ok (.invokevirtual 200, 3) := by decide +kernel
theorem dX6_value_66 : decode cX6_value 66 = .ok (.ireturn, 1) := by decide +kernel
theorem dX6_failed_0 : decode cX6_failed 0 = .ok (.aload_n 0, 1) := by decide +kernel
theorem dX6_failed_1 : decode cX6_failed 1 = .ok (.iload_n 1, 1) := by decide +kernel
theorem dX6_failed_2 : decode cX6_failed 2 = .ok (.invokevirtual 182, 3) := by decide +kernel
theorem dX6_failed_5 : decode cX6_failed 5 = .ok (.ifCond .ne 5, 3) := by decide +kernel
theorem dX6_failed_8 : decode cX6_failed 8 = .ok (.iconst (-1), 1) := by decide +kernel
theorem dX6_failed_9 : decode cX6_failed 9 = .ok (.ireturn, 1) := by decide +kernel
theorem dX6_failed_10 : decode cX6_failed 10 = .ok (.iload_n 2, 1) := by decide +kernel
theorem dX6_failed_11 : decode cX6_failed 11 = .ok (.ifCond .lt 8, 3) := by decide +kernel
theorem dX6_failed_14 : decode cX6_failed 14 = .ok (.iload_n 2, 1) := by decide +kernel
theorem dX6_failed_15 : decode cX6_failed 15 = .ok (.iconst 1, 1) := by decide +kernel
theorem dX6_failed_16 : decode cX6_failed 16 = .ok (.if_icmp .le 6, 3) := by decide +kernel
theorem dX6_failed_19 : decode cX6_failed 19 = .ok (.bipush (-2), 2) := by decide +kernel
theorem dX6_failed_21 : decode cX6_failed 21 = .ok (.ireturn, 1) := by decide +kernel
theorem dX6_failed_22 : decode cX6_failed 22 = .ok (.iload_n 2, 1) := by decide +kernel
theorem dX6_failed_23 : decode cX6_failed 23 = .ok (.ifCond .ne 15, 3) := by decide +kernel
theorem dX6_failed_26 : decode cX6_failed 26 = .ok (.aload_n 0, 1) := by decide +kernel
theorem dX6_failed_27 : decode cX6_failed 27 = .ok (.getfield 18, 3) := by decide +kernel
theorem dX6_failed_30 : decode cX6_failed 30 = .ok (.iload_n 1, 1) := by decide +kernel
theorem dX6_failed_31 : decode cX6_failed 31 = .ok (.aaload, 1) := by decide +kernel
theorem dX6_failed_32 : decode cX6_failed 32 = .ok (.getfield 204, 3) := by decide +kernel
theorem dX6_failed_35 : decode cX6_failed 35 = .ok (.goto 12, 3) := by decide +kernel
theorem dX6_failed_38 : decode cX6_failed 38 = .ok (.aload_n 0, 1) := by decide +kernel
theorem dX6_failed_39 : decode cX6_failed 39 = .ok (.getfield 18, 3) := by decide +kernel
theorem dX6_failed_42 : decode cX6_failed 42 = .ok (.iload_n 1, 1) := by decide +kernel
theorem dX6_failed_43 : decode cX6_failed 43 = .ok (.aaload, 1) := by decide +kernel
theorem dX6_failed_44 : decode cX6_failed 44 = .ok (.getfield 207, 3) := by decide +kernel
theorem dX6_failed_47 : decode cX6_failed 47 = .ok (.ireturn, 1) := by decide +kernel
theorem dX6_spent_0 : decode cX6_spent 0 = .ok (.aload_n 0, 1) := by decide +kernel
theorem dX6_spent_1 : decode cX6_spent 1 = .ok (.iload_n 1, 1) := by decide +kernel
theorem dX6_spent_2 : decode cX6_spent 2 = .ok (.invokevirtual 182, 3) := by decide +kernel
theorem dX6_spent_5 : decode cX6_spent 5 = .ok (.ifCond .ne 5, 3) := by decide +kernel
theorem dX6_spent_8 : decode cX6_spent 8 = .ok (.iconst (-1), 1) := by decide +kernel
theorem dX6_spent_9 : decode cX6_spent 9 = .ok (.ireturn, 1) := by decide +kernel
theorem dX6_spent_10 : decode cX6_spent 10 = .ok (.iload_n 2, 1) := by decide +kernel
theorem dX6_spent_11 : decode cX6_spent 11 = .ok (.ifCond .lt 8, 3) := by decide +kernel
theorem dX6_spent_14 : decode cX6_spent 14 = .ok (.iload_n 2, 1) := by decide +kernel
theorem dX6_spent_15 : decode cX6_spent 15 = .ok (.iconst 3, 1) := by decide +kernel
theorem dX6_spent_16 : decode cX6_spent 16 = .ok (.if_icmp .le 8, 3) := by decide +kernel
theorem dX6_spent_19 : decode cX6_spent 19 = .ok (.bipush (-2), 2) := by decide +kernel
theorem dX6_spent_21 : decode cX6_spent 21 = .ok (.goto 14, 3) := by decide +kernel
theorem dX6_spent_24 : decode cX6_spent 24 = .ok (.aload_n 0, 1) := by decide +kernel
theorem dX6_spent_25 : decode cX6_spent 25 = .ok (.getfield 18, 3) := by decide +kernel
theorem dX6_spent_28 : decode cX6_spent 28 = .ok (.iload_n 1, 1) := by decide +kernel
theorem dX6_spent_29 : decode cX6_spent 29 = .ok (.aaload, 1) := by decide +kernel
theorem dX6_spent_30 : decode cX6_spent 30 = .ok (.getfield 210, 3) := by decide +kernel
theorem dX6_spent_33 : decode cX6_spent 33 = .ok (.iload_n 2, 1) := by decide +kernel
theorem dX6_spent_34 : decode cX6_spent 34 = .ok (.iaload, 1) := by decide +kernel
theorem dX6_spent_35 : decode cX6_spent 35 = .ok (.ireturn, 1) := by decide +kernel
theorem dX6_many_0 : decode cX6_many 0 = .ok (.aload_n 0, 1) := by decide +kernel
theorem dX6_many_1 : decode cX6_many 1 = .ok (.iload_n 1, 1) := by decide +kernel
theorem dX6_many_2 : decode cX6_many 2 = .ok (.invokevirtual 182, 3) := by decide +kernel
theorem dX6_many_5 : decode cX6_many 5 = .ok (.ifCond .ne 5, 3) := by decide +kernel
theorem dX6_many_8 : decode cX6_many 8 = .ok (.iconst (-1), 1) := by decide +kernel
theorem dX6_many_9 : decode cX6_many 9 = .ok (.ireturn, 1) := by decide +kernel
theorem dX6_many_10 : decode cX6_many 10 = .ok (.iload_n 2, 1) := by decide +kernel
theorem dX6_many_11 : decode cX6_many 11 = .ok (.ifCond .lt 8, 3) := by decide +kernel
theorem dX6_many_14 : decode cX6_many 14 = .ok (.iload_n 2, 1) := by decide +kernel
theorem dX6_many_15 : decode cX6_many 15 = .ok (.iconst 3, 1) := by decide +kernel
theorem dX6_many_16 : decode cX6_many 16 = .ok (.if_icmp .le 6, 3) := by decide +kernel
theorem dX6_many_19 : decode cX6_many 19 = .ok (.bipush (-2), 2) := by decide +kernel
theorem dX6_many_21 : decode cX6_many 21 = .ok (.ireturn, 1) := by decide +kernel
theorem dX6_many_22 : decode cX6_many 22 = .ok (.iconst 0, 1) := by decide +kernel
theorem dX6_many_23 : decode cX6_many 23 = .ok (.istore_n 3, 1) := by decide +kernel
theorem dX6_many_24 : decode cX6_many 24 = .ok (.iconst 0, 1) := by decide +kernel
theorem dX6_many_25 : decode cX6_many 25 = .ok (.istore 4, 2) := by decide +kernel
theorem dX6_many_27 : decode cX6_many 27 = .ok (.iload 4, 2) := by decide +kernel
theorem dX6_many_29 : decode cX6_many 29 = .ok (.aload_n 0, 1) := by decide +kernel
theorem dX6_many_30 : decode cX6_many 30 = .ok (.getfield 10, 3) := by decide +kernel
theorem dX6_many_33 : decode cX6_many 33 = .ok (.getfield 49, 3) := by decide +kernel
theorem dX6_many_36 : decode cX6_many 36 = .ok (.if_icmp .ge 28, 3) := by decide +kernel
theorem dX6_many_39 : decode cX6_many 39 = .ok (.aload_n 0, 1) := by decide +kernel
theorem dX6_many_40 : decode cX6_many 40 = .ok (.getfield 18, 3) := by decide +kernel
theorem dX6_many_43 : decode cX6_many 43 = .ok (.iload_n 1, 1) := by decide +kernel
theorem dX6_many_44 : decode cX6_many 44 = .ok (.aaload, 1) := by decide +kernel
theorem dX6_many_45 : decode cX6_many 45 = .ok (.getfield 185, 3) := by decide +kernel
theorem dX6_many_48 : decode cX6_many 48 = .ok (.iload 4, 2) := by decide +kernel
theorem dX6_many_50 : decode cX6_many 50 = .ok (.iaload, 1) := by decide +kernel
theorem dX6_many_51 : decode cX6_many 51 = .ok (.iload_n 2, 1) := by decide +kernel
theorem dX6_many_52 : decode cX6_many 52 = .ok (.if_icmp .ne 6, 3) := by decide +kernel
theorem dX6_many_55 : decode cX6_many 55 = .ok (.iinc 3 1, 3) := by decide +kernel
theorem dX6_many_58 : decode cX6_many 58 = .ok (.iinc 4 1, 3) := by decide +kernel
theorem dX6_many_61 : decode cX6_many 61 = .ok (.goto (-34), 3) := by decide +kernel
theorem dX6_many_64 : decode cX6_many 64 = .ok (.iload_n 3, 1) := by decide +kernel
theorem dX6_many_65 : decode cX6_many 65 = .ok (.ireturn, 1) := by decide +kernel
theorem dX6_differs_0 : decode cX6_differs 0 = .ok (.aload_n 0, 1) := by decide +kernel
theorem dX6_differs_1 : decode cX6_differs 1 = .ok (.iload_n 1, 1) := by decide +kernel
theorem dX6_differs_2 : decode cX6_differs 2 = .ok (.invokevirtual 182, 3) := by decide +kernel
theorem dX6_differs_5 : decode cX6_differs 5 = .ok (.ifCond .eq 11, 3) := by decide +kernel
theorem dX6_differs_8 : decode cX6_differs 8 = .ok (.aload_n 0, 1) := by decide +kernel
theorem dX6_differs_9 : decode cX6_differs 9 = .ok (.iload_n 2, 1) := by decide +kernel
theorem dX6_differs_10 : decode cX6_differs 10 = .ok (.invokevirtual 182, 3) := by decide +kernel
theorem dX6_differs_13 : decode cX6_differs 13 = .ok (.ifCond .ne 5, 3) := by decide +kernel
theorem dX6_differs_16 : decode cX6_differs 16 = .ok (.iconst (-1), 1) := by decide +kernel
theorem dX6_differs_17 : decode cX6_differs 17 = .ok (.ireturn, 1) := by decide +kernel
theorem dX6_differs_18 : decode cX6_differs 18 = .ok (.iconst 0, 1) := by decide +kernel
theorem dX6_differs_19 : decode cX6_differs 19 = .ok (.istore_n 3, 1) := by decide +kernel
theorem dX6_differs_20 : decode cX6_differs 20 = .ok (.iload_n 3, 1) := by decide +kernel
theorem dX6_differs_21 : decode cX6_differs 21 = .ok (.aload_n 0, 1) := by decide +kernel
theorem dX6_differs_22 : decode cX6_differs 22 = .ok (.getfield 10, 3) := by decide +kernel
theorem dX6_differs_25 : decode cX6_differs 25 = .ok (.getfield 49, 3) := by decide +kernel
theorem dX6_differs_28 : decode cX6_differs 28 = .ok (.if_icmp .ge 30, 3) := by decide +kernel
theorem dX6_differs_31 : decode cX6_differs 31 = .ok (.aload_n 0, 1) := by decide +kernel
theorem dX6_differs_32 : decode cX6_differs 32 = .ok (.getfield 18, 3) := by decide +kernel
theorem dX6_differs_35 : decode cX6_differs 35 = .ok (.iload_n 1, 1) := by decide +kernel
theorem dX6_differs_36 : decode cX6_differs 36 = .ok (.aaload, 1) := by decide +kernel
theorem dX6_differs_37 : decode cX6_differs 37 = .ok (.aload_n 0, 1) := by decide +kernel
theorem dX6_differs_38 : decode cX6_differs 38 = .ok (.getfield 18, 3) := by decide +kernel
theorem dX6_differs_41 : decode cX6_differs 41 = .ok (.iload_n 2, 1) := by decide +kernel
theorem dX6_differs_42 : decode cX6_differs 42 = .ok (.aaload, 1) := by decide +kernel
theorem dX6_differs_43 : decode cX6_differs 43 = .ok (.iload_n 3, 1) := by decide +kernel
theorem dX6_differs_44 : decode cX6_differs 44 = .ok (.invokevirtual 213, 3) := by decide +kernel
theorem dX6_differs_47 : decode cX6_differs 47 = .ok (.ifCond .ne 5, 3) := by decide +kernel
theorem dX6_differs_50 : decode cX6_differs 50 = .ok (.iload_n 3, 1) := by decide +kernel
theorem dX6_differs_51 : decode cX6_differs 51 = .ok (.ireturn, 1) := by decide +kernel
theorem dX6_differs_52 : decode cX6_differs 52 = .ok (.iinc 3 1, 3) := by decide +kernel
theorem dX6_differs_55 : decode cX6_differs 55 = .ok (.goto (-35), 3) := by decide +kernel
theorem dX6_differs_58 : decode cX6_differs 58 = .ok (.bipush (-6), 2) := by decide +kernel
theorem dX6_differs_60 : decode cX6_differs 60 = .ok (.ireturn, 1) := by decide +kernel
theorem dX6_isWorld_0 : decode cX6_isWorld 0 = .ok (.iload_n 1, 1) := by decide +kernel
theorem dX6_isWorld_1 : decode cX6_isWorld 1 = .ok (.ifCond .lt 15, 3) := by decide +kernel
theorem dX6_isWorld_4 : decode cX6_isWorld 4 = .ok (.iload_n 1, 1) := by decide +kernel
theorem dX6_isWorld_5 : decode cX6_isWorld 5 = .ok (.aload_n 0, 1) := by decide +kernel
theorem dX6_isWorld_6 : decode cX6_isWorld 6 = .ok (.getfield 22, 3) := by decide +kernel
theorem dX6_isWorld_9 : decode cX6_isWorld 9 = .ok (.if_icmp .ge 7, 3) := by decide +kernel
theorem dX6_isWorld_12 : decode cX6_isWorld 12 = .ok (.iconst 1, 1) := by decide +kernel
theorem dX6_isWorld_13 : decode cX6_isWorld 13 = .ok (.goto 4, 3) := by decide +kernel
theorem dX6_isWorld_16 : decode cX6_isWorld 16 = .ok (.iconst 0, 1) := by decide +kernel
theorem dX6_isWorld_17 : decode cX6_isWorld 17 = .ok (.ireturn, 1) := by decide +kernel
theorem dX6_isName_0 : decode cX6_isName 0 = .ok (.iload_n 0, 1) := by decide +kernel
theorem dX6_isName_1 : decode cX6_isName 1 = .ok (.ifCond .lt 13, 3) := by decide +kernel
theorem dX6_isName_4 : decode cX6_isName 4 = .ok (.iload_n 0, 1) := by decide +kernel
theorem dX6_isName_5 : decode cX6_isName 5 = .ok (.bipush 10, 2) := by decide +kernel
theorem dX6_isName_7 : decode cX6_isName 7 = .ok (.if_icmp .ge 7, 3) := by decide +kernel
theorem dX6_isName_10 : decode cX6_isName 10 = .ok (.iconst 1, 1) := by decide +kernel
theorem dX6_isName_11 : decode cX6_isName 11 = .ok (.goto 4, 3) := by decide +kernel
theorem dX6_isName_14 : decode cX6_isName 14 = .ok (.iconst 0, 1) := by decide +kernel
theorem dX6_isName_15 : decode cX6_isName 15 = .ok (.ireturn, 1) := by decide +kernel
theorem dX6_usesType_0 : decode cX6_usesType 0 = .ok (.iload_n 0, 1) := by decide +kernel
theorem dX6_usesType_1 : decode cX6_usesType 1 = .ok (.iconst 1, 1) := by decide +kernel
theorem dX6_usesType_2 : decode cX6_usesType 2 = .ok (.if_icmp .lt 13, 3) := by decide +kernel
theorem dX6_usesType_5 : decode cX6_usesType 5 = .ok (.iload_n 0, 1) := by decide +kernel
theorem dX6_usesType_6 : decode cX6_usesType 6 = .ok (.bipush 6, 2) := by decide +kernel
theorem dX6_usesType_8 : decode cX6_usesType 8 = .ok (.if_icmp .gt 7, 3) := by decide +kernel
theorem dX6_usesType_11 : decode cX6_usesType 11 = .ok (.iconst 1, 1) := by decide +kernel
theorem dX6_usesType_12 : decode cX6_usesType 12 = .ok (.goto 4, 3) := by decide +kernel
theorem dX6_usesType_15 : decode cX6_usesType 15 = .ok (.iconst 0, 1) := by decide +kernel
theorem dX6_usesType_16 : decode cX6_usesType 16 = .ok (.ireturn, 1) := by decide +kernel
theorem dX6_usesName_0 : decode cX6_usesName 0 = .ok (.iload_n 0, 1) := by decide +kernel
theorem dX6_usesName_1 : decode cX6_usesName 1 = .ok (.iconst 1, 1) := by decide +kernel
theorem dX6_usesName_2 : decode cX6_usesName 2 = .ok (.if_icmp .lt 12, 3) := by decide +kernel
theorem dX6_usesName_5 : decode cX6_usesName 5 = .ok (.iload_n 0, 1) := by decide +kernel
theorem dX6_usesName_6 : decode cX6_usesName 6 = .ok (.iconst 3, 1) := by decide +kernel
theorem dX6_usesName_7 : decode cX6_usesName 7 = .ok (.if_icmp .gt 7, 3) := by decide +kernel
theorem dX6_usesName_10 : decode cX6_usesName 10 = .ok (.iconst 1, 1) := by decide +kernel
theorem dX6_usesName_11 : decode cX6_usesName 11 = .ok (.goto 4, 3) := by decide +kernel
theorem dX6_usesName_14 : decode cX6_usesName 14 = .ok (.iconst 0, 1) := by decide +kernel
theorem dX6_usesName_15 : decode cX6_usesName 15 = .ok (.ireturn, 1) := by decide +kernel
theorem dX6_fitsValue_0 : decode cX6_fitsValue 0 = .ok (.iload_n 0, 1) := by decide +kernel
theorem dX6_fitsValue_1 : decode cX6_fitsValue 1 = .ok (.bipush 7, 2) := by decide +kernel
theorem dX6_fitsValue_3 : decode cX6_fitsValue 3 = .ok (.if_icmp .ne 19, 3) := by decide +kernel
theorem dX6_fitsValue_6 : decode cX6_fitsValue 6 = .ok (.iload_n 1, 1) := by decide +kernel
theorem dX6_fitsValue_7 : decode cX6_fitsValue 7 = .ok (.ifCond .lt 13, 3) := by decide +kernel
theorem dX6_fitsValue_10 : decode cX6_fitsValue 10 = .ok (.iload_n 1, 1) := by decide +kernel
theorem dX6_fitsValue_11 : decode cX6_fitsValue 11 = .ok (.bipush 20, 2) := by decide +kernel
theorem dX6_fitsValue_13 : decode cX6_fitsValue 13 = .ok (.if_icmp .ge 7, 3) := by decide +kernel
theorem dX6_fitsValue_16 : decode cX6_fitsValue 16 = .ok (.iconst 1, 1) := by decide +kernel
theorem dX6_fitsValue_17 : decode cX6_fitsValue 17 = .ok (.goto 4, 3) := by decide +kernel
theorem dX6_fitsValue_20 : decode cX6_fitsValue 20 = .ok (.iconst 0, 1) := by decide +kernel
theorem dX6_fitsValue_21 : decode cX6_fitsValue 21 = .ok (.ireturn, 1) := by decide +kernel
theorem dX6_fitsValue_22 : decode cX6_fitsValue 22 = .ok (.iload_n 0, 1) := by decide +kernel
theorem dX6_fitsValue_23 : decode cX6_fitsValue 23 = .ok (.bipush 8, 2) := by decide +kernel
theorem dX6_fitsValue_25 : decode cX6_fitsValue 25 = .ok (.if_icmp .ne 14, 3) := by decide +kernel
theorem dX6_fitsValue_28 : decode cX6_fitsValue 28 = .ok (.iload_n 1, 1) := by decide +kernel
theorem dX6_fitsValue_29 : decode cX6_fitsValue 29 = .ok (.iconst (-1), 1) := by decide +kernel
theorem dX6_fitsValue_30 : decode cX6_fitsValue 30 = .ok (.if_icmp .lt 13, 3) := by decide +kernel
theorem dX6_fitsValue_33 : decode cX6_fitsValue 33 = .ok (.iload_n 1, 1) := by decide +kernel
theorem dX6_fitsValue_34 : decode cX6_fitsValue 34 = .ok (.bipush 22, 2) := by decide +kernel
theorem dX6_fitsValue_36 : decode cX6_fitsValue 36 = .ok (.if_icmp .gt 7, 3) := by decide +kernel
theorem dX6_fitsValue_39 : decode cX6_fitsValue 39 = .ok (.iconst 1, 1) := by decide +kernel
theorem dX6_fitsValue_40 : decode cX6_fitsValue 40 = .ok (.goto 4, 3) := by decide +kernel
theorem dX6_fitsValue_43 : decode cX6_fitsValue 43 = .ok (.iconst 0, 1) := by decide +kernel
theorem dX6_fitsValue_44 : decode cX6_fitsValue 44 = .ok (.ireturn, 1) := by decide +kernel
theorem dJ9_max_7cf53_0 : decode cJ9_max_7cf53 0 = .ok (.iload_n 0, 1) := by decide +kernel
theorem dJ9_max_7cf53_1 : decode cJ9_max_7cf53 1 = .ok (.iload_n 1, 1) := by decide +kernel
theorem dJ9_max_7cf53_2 : decode cJ9_max_7cf53 2 = .ok (.if_icmp .lt 7, 3) := by decide +kernel
theorem dJ9_max_7cf53_5 : decode cJ9_max_7cf53 5 = .ok (.iload_n 0, 1) := by decide +kernel
theorem dJ9_max_7cf53_6 : decode cJ9_max_7cf53 6 = .ok (.goto 4, 3) := by decide +kernel
theorem dJ9_max_7cf53_9 : decode cJ9_max_7cf53 9 = .ok (.iload_n 1, 1) := by decide +kernel
theorem dJ9_max_7cf53_10 : decode cJ9_max_7cf53 10 = .ok (.ireturn, 1) := by decide +kernel
theorem dJ7_fill_53178_0 : decode cJ7_fill_53178 0 = .ok (.iconst 0, 1) := by decide +kernel
theorem dJ7_fill_53178_1 : decode cJ7_fill_53178 1 = .ok (.istore_n 2, 1) := by decide +kernel
theorem dJ7_fill_53178_2 : decode cJ7_fill_53178 2 = .ok (.aload_n 0, 1) := by decide +kernel
theorem dJ7_fill_53178_3 : decode cJ7_fill_53178 3 = .ok (.arraylength, 1) := by decide +kernel
theorem dJ7_fill_53178_4 : decode cJ7_fill_53178 4 = .ok (.istore_n 3, 1) := by decide +kernel
theorem dJ7_fill_53178_5 : decode cJ7_fill_53178 5 = .ok (.iload_n 2, 1) := by decide +kernel
theorem dJ7_fill_53178_6 : decode cJ7_fill_53178 6 = .ok (.iload_n 3, 1) := by decide +kernel
theorem dJ7_fill_53178_7 : decode cJ7_fill_53178 7 = .ok (.if_icmp .ge 13, 3) := by decide +kernel
theorem dJ7_fill_53178_10 : decode cJ7_fill_53178 10 = .ok (.aload_n 0, 1) := by decide +kernel
theorem dJ7_fill_53178_11 : decode cJ7_fill_53178 11 = .ok (.iload_n 2, 1) := by decide +kernel
theorem dJ7_fill_53178_12 : decode cJ7_fill_53178 12 = .ok (.iload_n 1, 1) := by decide +kernel
theorem dJ7_fill_53178_13 : decode cJ7_fill_53178 13 = .ok (.iastore, 1) := by decide +kernel
theorem dJ7_fill_53178_14 : decode cJ7_fill_53178 14 = .ok (.iinc 2 1, 3) := by decide +kernel
theorem dJ7_fill_53178_17 : decode cJ7_fill_53178 17 = .ok (.goto (-12), 3) := by decide +kernel
theorem dJ7_fill_53178_20 : decode cJ7_fill_53178 20 = .ok (.return_, 1) := by decide +kernel
theorem dL_law_0 : decode cL_law 0 = .ok (.new 7, 3) := by decide +kernel
theorem dL_law_3 : decode cL_law 3 = .ok (.dup, 1) := by decide +kernel
theorem dL_law_4 : decode cL_law 4 = .ok (.invokespecial 9, 3) := by decide +kernel
theorem dL_law_7 : decode cL_law 7 = .ok (.astore_n 1, 1) := by decide +kernel
theorem dL_law_8 : decode cL_law 8 = .ok (.new 10, 3) := by decide +kernel
theorem dL_law_11 : decode cL_law 11 = .ok (.dup, 1) := by decide +kernel
theorem dL_law_12 : decode cL_law 12 = .ok (.invokespecial 12, 3) := by decide +kernel
theorem dL_law_15 : decode cL_law 15 = .ok (.astore_n 2, 1) := by decide +kernel
theorem dL_law_16 : decode cL_law 16 = .ok (.iconst 0, 1) := by decide +kernel
theorem dL_law_17 : decode cL_law 17 = .ok (.istore_n 3, 1) := by decide +kernel
theorem dL_law_18 : decode cL_law 18 = .ok (.iload_n 3, 1) := by decide +kernel
theorem dL_law_19 : decode cL_law 19 = .ok (.aload_n 0, 1) := by decide +kernel
theorem dL_law_20 : decode cL_law 20 = .ok (.arraylength, 1) := by decide +kernel
theorem dL_law_21 : decode cL_law 21 = .ok (.bipush 7, 2) := by decide +kernel
theorem dL_law_23 : decode cL_law 23 = .ok (.isub, 1) := by decide +kernel
theorem dL_law_24 : decode cL_law 24 = .ok (.if_icmp .gt 1027, 3) := by decide +kernel
theorem dL_law_27 : decode cL_law 27 = .ok (.aload_n 0, 1) := by decide +kernel
theorem dL_law_28 : decode cL_law 28 = .ok (.iload_n 3, 1) := by decide +kernel
theorem dL_law_29 : decode cL_law 29 = .ok (.iaload, 1) := by decide +kernel
theorem dL_law_30 : decode cL_law 30 = .ok (.bipush 31, 2) := by decide +kernel
theorem dL_law_32 : decode cL_law 32 = .ok (.iand, 1) := by decide +kernel
theorem dL_law_33 : decode cL_law 33 = .ok (.tableswitch 1012 0 22 #[107, 156, 195, 228, 297, 330, 405, 438, 471, 530, 563, 586, 599, 612, 675, 738, 771, 804, 837, 880, 913, 946, 979], 107) := by decide +kernel
theorem dL_law_140 : decode cL_law 140 = .ok (.aload_n 1, 1) := by decide +kernel
theorem dL_law_141 : decode cL_law 141 = .ok (.aload_n 0, 1) := by decide +kernel
theorem dL_law_142 : decode cL_law 142 = .ok (.iload_n 3, 1) := by decide +kernel
theorem dL_law_143 : decode cL_law 143 = .ok (.iconst 1, 1) := by decide +kernel
theorem dL_law_144 : decode cL_law 144 = .ok (.iadd, 1) := by decide +kernel
theorem dL_law_145 : decode cL_law 145 = .ok (.iaload, 1) := by decide +kernel
theorem dL_law_146 : decode cL_law 146 = .ok (.aload_n 0, 1) := by decide +kernel
theorem dL_law_147 : decode cL_law 147 = .ok (.iload_n 3, 1) := by decide +kernel
theorem dL_law_148 : decode cL_law 148 = .ok (.iconst 2, 1) := by decide +kernel
theorem dL_law_149 : decode cL_law 149 = .ok (.iadd, 1) := by decide +kernel
theorem dL_law_150 : decode cL_law 150 = .ok (.iaload, 1) := by decide +kernel
theorem dL_law_151 : decode cL_law 151 = .ok (.ifCond .eq 7, 3) := by decide +kernel
theorem dL_law_154 : decode cL_law 154 = .ok (.iconst 1, 1) := by decide +kernel
theorem dL_law_155 : decode cL_law 155 = .ok (.goto 4, 3) := by decide +kernel
theorem dL_law_158 : decode cL_law 158 = .ok (.iconst 0, 1) := by decide +kernel
theorem dL_law_159 : decode cL_law 159 = .ok (.invokevirtual 13, 3) := by decide +kernel
theorem dL_law_162 : decode cL_law 162 = .ok (.aload_n 2, 1) := by decide +kernel
theorem dL_law_163 : decode cL_law 163 = .ok (.aload_n 0, 1) := by decide +kernel
theorem dL_law_164 : decode cL_law 164 = .ok (.iload_n 3, 1) := by decide +kernel
theorem dL_law_165 : decode cL_law 165 = .ok (.iconst 1, 1) := by decide +kernel
theorem dL_law_166 : decode cL_law 166 = .ok (.iadd, 1) := by decide +kernel
theorem dL_law_167 : decode cL_law 167 = .ok (.iaload, 1) := by decide +kernel
theorem dL_law_168 : decode cL_law 168 = .ok (.aload_n 0, 1) := by decide +kernel
theorem dL_law_169 : decode cL_law 169 = .ok (.iload_n 3, 1) := by decide +kernel
theorem dL_law_170 : decode cL_law 170 = .ok (.iconst 2, 1) := by decide +kernel
theorem dL_law_171 : decode cL_law 171 = .ok (.iadd, 1) := by decide +kernel
theorem dL_law_172 : decode cL_law 172 = .ok (.iaload, 1) := by decide +kernel
theorem dL_law_173 : decode cL_law 173 = .ok (.ifCond .eq 7, 3) := by decide +kernel
theorem dL_law_176 : decode cL_law 176 = .ok (.iconst 1, 1) := by decide +kernel
theorem dL_law_177 : decode cL_law 177 = .ok (.goto 4, 3) := by decide +kernel
theorem dL_law_180 : decode cL_law 180 = .ok (.iconst 0, 1) := by decide +kernel
theorem dL_law_181 : decode cL_law 181 = .ok (.invokevirtual 17, 3) := by decide +kernel
theorem dL_law_184 : decode cL_law 184 = .ok (.if_icmp .eq 861, 3) := by decide +kernel
theorem dL_law_187 : decode cL_law 187 = .ok (.iconst 0, 1) := by decide +kernel
theorem dL_law_188 : decode cL_law 188 = .ok (.ireturn, 1) := by decide +kernel
theorem dL_law_189 : decode cL_law 189 = .ok (.aload_n 1, 1) := by decide +kernel
theorem dL_law_190 : decode cL_law 190 = .ok (.aload_n 0, 1) := by decide +kernel
theorem dL_law_191 : decode cL_law 191 = .ok (.iload_n 3, 1) := by decide +kernel
theorem dL_law_192 : decode cL_law 192 = .ok (.iconst 1, 1) := by decide +kernel
theorem dL_law_193 : decode cL_law 193 = .ok (.iadd, 1) := by decide +kernel
theorem dL_law_194 : decode cL_law 194 = .ok (.iaload, 1) := by decide +kernel
theorem dL_law_195 : decode cL_law 195 = .ok (.ifCond .eq 7, 3) := by decide +kernel
theorem dL_law_198 : decode cL_law 198 = .ok (.iconst 1, 1) := by decide +kernel
theorem dL_law_199 : decode cL_law 199 = .ok (.goto 4, 3) := by decide +kernel
theorem dL_law_202 : decode cL_law 202 = .ok (.iconst 0, 1) := by decide +kernel
theorem dL_law_203 : decode cL_law 203 = .ok (.invokevirtual 18, 3) := by decide +kernel
theorem dL_law_206 : decode cL_law 206 = .ok (.aload_n 2, 1) := by decide +kernel
theorem dL_law_207 : decode cL_law 207 = .ok (.aload_n 0, 1) := by decide +kernel
theorem dL_law_208 : decode cL_law 208 = .ok (.iload_n 3, 1) := by decide +kernel
theorem dL_law_209 : decode cL_law 209 = .ok (.iconst 1, 1) := by decide +kernel
theorem dL_law_210 : decode cL_law 210 = .ok (.iadd, 1) := by decide +kernel
theorem dL_law_211 : decode cL_law 211 = .ok (.iaload, 1) := by decide +kernel
theorem dL_law_212 : decode cL_law 212 = .ok (.ifCond .eq 7, 3) := by decide +kernel
theorem dL_law_215 : decode cL_law 215 = .ok (.iconst 1, 1) := by decide +kernel
theorem dL_law_216 : decode cL_law 216 = .ok (.goto 4, 3) := by decide +kernel
theorem dL_law_219 : decode cL_law 219 = .ok (.iconst 0, 1) := by decide +kernel
theorem dL_law_220 : decode cL_law 220 = .ok (.invokevirtual 22, 3) := by decide +kernel
theorem dL_law_223 : decode cL_law 223 = .ok (.if_icmp .eq 822, 3) := by decide +kernel
theorem dL_law_226 : decode cL_law 226 = .ok (.iconst 0, 1) := by decide +kernel
theorem dL_law_227 : decode cL_law 227 = .ok (.ireturn, 1) := by decide +kernel
theorem dL_law_228 : decode cL_law 228 = .ok (.aload_n 1, 1) := by decide +kernel
theorem dL_law_229 : decode cL_law 229 = .ok (.aload_n 0, 1) := by decide +kernel
theorem dL_law_230 : decode cL_law 230 = .ok (.iload_n 3, 1) := by decide +kernel
theorem dL_law_231 : decode cL_law 231 = .ok (.iconst 1, 1) := by decide +kernel
theorem dL_law_232 : decode cL_law 232 = .ok (.iadd, 1) := by decide +kernel
theorem dL_law_233 : decode cL_law 233 = .ok (.iaload, 1) := by decide +kernel
theorem dL_law_234 : decode cL_law 234 = .ok (.aload_n 0, 1) := by decide +kernel
theorem dL_law_235 : decode cL_law 235 = .ok (.iload_n 3, 1) := by decide +kernel
theorem dL_law_236 : decode cL_law 236 = .ok (.iconst 2, 1) := by decide +kernel
theorem dL_law_237 : decode cL_law 237 = .ok (.iadd, 1) := by decide +kernel
theorem dL_law_238 : decode cL_law 238 = .ok (.iaload, 1) := by decide +kernel
theorem dL_law_239 : decode cL_law 239 = .ok (.invokevirtual 23, 3) := by decide +kernel
theorem dL_law_242 : decode cL_law 242 = .ok (.aload_n 2, 1) := by decide +kernel
theorem dL_law_243 : decode cL_law 243 = .ok (.aload_n 0, 1) := by decide +kernel
theorem dL_law_244 : decode cL_law 244 = .ok (.iload_n 3, 1) := by decide +kernel
theorem dL_law_245 : decode cL_law 245 = .ok (.iconst 1, 1) := by decide +kernel
theorem dL_law_246 : decode cL_law 246 = .ok (.iadd, 1) := by decide +kernel
theorem dL_law_247 : decode cL_law 247 = .ok (.iaload, 1) := by decide +kernel
theorem dL_law_248 : decode cL_law 248 = .ok (.aload_n 0, 1) := by decide +kernel
theorem dL_law_249 : decode cL_law 249 = .ok (.iload_n 3, 1) := by decide +kernel
theorem dL_law_250 : decode cL_law 250 = .ok (.iconst 2, 1) := by decide +kernel
theorem dL_law_251 : decode cL_law 251 = .ok (.iadd, 1) := by decide +kernel
theorem dL_law_252 : decode cL_law 252 = .ok (.iaload, 1) := by decide +kernel
theorem dL_law_253 : decode cL_law 253 = .ok (.invokevirtual 27, 3) := by decide +kernel
theorem dL_law_256 : decode cL_law 256 = .ok (.if_icmp .eq 789, 3) := by decide +kernel
theorem dL_law_259 : decode cL_law 259 = .ok (.iconst 0, 1) := by decide +kernel
theorem dL_law_260 : decode cL_law 260 = .ok (.ireturn, 1) := by decide +kernel
theorem dL_law_261 : decode cL_law 261 = .ok (.aload_n 1, 1) := by decide +kernel
theorem dL_law_262 : decode cL_law 262 = .ok (.aload_n 0, 1) := by decide +kernel
theorem dL_law_263 : decode cL_law 263 = .ok (.iload_n 3, 1) := by decide +kernel
theorem dL_law_264 : decode cL_law 264 = .ok (.iconst 1, 1) := by decide +kernel
theorem dL_law_265 : decode cL_law 265 = .ok (.iadd, 1) := by decide +kernel
theorem dL_law_266 : decode cL_law 266 = .ok (.iaload, 1) := by decide +kernel
theorem dL_law_267 : decode cL_law 267 = .ok (.aload_n 0, 1) := by decide +kernel
theorem dL_law_268 : decode cL_law 268 = .ok (.iload_n 3, 1) := by decide +kernel
theorem dL_law_269 : decode cL_law 269 = .ok (.iconst 2, 1) := by decide +kernel
theorem dL_law_270 : decode cL_law 270 = .ok (.iadd, 1) := by decide +kernel
theorem dL_law_271 : decode cL_law 271 = .ok (.iaload, 1) := by decide +kernel
theorem dL_law_272 : decode cL_law 272 = .ok (.aload_n 0, 1) := by decide +kernel
theorem dL_law_273 : decode cL_law 273 = .ok (.iload_n 3, 1) := by decide +kernel
theorem dL_law_274 : decode cL_law 274 = .ok (.iconst 3, 1) := by decide +kernel
theorem dL_law_275 : decode cL_law 275 = .ok (.iadd, 1) := by decide +kernel
theorem dL_law_276 : decode cL_law 276 = .ok (.iaload, 1) := by decide +kernel
theorem dL_law_277 : decode cL_law 277 = .ok (.ifCond .eq 7, 3) := by decide +kernel
theorem dL_law_280 : decode cL_law 280 = .ok (.iconst 1, 1) := by decide +kernel
theorem dL_law_281 : decode cL_law 281 = .ok (.goto 4, 3) := by decide +kernel
theorem dL_law_284 : decode cL_law 284 = .ok (.iconst 0, 1) := by decide +kernel
theorem dL_law_285 : decode cL_law 285 = .ok (.aload_n 0, 1) := by decide +kernel
theorem dL_law_286 : decode cL_law 286 = .ok (.iload_n 3, 1) := by decide +kernel
theorem dL_law_287 : decode cL_law 287 = .ok (.iconst 4, 1) := by decide +kernel
theorem dL_law_288 : decode cL_law 288 = .ok (.iadd, 1) := by decide +kernel
theorem dL_law_289 : decode cL_law 289 = .ok (.iaload, 1) := by decide +kernel
theorem dL_law_290 : decode cL_law 290 = .ok (.invokevirtual 28, 3) := by decide +kernel
theorem dL_law_293 : decode cL_law 293 = .ok (.aload_n 2, 1) := by decide +kernel
theorem dL_law_294 : decode cL_law 294 = .ok (.aload_n 0, 1) := by decide +kernel
theorem dL_law_295 : decode cL_law 295 = .ok (.iload_n 3, 1) := by decide +kernel
theorem dL_law_296 : decode cL_law 296 = .ok (.iconst 1, 1) := by decide +kernel
theorem dL_law_297 : decode cL_law 297 = .ok (.iadd, 1) := by decide +kernel
theorem dL_law_298 : decode cL_law 298 = .ok (.iaload, 1) := by decide +kernel
theorem dL_law_299 : decode cL_law 299 = .ok (.aload_n 0, 1) := by decide +kernel
theorem dL_law_300 : decode cL_law 300 = .ok (.iload_n 3, 1) := by decide +kernel
theorem dL_law_301 : decode cL_law 301 = .ok (.iconst 2, 1) := by decide +kernel
theorem dL_law_302 : decode cL_law 302 = .ok (.iadd, 1) := by decide +kernel
theorem dL_law_303 : decode cL_law 303 = .ok (.iaload, 1) := by decide +kernel
theorem dL_law_304 : decode cL_law 304 = .ok (.aload_n 0, 1) := by decide +kernel
theorem dL_law_305 : decode cL_law 305 = .ok (.iload_n 3, 1) := by decide +kernel
theorem dL_law_306 : decode cL_law 306 = .ok (.iconst 3, 1) := by decide +kernel
theorem dL_law_307 : decode cL_law 307 = .ok (.iadd, 1) := by decide +kernel
theorem dL_law_308 : decode cL_law 308 = .ok (.iaload, 1) := by decide +kernel
theorem dL_law_309 : decode cL_law 309 = .ok (.ifCond .eq 7, 3) := by decide +kernel
theorem dL_law_312 : decode cL_law 312 = .ok (.iconst 1, 1) := by decide +kernel
theorem dL_law_313 : decode cL_law 313 = .ok (.goto 4, 3) := by decide +kernel
theorem dL_law_316 : decode cL_law 316 = .ok (.iconst 0, 1) := by decide +kernel
theorem dL_law_317 : decode cL_law 317 = .ok (.aload_n 0, 1) := by decide +kernel
theorem dL_law_318 : decode cL_law 318 = .ok (.iload_n 3, 1) := by decide +kernel
theorem dL_law_319 : decode cL_law 319 = .ok (.iconst 4, 1) := by decide +kernel
theorem dL_law_320 : decode cL_law 320 = .ok (.iadd, 1) := by decide +kernel
theorem dL_law_321 : decode cL_law 321 = .ok (.iaload, 1) := by decide +kernel
theorem dL_law_322 : decode cL_law 322 = .ok (.invokevirtual 32, 3) := by decide +kernel
theorem dL_law_325 : decode cL_law 325 = .ok (.if_icmp .eq 720, 3) := by decide +kernel
theorem dL_law_328 : decode cL_law 328 = .ok (.iconst 0, 1) := by decide +kernel
theorem dL_law_329 : decode cL_law 329 = .ok (.ireturn, 1) := by decide +kernel
theorem dL_law_330 : decode cL_law 330 = .ok (.aload_n 1, 1) := by decide +kernel
theorem dL_law_331 : decode cL_law 331 = .ok (.aload_n 0, 1) := by decide +kernel
theorem dL_law_332 : decode cL_law 332 = .ok (.iload_n 3, 1) := by decide +kernel
theorem dL_law_333 : decode cL_law 333 = .ok (.iconst 1, 1) := by decide +kernel
theorem dL_law_334 : decode cL_law 334 = .ok (.iadd, 1) := by decide +kernel
theorem dL_law_335 : decode cL_law 335 = .ok (.iaload, 1) := by decide +kernel
theorem dL_law_336 : decode cL_law 336 = .ok (.aload_n 0, 1) := by decide +kernel
theorem dL_law_337 : decode cL_law 337 = .ok (.iload_n 3, 1) := by decide +kernel
theorem dL_law_338 : decode cL_law 338 = .ok (.iconst 2, 1) := by decide +kernel
theorem dL_law_339 : decode cL_law 339 = .ok (.iadd, 1) := by decide +kernel
theorem dL_law_340 : decode cL_law 340 = .ok (.iaload, 1) := by decide +kernel
theorem dL_law_341 : decode cL_law 341 = .ok (.invokevirtual 33, 3) := by decide +kernel
theorem dL_law_344 : decode cL_law 344 = .ok (.aload_n 2, 1) := by decide +kernel
theorem dL_law_345 : decode cL_law 345 = .ok (.aload_n 0, 1) := by decide +kernel
theorem dL_law_346 : decode cL_law 346 = .ok (.iload_n 3, 1) := by decide +kernel
theorem dL_law_347 : decode cL_law 347 = .ok (.iconst 1, 1) := by decide +kernel
theorem dL_law_348 : decode cL_law 348 = .ok (.iadd, 1) := by decide +kernel
theorem dL_law_349 : decode cL_law 349 = .ok (.iaload, 1) := by decide +kernel
theorem dL_law_350 : decode cL_law 350 = .ok (.aload_n 0, 1) := by decide +kernel
theorem dL_law_351 : decode cL_law 351 = .ok (.iload_n 3, 1) := by decide +kernel
theorem dL_law_352 : decode cL_law 352 = .ok (.iconst 2, 1) := by decide +kernel
theorem dL_law_353 : decode cL_law 353 = .ok (.iadd, 1) := by decide +kernel
theorem dL_law_354 : decode cL_law 354 = .ok (.iaload, 1) := by decide +kernel
theorem dL_law_355 : decode cL_law 355 = .ok (.invokevirtual 36, 3) := by decide +kernel
theorem dL_law_358 : decode cL_law 358 = .ok (.if_icmp .eq 687, 3) := by decide +kernel
theorem dL_law_361 : decode cL_law 361 = .ok (.iconst 0, 1) := by decide +kernel
theorem dL_law_362 : decode cL_law 362 = .ok (.ireturn, 1) := by decide +kernel
theorem dL_law_363 : decode cL_law 363 = .ok (.aload_n 1, 1) := by decide +kernel
theorem dL_law_364 : decode cL_law 364 = .ok (.aload_n 0, 1) := by decide +kernel
theorem dL_law_365 : decode cL_law 365 = .ok (.iload_n 3, 1) := by decide +kernel
theorem dL_law_366 : decode cL_law 366 = .ok (.iconst 1, 1) := by decide +kernel
theorem dL_law_367 : decode cL_law 367 = .ok (.iadd, 1) := by decide +kernel
theorem dL_law_368 : decode cL_law 368 = .ok (.iaload, 1) := by decide +kernel
theorem dL_law_369 : decode cL_law 369 = .ok (.aload_n 0, 1) := by decide +kernel
theorem dL_law_370 : decode cL_law 370 = .ok (.iload_n 3, 1) := by decide +kernel
theorem dL_law_371 : decode cL_law 371 = .ok (.iconst 2, 1) := by decide +kernel
theorem dL_law_372 : decode cL_law 372 = .ok (.iadd, 1) := by decide +kernel
theorem dL_law_373 : decode cL_law 373 = .ok (.iaload, 1) := by decide +kernel
theorem dL_law_374 : decode cL_law 374 = .ok (.aload_n 0, 1) := by decide +kernel
theorem dL_law_375 : decode cL_law 375 = .ok (.iload_n 3, 1) := by decide +kernel
theorem dL_law_376 : decode cL_law 376 = .ok (.iconst 3, 1) := by decide +kernel
theorem dL_law_377 : decode cL_law 377 = .ok (.iadd, 1) := by decide +kernel
theorem dL_law_378 : decode cL_law 378 = .ok (.iaload, 1) := by decide +kernel
theorem dL_law_379 : decode cL_law 379 = .ok (.aload_n 0, 1) := by decide +kernel
theorem dL_law_380 : decode cL_law 380 = .ok (.iload_n 3, 1) := by decide +kernel
theorem dL_law_381 : decode cL_law 381 = .ok (.iconst 4, 1) := by decide +kernel
theorem dL_law_382 : decode cL_law 382 = .ok (.iadd, 1) := by decide +kernel
theorem dL_law_383 : decode cL_law 383 = .ok (.iaload, 1) := by decide +kernel
theorem dL_law_384 : decode cL_law 384 = .ok (.aload_n 0, 1) := by decide +kernel
theorem dL_law_385 : decode cL_law 385 = .ok (.iload_n 3, 1) := by decide +kernel
theorem dL_law_386 : decode cL_law 386 = .ok (.iconst 5, 1) := by decide +kernel
theorem dL_law_387 : decode cL_law 387 = .ok (.iadd, 1) := by decide +kernel
theorem dL_law_388 : decode cL_law 388 = .ok (.iaload, 1) := by decide +kernel
theorem dL_law_389 : decode cL_law 389 = .ok (.aload_n 0, 1) := by decide +kernel
theorem dL_law_390 : decode cL_law 390 = .ok (.iload_n 3, 1) := by decide +kernel
theorem dL_law_391 : decode cL_law 391 = .ok (.bipush 6, 2) := by decide +kernel
theorem dL_law_393 : decode cL_law 393 = .ok (.iadd, 1) := by decide +kernel
theorem dL_law_394 : decode cL_law 394 = .ok (.iaload, 1) := by decide +kernel
theorem dL_law_395 : decode cL_law 395 = .ok (.invokevirtual 37, 3) := by decide +kernel
theorem dL_law_398 : decode cL_law 398 = .ok (.aload_n 2, 1) := by decide +kernel
theorem dL_law_399 : decode cL_law 399 = .ok (.aload_n 0, 1) := by decide +kernel
theorem dL_law_400 : decode cL_law 400 = .ok (.iload_n 3, 1) := by decide +kernel
theorem dL_law_401 : decode cL_law 401 = .ok (.iconst 1, 1) := by decide +kernel
theorem dL_law_402 : decode cL_law 402 = .ok (.iadd, 1) := by decide +kernel
theorem dL_law_403 : decode cL_law 403 = .ok (.iaload, 1) := by decide +kernel
theorem dL_law_404 : decode cL_law 404 = .ok (.aload_n 0, 1) := by decide +kernel
theorem dL_law_405 : decode cL_law 405 = .ok (.iload_n 3, 1) := by decide +kernel
theorem dL_law_406 : decode cL_law 406 = .ok (.iconst 2, 1) := by decide +kernel
theorem dL_law_407 : decode cL_law 407 = .ok (.iadd, 1) := by decide +kernel
theorem dL_law_408 : decode cL_law 408 = .ok (.iaload, 1) := by decide +kernel
theorem dL_law_409 : decode cL_law 409 = .ok (.aload_n 0, 1) := by decide +kernel
theorem dL_law_410 : decode cL_law 410 = .ok (.iload_n 3, 1) := by decide +kernel
theorem dL_law_411 : decode cL_law 411 = .ok (.iconst 3, 1) := by decide +kernel
theorem dL_law_412 : decode cL_law 412 = .ok (.iadd, 1) := by decide +kernel
theorem dL_law_413 : decode cL_law 413 = .ok (.iaload, 1) := by decide +kernel
theorem dL_law_414 : decode cL_law 414 = .ok (.aload_n 0, 1) := by decide +kernel
theorem dL_law_415 : decode cL_law 415 = .ok (.iload_n 3, 1) := by decide +kernel
theorem dL_law_416 : decode cL_law 416 = .ok (.iconst 4, 1) := by decide +kernel
theorem dL_law_417 : decode cL_law 417 = .ok (.iadd, 1) := by decide +kernel
theorem dL_law_418 : decode cL_law 418 = .ok (.iaload, 1) := by decide +kernel
theorem dL_law_419 : decode cL_law 419 = .ok (.aload_n 0, 1) := by decide +kernel
theorem dL_law_420 : decode cL_law 420 = .ok (.iload_n 3, 1) := by decide +kernel
theorem dL_law_421 : decode cL_law 421 = .ok (.iconst 5, 1) := by decide +kernel
theorem dL_law_422 : decode cL_law 422 = .ok (.iadd, 1) := by decide +kernel
theorem dL_law_423 : decode cL_law 423 = .ok (.iaload, 1) := by decide +kernel
theorem dL_law_424 : decode cL_law 424 = .ok (.aload_n 0, 1) := by decide +kernel
theorem dL_law_425 : decode cL_law 425 = .ok (.iload_n 3, 1) := by decide +kernel
theorem dL_law_426 : decode cL_law 426 = .ok (.bipush 6, 2) := by decide +kernel
theorem dL_law_428 : decode cL_law 428 = .ok (.iadd, 1) := by decide +kernel
theorem dL_law_429 : decode cL_law 429 = .ok (.iaload, 1) := by decide +kernel
theorem dL_law_430 : decode cL_law 430 = .ok (.invokevirtual 41, 3) := by decide +kernel
theorem dL_law_433 : decode cL_law 433 = .ok (.if_icmp .eq 612, 3) := by decide +kernel
theorem dL_law_436 : decode cL_law 436 = .ok (.iconst 0, 1) := by decide +kernel
theorem dL_law_437 : decode cL_law 437 = .ok (.ireturn, 1) := by decide +kernel
theorem dL_law_438 : decode cL_law 438 = .ok (.aload_n 1, 1) := by decide +kernel
theorem dL_law_439 : decode cL_law 439 = .ok (.aload_n 0, 1) := by decide +kernel
theorem dL_law_440 : decode cL_law 440 = .ok (.iload_n 3, 1) := by decide +kernel
theorem dL_law_441 : decode cL_law 441 = .ok (.iconst 1, 1) := by decide +kernel
theorem dL_law_442 : decode cL_law 442 = .ok (.iadd, 1) := by decide +kernel
theorem dL_law_443 : decode cL_law 443 = .ok (.iaload, 1) := by decide +kernel
theorem dL_law_444 : decode cL_law 444 = .ok (.aload_n 0, 1) := by decide +kernel
theorem dL_law_445 : decode cL_law 445 = .ok (.iload_n 3, 1) := by decide +kernel
theorem dL_law_446 : decode cL_law 446 = .ok (.iconst 2, 1) := by decide +kernel
theorem dL_law_447 : decode cL_law 447 = .ok (.iadd, 1) := by decide +kernel
theorem dL_law_448 : decode cL_law 448 = .ok (.iaload, 1) := by decide +kernel
theorem dL_law_449 : decode cL_law 449 = .ok (.invokevirtual 42, 3) := by decide +kernel
theorem dL_law_452 : decode cL_law 452 = .ok (.aload_n 2, 1) := by decide +kernel
theorem dL_law_453 : decode cL_law 453 = .ok (.aload_n 0, 1) := by decide +kernel
theorem dL_law_454 : decode cL_law 454 = .ok (.iload_n 3, 1) := by decide +kernel
theorem dL_law_455 : decode cL_law 455 = .ok (.iconst 1, 1) := by decide +kernel
theorem dL_law_456 : decode cL_law 456 = .ok (.iadd, 1) := by decide +kernel
theorem dL_law_457 : decode cL_law 457 = .ok (.iaload, 1) := by decide +kernel
theorem dL_law_458 : decode cL_law 458 = .ok (.aload_n 0, 1) := by decide +kernel
theorem dL_law_459 : decode cL_law 459 = .ok (.iload_n 3, 1) := by decide +kernel
theorem dL_law_460 : decode cL_law 460 = .ok (.iconst 2, 1) := by decide +kernel
theorem dL_law_461 : decode cL_law 461 = .ok (.iadd, 1) := by decide +kernel
theorem dL_law_462 : decode cL_law 462 = .ok (.iaload, 1) := by decide +kernel
theorem dL_law_463 : decode cL_law 463 = .ok (.invokevirtual 45, 3) := by decide +kernel
theorem dL_law_466 : decode cL_law 466 = .ok (.if_icmp .eq 579, 3) := by decide +kernel
theorem dL_law_469 : decode cL_law 469 = .ok (.iconst 0, 1) := by decide +kernel
theorem dL_law_470 : decode cL_law 470 = .ok (.ireturn, 1) := by decide +kernel
theorem dL_law_471 : decode cL_law 471 = .ok (.aload_n 1, 1) := by decide +kernel
theorem dL_law_472 : decode cL_law 472 = .ok (.aload_n 0, 1) := by decide +kernel
theorem dL_law_473 : decode cL_law 473 = .ok (.iload_n 3, 1) := by decide +kernel
theorem dL_law_474 : decode cL_law 474 = .ok (.iconst 1, 1) := by decide +kernel
theorem dL_law_475 : decode cL_law 475 = .ok (.iadd, 1) := by decide +kernel
theorem dL_law_476 : decode cL_law 476 = .ok (.iaload, 1) := by decide +kernel
theorem dL_law_477 : decode cL_law 477 = .ok (.aload_n 0, 1) := by decide +kernel
theorem dL_law_478 : decode cL_law 478 = .ok (.iload_n 3, 1) := by decide +kernel
theorem dL_law_479 : decode cL_law 479 = .ok (.iconst 2, 1) := by decide +kernel
theorem dL_law_480 : decode cL_law 480 = .ok (.iadd, 1) := by decide +kernel
theorem dL_law_481 : decode cL_law 481 = .ok (.iaload, 1) := by decide +kernel
theorem dL_law_482 : decode cL_law 482 = .ok (.invokevirtual 46, 3) := by decide +kernel
theorem dL_law_485 : decode cL_law 485 = .ok (.aload_n 2, 1) := by decide +kernel
theorem dL_law_486 : decode cL_law 486 = .ok (.aload_n 0, 1) := by decide +kernel
theorem dL_law_487 : decode cL_law 487 = .ok (.iload_n 3, 1) := by decide +kernel
theorem dL_law_488 : decode cL_law 488 = .ok (.iconst 1, 1) := by decide +kernel
theorem dL_law_489 : decode cL_law 489 = .ok (.iadd, 1) := by decide +kernel
theorem dL_law_490 : decode cL_law 490 = .ok (.iaload, 1) := by decide +kernel
theorem dL_law_491 : decode cL_law 491 = .ok (.aload_n 0, 1) := by decide +kernel
theorem dL_law_492 : decode cL_law 492 = .ok (.iload_n 3, 1) := by decide +kernel
theorem dL_law_493 : decode cL_law 493 = .ok (.iconst 2, 1) := by decide +kernel
theorem dL_law_494 : decode cL_law 494 = .ok (.iadd, 1) := by decide +kernel
theorem dL_law_495 : decode cL_law 495 = .ok (.iaload, 1) := by decide +kernel
theorem dL_law_496 : decode cL_law 496 = .ok (.invokevirtual 49, 3) := by decide +kernel
theorem dL_law_499 : decode cL_law 499 = .ok (.if_icmp .eq 546, 3) := by decide +kernel
theorem dL_law_502 : decode cL_law 502 = .ok (.iconst 0, 1) := by decide +kernel
theorem dL_law_503 : decode cL_law 503 = .ok (.ireturn, 1) := by decide +kernel
theorem dL_law_504 : decode cL_law 504 = .ok (.aload_n 1, 1) := by decide +kernel
theorem dL_law_505 : decode cL_law 505 = .ok (.aload_n 0, 1) := by decide +kernel
theorem dL_law_506 : decode cL_law 506 = .ok (.iload_n 3, 1) := by decide +kernel
theorem dL_law_507 : decode cL_law 507 = .ok (.iconst 1, 1) := by decide +kernel
theorem dL_law_508 : decode cL_law 508 = .ok (.iadd, 1) := by decide +kernel
theorem dL_law_509 : decode cL_law 509 = .ok (.iaload, 1) := by decide +kernel
theorem dL_law_510 : decode cL_law 510 = .ok (.aload_n 0, 1) := by decide +kernel
theorem dL_law_511 : decode cL_law 511 = .ok (.iload_n 3, 1) := by decide +kernel
theorem dL_law_512 : decode cL_law 512 = .ok (.iconst 2, 1) := by decide +kernel
theorem dL_law_513 : decode cL_law 513 = .ok (.iadd, 1) := by decide +kernel
theorem dL_law_514 : decode cL_law 514 = .ok (.iaload, 1) := by decide +kernel
theorem dL_law_515 : decode cL_law 515 = .ok (.aload_n 0, 1) := by decide +kernel
theorem dL_law_516 : decode cL_law 516 = .ok (.iload_n 3, 1) := by decide +kernel
theorem dL_law_517 : decode cL_law 517 = .ok (.iconst 3, 1) := by decide +kernel
theorem dL_law_518 : decode cL_law 518 = .ok (.iadd, 1) := by decide +kernel
theorem dL_law_519 : decode cL_law 519 = .ok (.iaload, 1) := by decide +kernel
theorem dL_law_520 : decode cL_law 520 = .ok (.ifCond .eq 7, 3) := by decide +kernel
theorem dL_law_523 : decode cL_law 523 = .ok (.iconst 1, 1) := by decide +kernel
theorem dL_law_524 : decode cL_law 524 = .ok (.goto 4, 3) := by decide +kernel
theorem dL_law_527 : decode cL_law 527 = .ok (.iconst 0, 1) := by decide +kernel
theorem dL_law_528 : decode cL_law 528 = .ok (.invokevirtual 50, 3) := by decide +kernel
theorem dL_law_531 : decode cL_law 531 = .ok (.aload_n 2, 1) := by decide +kernel
theorem dL_law_532 : decode cL_law 532 = .ok (.aload_n 0, 1) := by decide +kernel
theorem dL_law_533 : decode cL_law 533 = .ok (.iload_n 3, 1) := by decide +kernel
theorem dL_law_534 : decode cL_law 534 = .ok (.iconst 1, 1) := by decide +kernel
theorem dL_law_535 : decode cL_law 535 = .ok (.iadd, 1) := by decide +kernel
theorem dL_law_536 : decode cL_law 536 = .ok (.iaload, 1) := by decide +kernel
theorem dL_law_537 : decode cL_law 537 = .ok (.aload_n 0, 1) := by decide +kernel
theorem dL_law_538 : decode cL_law 538 = .ok (.iload_n 3, 1) := by decide +kernel
theorem dL_law_539 : decode cL_law 539 = .ok (.iconst 2, 1) := by decide +kernel
theorem dL_law_540 : decode cL_law 540 = .ok (.iadd, 1) := by decide +kernel
theorem dL_law_541 : decode cL_law 541 = .ok (.iaload, 1) := by decide +kernel
theorem dL_law_542 : decode cL_law 542 = .ok (.aload_n 0, 1) := by decide +kernel
theorem dL_law_543 : decode cL_law 543 = .ok (.iload_n 3, 1) := by decide +kernel
theorem dL_law_544 : decode cL_law 544 = .ok (.iconst 3, 1) := by decide +kernel
theorem dL_law_545 : decode cL_law 545 = .ok (.iadd, 1) := by decide +kernel
theorem dL_law_546 : decode cL_law 546 = .ok (.iaload, 1) := by decide +kernel
theorem dL_law_547 : decode cL_law 547 = .ok (.ifCond .eq 7, 3) := by decide +kernel
theorem dL_law_550 : decode cL_law 550 = .ok (.iconst 1, 1) := by decide +kernel
theorem dL_law_551 : decode cL_law 551 = .ok (.goto 4, 3) := by decide +kernel
theorem dL_law_554 : decode cL_law 554 = .ok (.iconst 0, 1) := by decide +kernel
theorem dL_law_555 : decode cL_law 555 = .ok (.invokevirtual 54, 3) := by decide +kernel
theorem dL_law_558 : decode cL_law 558 = .ok (.if_icmp .eq 487, 3) := by decide +kernel
theorem dL_law_561 : decode cL_law 561 = .ok (.iconst 0, 1) := by decide +kernel
theorem dL_law_562 : decode cL_law 562 = .ok (.ireturn, 1) := by decide +kernel
theorem dL_law_563 : decode cL_law 563 = .ok (.aload_n 1, 1) := by decide +kernel
theorem dL_law_564 : decode cL_law 564 = .ok (.aload_n 0, 1) := by decide +kernel
theorem dL_law_565 : decode cL_law 565 = .ok (.iload_n 3, 1) := by decide +kernel
theorem dL_law_566 : decode cL_law 566 = .ok (.iconst 1, 1) := by decide +kernel
theorem dL_law_567 : decode cL_law 567 = .ok (.iadd, 1) := by decide +kernel
theorem dL_law_568 : decode cL_law 568 = .ok (.iaload, 1) := by decide +kernel
theorem dL_law_569 : decode cL_law 569 = .ok (.aload_n 0, 1) := by decide +kernel
theorem dL_law_570 : decode cL_law 570 = .ok (.iload_n 3, 1) := by decide +kernel
theorem dL_law_571 : decode cL_law 571 = .ok (.iconst 2, 1) := by decide +kernel
theorem dL_law_572 : decode cL_law 572 = .ok (.iadd, 1) := by decide +kernel
theorem dL_law_573 : decode cL_law 573 = .ok (.iaload, 1) := by decide +kernel
theorem dL_law_574 : decode cL_law 574 = .ok (.invokevirtual 55, 3) := by decide +kernel
theorem dL_law_577 : decode cL_law 577 = .ok (.aload_n 2, 1) := by decide +kernel
theorem dL_law_578 : decode cL_law 578 = .ok (.aload_n 0, 1) := by decide +kernel
theorem dL_law_579 : decode cL_law 579 = .ok (.iload_n 3, 1) := by decide +kernel
theorem dL_law_580 : decode cL_law 580 = .ok (.iconst 1, 1) := by decide +kernel
theorem dL_law_581 : decode cL_law 581 = .ok (.iadd, 1) := by decide +kernel
theorem dL_law_582 : decode cL_law 582 = .ok (.iaload, 1) := by decide +kernel
theorem dL_law_583 : decode cL_law 583 = .ok (.aload_n 0, 1) := by decide +kernel
theorem dL_law_584 : decode cL_law 584 = .ok (.iload_n 3, 1) := by decide +kernel
theorem dL_law_585 : decode cL_law 585 = .ok (.iconst 2, 1) := by decide +kernel
theorem dL_law_586 : decode cL_law 586 = .ok (.iadd, 1) := by decide +kernel
theorem dL_law_587 : decode cL_law 587 = .ok (.iaload, 1) := by decide +kernel
theorem dL_law_588 : decode cL_law 588 = .ok (.invokevirtual 58, 3) := by decide +kernel
theorem dL_law_591 : decode cL_law 591 = .ok (.if_icmp .eq 454, 3) := by decide +kernel
theorem dL_law_594 : decode cL_law 594 = .ok (.iconst 0, 1) := by decide +kernel
theorem dL_law_595 : decode cL_law 595 = .ok (.ireturn, 1) := by decide +kernel
theorem dL_law_596 : decode cL_law 596 = .ok (.aload_n 1, 1) := by decide +kernel
theorem dL_law_597 : decode cL_law 597 = .ok (.aload_n 0, 1) := by decide +kernel
theorem dL_law_598 : decode cL_law 598 = .ok (.iload_n 3, 1) := by decide +kernel
theorem dL_law_599 : decode cL_law 599 = .ok (.iconst 1, 1) := by decide +kernel
theorem dL_law_600 : decode cL_law 600 = .ok (.iadd, 1) := by decide +kernel
theorem dL_law_601 : decode cL_law 601 = .ok (.iaload, 1) := by decide +kernel
theorem dL_law_602 : decode cL_law 602 = .ok (.invokevirtual 59, 3) := by decide +kernel
theorem dL_law_605 : decode cL_law 605 = .ok (.aload_n 2, 1) := by decide +kernel
theorem dL_law_606 : decode cL_law 606 = .ok (.aload_n 0, 1) := by decide +kernel
theorem dL_law_607 : decode cL_law 607 = .ok (.iload_n 3, 1) := by decide +kernel
theorem dL_law_608 : decode cL_law 608 = .ok (.iconst 1, 1) := by decide +kernel
theorem dL_law_609 : decode cL_law 609 = .ok (.iadd, 1) := by decide +kernel
theorem dL_law_610 : decode cL_law 610 = .ok (.iaload, 1) := by decide +kernel
theorem dL_law_611 : decode cL_law 611 = .ok (.invokevirtual 63, 3) := by decide +kernel
theorem dL_law_614 : decode cL_law 614 = .ok (.if_icmp .eq 431, 3) := by decide +kernel
theorem dL_law_617 : decode cL_law 617 = .ok (.iconst 0, 1) := by decide +kernel
theorem dL_law_618 : decode cL_law 618 = .ok (.ireturn, 1) := by decide +kernel
theorem dL_law_619 : decode cL_law 619 = .ok (.aload_n 1, 1) := by decide +kernel
theorem dL_law_620 : decode cL_law 620 = .ok (.invokevirtual 64, 3) := by decide +kernel
theorem dL_law_623 : decode cL_law 623 = .ok (.aload_n 2, 1) := by decide +kernel
theorem dL_law_624 : decode cL_law 624 = .ok (.invokevirtual 68, 3) := by decide +kernel
theorem dL_law_627 : decode cL_law 627 = .ok (.if_icmp .eq 418, 3) := by decide +kernel
theorem dL_law_630 : decode cL_law 630 = .ok (.iconst 0, 1) := by decide +kernel
theorem dL_law_631 : decode cL_law 631 = .ok (.ireturn, 1) := by decide +kernel
theorem dL_law_632 : decode cL_law 632 = .ok (.aload_n 1, 1) := by decide +kernel
theorem dL_law_633 : decode cL_law 633 = .ok (.invokevirtual 69, 3) := by decide +kernel
theorem dL_law_636 : decode cL_law 636 = .ok (.aload_n 2, 1) := by decide +kernel
theorem dL_law_637 : decode cL_law 637 = .ok (.invokevirtual 72, 3) := by decide +kernel
theorem dL_law_640 : decode cL_law 640 = .ok (.if_icmp .eq 405, 3) := by decide +kernel
theorem dL_law_643 : decode cL_law 643 = .ok (.iconst 0, 1) := by decide +kernel
theorem dL_law_644 : decode cL_law 644 = .ok (.ireturn, 1) := by decide +kernel
theorem dL_law_645 : decode cL_law 645 = .ok (.aload_n 1, 1) := by decide +kernel
theorem dL_law_646 : decode cL_law 646 = .ok (.aload_n 0, 1) := by decide +kernel
theorem dL_law_647 : decode cL_law 647 = .ok (.iload_n 3, 1) := by decide +kernel
theorem dL_law_648 : decode cL_law 648 = .ok (.iconst 1, 1) := by decide +kernel
theorem dL_law_649 : decode cL_law 649 = .ok (.iadd, 1) := by decide +kernel
theorem dL_law_650 : decode cL_law 650 = .ok (.iaload, 1) := by decide +kernel
theorem dL_law_651 : decode cL_law 651 = .ok (.aload_n 0, 1) := by decide +kernel
theorem dL_law_652 : decode cL_law 652 = .ok (.iload_n 3, 1) := by decide +kernel
theorem dL_law_653 : decode cL_law 653 = .ok (.iconst 2, 1) := by decide +kernel
theorem dL_law_654 : decode cL_law 654 = .ok (.iadd, 1) := by decide +kernel
theorem dL_law_655 : decode cL_law 655 = .ok (.iaload, 1) := by decide +kernel
theorem dL_law_656 : decode cL_law 656 = .ok (.aload_n 0, 1) := by decide +kernel
theorem dL_law_657 : decode cL_law 657 = .ok (.iload_n 3, 1) := by decide +kernel
theorem dL_law_658 : decode cL_law 658 = .ok (.iconst 3, 1) := by decide +kernel
theorem dL_law_659 : decode cL_law 659 = .ok (.iadd, 1) := by decide +kernel
theorem dL_law_660 : decode cL_law 660 = .ok (.iaload, 1) := by decide +kernel
theorem dL_law_661 : decode cL_law 661 = .ok (.aload_n 0, 1) := by decide +kernel
theorem dL_law_662 : decode cL_law 662 = .ok (.iload_n 3, 1) := by decide +kernel
theorem dL_law_663 : decode cL_law 663 = .ok (.iconst 4, 1) := by decide +kernel
theorem dL_law_664 : decode cL_law 664 = .ok (.iadd, 1) := by decide +kernel
theorem dL_law_665 : decode cL_law 665 = .ok (.iaload, 1) := by decide +kernel
theorem dL_law_666 : decode cL_law 666 = .ok (.aload_n 0, 1) := by decide +kernel
theorem dL_law_667 : decode cL_law 667 = .ok (.iload_n 3, 1) := by decide +kernel
theorem dL_law_668 : decode cL_law 668 = .ok (.iconst 5, 1) := by decide +kernel
theorem dL_law_669 : decode cL_law 669 = .ok (.iadd, 1) := by decide +kernel
theorem dL_law_670 : decode cL_law 670 = .ok (.iaload, 1) := by decide +kernel
theorem dL_law_671 : decode cL_law 671 = .ok (.invokevirtual 73, 3) := by decide +kernel
theorem dL_law_674 : decode cL_law 674 = .ok (.aload_n 2, 1) := by decide +kernel
theorem dL_law_675 : decode cL_law 675 = .ok (.aload_n 0, 1) := by decide +kernel
theorem dL_law_676 : decode cL_law 676 = .ok (.iload_n 3, 1) := by decide +kernel
theorem dL_law_677 : decode cL_law 677 = .ok (.iconst 1, 1) := by decide +kernel
theorem dL_law_678 : decode cL_law 678 = .ok (.iadd, 1) := by decide +kernel
theorem dL_law_679 : decode cL_law 679 = .ok (.iaload, 1) := by decide +kernel
theorem dL_law_680 : decode cL_law 680 = .ok (.aload_n 0, 1) := by decide +kernel
theorem dL_law_681 : decode cL_law 681 = .ok (.iload_n 3, 1) := by decide +kernel
theorem dL_law_682 : decode cL_law 682 = .ok (.iconst 2, 1) := by decide +kernel
theorem dL_law_683 : decode cL_law 683 = .ok (.iadd, 1) := by decide +kernel
theorem dL_law_684 : decode cL_law 684 = .ok (.iaload, 1) := by decide +kernel
theorem dL_law_685 : decode cL_law 685 = .ok (.aload_n 0, 1) := by decide +kernel
theorem dL_law_686 : decode cL_law 686 = .ok (.iload_n 3, 1) := by decide +kernel
theorem dL_law_687 : decode cL_law 687 = .ok (.iconst 3, 1) := by decide +kernel
theorem dL_law_688 : decode cL_law 688 = .ok (.iadd, 1) := by decide +kernel
theorem dL_law_689 : decode cL_law 689 = .ok (.iaload, 1) := by decide +kernel
theorem dL_law_690 : decode cL_law 690 = .ok (.aload_n 0, 1) := by decide +kernel
theorem dL_law_691 : decode cL_law 691 = .ok (.iload_n 3, 1) := by decide +kernel
theorem dL_law_692 : decode cL_law 692 = .ok (.iconst 4, 1) := by decide +kernel
theorem dL_law_693 : decode cL_law 693 = .ok (.iadd, 1) := by decide +kernel
theorem dL_law_694 : decode cL_law 694 = .ok (.iaload, 1) := by decide +kernel
theorem dL_law_695 : decode cL_law 695 = .ok (.aload_n 0, 1) := by decide +kernel
theorem dL_law_696 : decode cL_law 696 = .ok (.iload_n 3, 1) := by decide +kernel
theorem dL_law_697 : decode cL_law 697 = .ok (.iconst 5, 1) := by decide +kernel
theorem dL_law_698 : decode cL_law 698 = .ok (.iadd, 1) := by decide +kernel
theorem dL_law_699 : decode cL_law 699 = .ok (.iaload, 1) := by decide +kernel
theorem dL_law_700 : decode cL_law 700 = .ok (.invokevirtual 77, 3) := by decide +kernel
theorem dL_law_703 : decode cL_law 703 = .ok (.if_icmp .eq 342, 3) := by decide +kernel
theorem dL_law_706 : decode cL_law 706 = .ok (.iconst 0, 1) := by decide +kernel
theorem dL_law_707 : decode cL_law 707 = .ok (.ireturn, 1) := by decide +kernel
theorem dL_law_708 : decode cL_law 708 = .ok (.aload_n 1, 1) := by decide +kernel
theorem dL_law_709 : decode cL_law 709 = .ok (.aload_n 0, 1) := by decide +kernel
theorem dL_law_710 : decode cL_law 710 = .ok (.iload_n 3, 1) := by decide +kernel
theorem dL_law_711 : decode cL_law 711 = .ok (.iconst 1, 1) := by decide +kernel
theorem dL_law_712 : decode cL_law 712 = .ok (.iadd, 1) := by decide +kernel
theorem dL_law_713 : decode cL_law 713 = .ok (.iaload, 1) := by decide +kernel
theorem dL_law_714 : decode cL_law 714 = .ok (.aload_n 0, 1) := by decide +kernel
theorem dL_law_715 : decode cL_law 715 = .ok (.iload_n 3, 1) := by decide +kernel
theorem dL_law_716 : decode cL_law 716 = .ok (.iconst 2, 1) := by decide +kernel
theorem dL_law_717 : decode cL_law 717 = .ok (.iadd, 1) := by decide +kernel
theorem dL_law_718 : decode cL_law 718 = .ok (.iaload, 1) := by decide +kernel
theorem dL_law_719 : decode cL_law 719 = .ok (.aload_n 0, 1) := by decide +kernel
theorem dL_law_720 : decode cL_law 720 = .ok (.iload_n 3, 1) := by decide +kernel
theorem dL_law_721 : decode cL_law 721 = .ok (.iconst 3, 1) := by decide +kernel
theorem dL_law_722 : decode cL_law 722 = .ok (.iadd, 1) := by decide +kernel
theorem dL_law_723 : decode cL_law 723 = .ok (.iaload, 1) := by decide +kernel
theorem dL_law_724 : decode cL_law 724 = .ok (.aload_n 0, 1) := by decide +kernel
theorem dL_law_725 : decode cL_law 725 = .ok (.iload_n 3, 1) := by decide +kernel
theorem dL_law_726 : decode cL_law 726 = .ok (.iconst 4, 1) := by decide +kernel
theorem dL_law_727 : decode cL_law 727 = .ok (.iadd, 1) := by decide +kernel
theorem dL_law_728 : decode cL_law 728 = .ok (.iaload, 1) := by decide +kernel
theorem dL_law_729 : decode cL_law 729 = .ok (.aload_n 0, 1) := by decide +kernel
theorem dL_law_730 : decode cL_law 730 = .ok (.iload_n 3, 1) := by decide +kernel
theorem dL_law_731 : decode cL_law 731 = .ok (.iconst 5, 1) := by decide +kernel
theorem dL_law_732 : decode cL_law 732 = .ok (.iadd, 1) := by decide +kernel
theorem dL_law_733 : decode cL_law 733 = .ok (.iaload, 1) := by decide +kernel
theorem dL_law_734 : decode cL_law 734 = .ok (.invokevirtual 78, 3) := by decide +kernel
theorem dL_law_737 : decode cL_law 737 = .ok (.aload_n 2, 1) := by decide +kernel
theorem dL_law_738 : decode cL_law 738 = .ok (.aload_n 0, 1) := by decide +kernel
theorem dL_law_739 : decode cL_law 739 = .ok (.iload_n 3, 1) := by decide +kernel
theorem dL_law_740 : decode cL_law 740 = .ok (.iconst 1, 1) := by decide +kernel
theorem dL_law_741 : decode cL_law 741 = .ok (.iadd, 1) := by decide +kernel
theorem dL_law_742 : decode cL_law 742 = .ok (.iaload, 1) := by decide +kernel
theorem dL_law_743 : decode cL_law 743 = .ok (.aload_n 0, 1) := by decide +kernel
theorem dL_law_744 : decode cL_law 744 = .ok (.iload_n 3, 1) := by decide +kernel
theorem dL_law_745 : decode cL_law 745 = .ok (.iconst 2, 1) := by decide +kernel
theorem dL_law_746 : decode cL_law 746 = .ok (.iadd, 1) := by decide +kernel
theorem dL_law_747 : decode cL_law 747 = .ok (.iaload, 1) := by decide +kernel
theorem dL_law_748 : decode cL_law 748 = .ok (.aload_n 0, 1) := by decide +kernel
theorem dL_law_749 : decode cL_law 749 = .ok (.iload_n 3, 1) := by decide +kernel
theorem dL_law_750 : decode cL_law 750 = .ok (.iconst 3, 1) := by decide +kernel
theorem dL_law_751 : decode cL_law 751 = .ok (.iadd, 1) := by decide +kernel
theorem dL_law_752 : decode cL_law 752 = .ok (.iaload, 1) := by decide +kernel
theorem dL_law_753 : decode cL_law 753 = .ok (.aload_n 0, 1) := by decide +kernel
theorem dL_law_754 : decode cL_law 754 = .ok (.iload_n 3, 1) := by decide +kernel
theorem dL_law_755 : decode cL_law 755 = .ok (.iconst 4, 1) := by decide +kernel
theorem dL_law_756 : decode cL_law 756 = .ok (.iadd, 1) := by decide +kernel
theorem dL_law_757 : decode cL_law 757 = .ok (.iaload, 1) := by decide +kernel
theorem dL_law_758 : decode cL_law 758 = .ok (.aload_n 0, 1) := by decide +kernel
theorem dL_law_759 : decode cL_law 759 = .ok (.iload_n 3, 1) := by decide +kernel
theorem dL_law_760 : decode cL_law 760 = .ok (.iconst 5, 1) := by decide +kernel
theorem dL_law_761 : decode cL_law 761 = .ok (.iadd, 1) := by decide +kernel
theorem dL_law_762 : decode cL_law 762 = .ok (.iaload, 1) := by decide +kernel
theorem dL_law_763 : decode cL_law 763 = .ok (.invokevirtual 81, 3) := by decide +kernel
theorem dL_law_766 : decode cL_law 766 = .ok (.if_icmp .eq 279, 3) := by decide +kernel
theorem dL_law_769 : decode cL_law 769 = .ok (.iconst 0, 1) := by decide +kernel
theorem dL_law_770 : decode cL_law 770 = .ok (.ireturn, 1) := by decide +kernel
theorem dL_law_771 : decode cL_law 771 = .ok (.aload_n 1, 1) := by decide +kernel
theorem dL_law_772 : decode cL_law 772 = .ok (.aload_n 0, 1) := by decide +kernel
theorem dL_law_773 : decode cL_law 773 = .ok (.iload_n 3, 1) := by decide +kernel
theorem dL_law_774 : decode cL_law 774 = .ok (.iconst 1, 1) := by decide +kernel
theorem dL_law_775 : decode cL_law 775 = .ok (.iadd, 1) := by decide +kernel
theorem dL_law_776 : decode cL_law 776 = .ok (.iaload, 1) := by decide +kernel
theorem dL_law_777 : decode cL_law 777 = .ok (.aload_n 0, 1) := by decide +kernel
theorem dL_law_778 : decode cL_law 778 = .ok (.iload_n 3, 1) := by decide +kernel
theorem dL_law_779 : decode cL_law 779 = .ok (.iconst 2, 1) := by decide +kernel
theorem dL_law_780 : decode cL_law 780 = .ok (.iadd, 1) := by decide +kernel
theorem dL_law_781 : decode cL_law 781 = .ok (.iaload, 1) := by decide +kernel
theorem dL_law_782 : decode cL_law 782 = .ok (.invokevirtual 82, 3) := by decide +kernel
theorem dL_law_785 : decode cL_law 785 = .ok (.aload_n 2, 1) := by decide +kernel
theorem dL_law_786 : decode cL_law 786 = .ok (.aload_n 0, 1) := by decide +kernel
theorem dL_law_787 : decode cL_law 787 = .ok (.iload_n 3, 1) := by decide +kernel
theorem dL_law_788 : decode cL_law 788 = .ok (.iconst 1, 1) := by decide +kernel
theorem dL_law_789 : decode cL_law 789 = .ok (.iadd, 1) := by decide +kernel
theorem dL_law_790 : decode cL_law 790 = .ok (.iaload, 1) := by decide +kernel
theorem dL_law_791 : decode cL_law 791 = .ok (.aload_n 0, 1) := by decide +kernel
theorem dL_law_792 : decode cL_law 792 = .ok (.iload_n 3, 1) := by decide +kernel
theorem dL_law_793 : decode cL_law 793 = .ok (.iconst 2, 1) := by decide +kernel
theorem dL_law_794 : decode cL_law 794 = .ok (.iadd, 1) := by decide +kernel
theorem dL_law_795 : decode cL_law 795 = .ok (.iaload, 1) := by decide +kernel
theorem dL_law_796 : decode cL_law 796 = .ok (.invokevirtual 85, 3) := by decide +kernel
theorem dL_law_799 : decode cL_law 799 = .ok (.if_icmp .eq 246, 3) := by decide +kernel
theorem dL_law_802 : decode cL_law 802 = .ok (.iconst 0, 1) := by decide +kernel
theorem dL_law_803 : decode cL_law 803 = .ok (.ireturn, 1) := by decide +kernel
theorem dL_law_804 : decode cL_law 804 = .ok (.aload_n 1, 1) := by decide +kernel
theorem dL_law_805 : decode cL_law 805 = .ok (.aload_n 0, 1) := by decide +kernel
theorem dL_law_806 : decode cL_law 806 = .ok (.iload_n 3, 1) := by decide +kernel
theorem dL_law_807 : decode cL_law 807 = .ok (.iconst 1, 1) := by decide +kernel
theorem dL_law_808 : decode cL_law 808 = .ok (.iadd, 1) := by decide +kernel
theorem dL_law_809 : decode cL_law 809 = .ok (.iaload, 1) := by decide +kernel
theorem dL_law_810 : decode cL_law 810 = .ok (.aload_n 0, 1) := by decide +kernel
theorem dL_law_811 : decode cL_law 811 = .ok (.iload_n 3, 1) := by decide +kernel
theorem dL_law_812 : decode cL_law 812 = .ok (.iconst 2, 1) := by decide +kernel
theorem dL_law_813 : decode cL_law 813 = .ok (.iadd, 1) := by decide +kernel
theorem dL_law_814 : decode cL_law 814 = .ok (.iaload, 1) := by decide +kernel
theorem dL_law_815 : decode cL_law 815 = .ok (.invokevirtual 86, 3) := by decide +kernel
theorem dL_law_818 : decode cL_law 818 = .ok (.aload_n 2, 1) := by decide +kernel
theorem dL_law_819 : decode cL_law 819 = .ok (.aload_n 0, 1) := by decide +kernel
theorem dL_law_820 : decode cL_law 820 = .ok (.iload_n 3, 1) := by decide +kernel
theorem dL_law_821 : decode cL_law 821 = .ok (.iconst 1, 1) := by decide +kernel
theorem dL_law_822 : decode cL_law 822 = .ok (.iadd, 1) := by decide +kernel
theorem dL_law_823 : decode cL_law 823 = .ok (.iaload, 1) := by decide +kernel
theorem dL_law_824 : decode cL_law 824 = .ok (.aload_n 0, 1) := by decide +kernel
theorem dL_law_825 : decode cL_law 825 = .ok (.iload_n 3, 1) := by decide +kernel
theorem dL_law_826 : decode cL_law 826 = .ok (.iconst 2, 1) := by decide +kernel
theorem dL_law_827 : decode cL_law 827 = .ok (.iadd, 1) := by decide +kernel
theorem dL_law_828 : decode cL_law 828 = .ok (.iaload, 1) := by decide +kernel
theorem dL_law_829 : decode cL_law 829 = .ok (.invokevirtual 89, 3) := by decide +kernel
theorem dL_law_832 : decode cL_law 832 = .ok (.if_icmp .eq 213, 3) := by decide +kernel
theorem dL_law_835 : decode cL_law 835 = .ok (.iconst 0, 1) := by decide +kernel
theorem dL_law_836 : decode cL_law 836 = .ok (.ireturn, 1) := by decide +kernel
theorem dL_law_837 : decode cL_law 837 = .ok (.aload_n 1, 1) := by decide +kernel
theorem dL_law_838 : decode cL_law 838 = .ok (.aload_n 0, 1) := by decide +kernel
theorem dL_law_839 : decode cL_law 839 = .ok (.iload_n 3, 1) := by decide +kernel
theorem dL_law_840 : decode cL_law 840 = .ok (.iconst 1, 1) := by decide +kernel
theorem dL_law_841 : decode cL_law 841 = .ok (.iadd, 1) := by decide +kernel
theorem dL_law_842 : decode cL_law 842 = .ok (.iaload, 1) := by decide +kernel
theorem dL_law_843 : decode cL_law 843 = .ok (.aload_n 0, 1) := by decide +kernel
theorem dL_law_844 : decode cL_law 844 = .ok (.iload_n 3, 1) := by decide +kernel
theorem dL_law_845 : decode cL_law 845 = .ok (.iconst 2, 1) := by decide +kernel
theorem dL_law_846 : decode cL_law 846 = .ok (.iadd, 1) := by decide +kernel
theorem dL_law_847 : decode cL_law 847 = .ok (.iaload, 1) := by decide +kernel
theorem dL_law_848 : decode cL_law 848 = .ok (.invokevirtual 90, 3) := by decide +kernel
theorem dL_law_851 : decode cL_law 851 = .ok (.aload_n 2, 1) := by decide +kernel
theorem dL_law_852 : decode cL_law 852 = .ok (.aload_n 0, 1) := by decide +kernel
theorem dL_law_853 : decode cL_law 853 = .ok (.iload_n 3, 1) := by decide +kernel
theorem dL_law_854 : decode cL_law 854 = .ok (.iconst 1, 1) := by decide +kernel
theorem dL_law_855 : decode cL_law 855 = .ok (.iadd, 1) := by decide +kernel
theorem dL_law_856 : decode cL_law 856 = .ok (.iaload, 1) := by decide +kernel
theorem dL_law_857 : decode cL_law 857 = .ok (.aload_n 0, 1) := by decide +kernel
theorem dL_law_858 : decode cL_law 858 = .ok (.iload_n 3, 1) := by decide +kernel
theorem dL_law_859 : decode cL_law 859 = .ok (.iconst 2, 1) := by decide +kernel
theorem dL_law_860 : decode cL_law 860 = .ok (.iadd, 1) := by decide +kernel
theorem dL_law_861 : decode cL_law 861 = .ok (.iaload, 1) := by decide +kernel
theorem dL_law_862 : decode cL_law 862 = .ok (.invokevirtual 93, 3) := by decide +kernel
theorem dL_law_865 : decode cL_law 865 = .ok (.if_icmp .eq 180, 3) := by decide +kernel
theorem dL_law_868 : decode cL_law 868 = .ok (.iconst 0, 1) := by decide +kernel
theorem dL_law_869 : decode cL_law 869 = .ok (.ireturn, 1) := by decide +kernel
theorem dL_law_870 : decode cL_law 870 = .ok (.aload_n 1, 1) := by decide +kernel
theorem dL_law_871 : decode cL_law 871 = .ok (.aload_n 0, 1) := by decide +kernel
theorem dL_law_872 : decode cL_law 872 = .ok (.iload_n 3, 1) := by decide +kernel
theorem dL_law_873 : decode cL_law 873 = .ok (.iconst 1, 1) := by decide +kernel
theorem dL_law_874 : decode cL_law 874 = .ok (.iadd, 1) := by decide +kernel
theorem dL_law_875 : decode cL_law 875 = .ok (.iaload, 1) := by decide +kernel
theorem dL_law_876 : decode cL_law 876 = .ok (.aload_n 0, 1) := by decide +kernel
theorem dL_law_877 : decode cL_law 877 = .ok (.iload_n 3, 1) := by decide +kernel
theorem dL_law_878 : decode cL_law 878 = .ok (.iconst 2, 1) := by decide +kernel
theorem dL_law_879 : decode cL_law 879 = .ok (.iadd, 1) := by decide +kernel
theorem dL_law_880 : decode cL_law 880 = .ok (.iaload, 1) := by decide +kernel
theorem dL_law_881 : decode cL_law 881 = .ok (.aload_n 0, 1) := by decide +kernel
theorem dL_law_882 : decode cL_law 882 = .ok (.iload_n 3, 1) := by decide +kernel
theorem dL_law_883 : decode cL_law 883 = .ok (.iconst 3, 1) := by decide +kernel
theorem dL_law_884 : decode cL_law 884 = .ok (.iadd, 1) := by decide +kernel
theorem dL_law_885 : decode cL_law 885 = .ok (.iaload, 1) := by decide +kernel
theorem dL_law_886 : decode cL_law 886 = .ok (.invokevirtual 94, 3) := by decide +kernel
theorem dL_law_889 : decode cL_law 889 = .ok (.aload_n 2, 1) := by decide +kernel
theorem dL_law_890 : decode cL_law 890 = .ok (.aload_n 0, 1) := by decide +kernel
theorem dL_law_891 : decode cL_law 891 = .ok (.iload_n 3, 1) := by decide +kernel
theorem dL_law_892 : decode cL_law 892 = .ok (.iconst 1, 1) := by decide +kernel
theorem dL_law_893 : decode cL_law 893 = .ok (.iadd, 1) := by decide +kernel
theorem dL_law_894 : decode cL_law 894 = .ok (.iaload, 1) := by decide +kernel
theorem dL_law_895 : decode cL_law 895 = .ok (.aload_n 0, 1) := by decide +kernel
theorem dL_law_896 : decode cL_law 896 = .ok (.iload_n 3, 1) := by decide +kernel
theorem dL_law_897 : decode cL_law 897 = .ok (.iconst 2, 1) := by decide +kernel
theorem dL_law_898 : decode cL_law 898 = .ok (.iadd, 1) := by decide +kernel
theorem dL_law_899 : decode cL_law 899 = .ok (.iaload, 1) := by decide +kernel
theorem dL_law_900 : decode cL_law 900 = .ok (.aload_n 0, 1) := by decide +kernel
theorem dL_law_901 : decode cL_law 901 = .ok (.iload_n 3, 1) := by decide +kernel
theorem dL_law_902 : decode cL_law 902 = .ok (.iconst 3, 1) := by decide +kernel
theorem dL_law_903 : decode cL_law 903 = .ok (.iadd, 1) := by decide +kernel
theorem dL_law_904 : decode cL_law 904 = .ok (.iaload, 1) := by decide +kernel
theorem dL_law_905 : decode cL_law 905 = .ok (.invokevirtual 98, 3) := by decide +kernel
theorem dL_law_908 : decode cL_law 908 = .ok (.if_icmp .eq 137, 3) := by decide +kernel
theorem dL_law_911 : decode cL_law 911 = .ok (.iconst 0, 1) := by decide +kernel
theorem dL_law_912 : decode cL_law 912 = .ok (.ireturn, 1) := by decide +kernel
theorem dL_law_913 : decode cL_law 913 = .ok (.aload_n 1, 1) := by decide +kernel
theorem dL_law_914 : decode cL_law 914 = .ok (.aload_n 0, 1) := by decide +kernel
theorem dL_law_915 : decode cL_law 915 = .ok (.iload_n 3, 1) := by decide +kernel
theorem dL_law_916 : decode cL_law 916 = .ok (.iconst 1, 1) := by decide +kernel
theorem dL_law_917 : decode cL_law 917 = .ok (.iadd, 1) := by decide +kernel
theorem dL_law_918 : decode cL_law 918 = .ok (.iaload, 1) := by decide +kernel
theorem dL_law_919 : decode cL_law 919 = .ok (.aload_n 0, 1) := by decide +kernel
theorem dL_law_920 : decode cL_law 920 = .ok (.iload_n 3, 1) := by decide +kernel
theorem dL_law_921 : decode cL_law 921 = .ok (.iconst 2, 1) := by decide +kernel
theorem dL_law_922 : decode cL_law 922 = .ok (.iadd, 1) := by decide +kernel
theorem dL_law_923 : decode cL_law 923 = .ok (.iaload, 1) := by decide +kernel
theorem dL_law_924 : decode cL_law 924 = .ok (.invokevirtual 99, 3) := by decide +kernel
theorem dL_law_927 : decode cL_law 927 = .ok (.aload_n 2, 1) := by decide +kernel
theorem dL_law_928 : decode cL_law 928 = .ok (.aload_n 0, 1) := by decide +kernel
theorem dL_law_929 : decode cL_law 929 = .ok (.iload_n 3, 1) := by decide +kernel
theorem dL_law_930 : decode cL_law 930 = .ok (.iconst 1, 1) := by decide +kernel
theorem dL_law_931 : decode cL_law 931 = .ok (.iadd, 1) := by decide +kernel
theorem dL_law_932 : decode cL_law 932 = .ok (.iaload, 1) := by decide +kernel
theorem dL_law_933 : decode cL_law 933 = .ok (.aload_n 0, 1) := by decide +kernel
theorem dL_law_934 : decode cL_law 934 = .ok (.iload_n 3, 1) := by decide +kernel
theorem dL_law_935 : decode cL_law 935 = .ok (.iconst 2, 1) := by decide +kernel
theorem dL_law_936 : decode cL_law 936 = .ok (.iadd, 1) := by decide +kernel
theorem dL_law_937 : decode cL_law 937 = .ok (.iaload, 1) := by decide +kernel
theorem dL_law_938 : decode cL_law 938 = .ok (.invokevirtual 102, 3) := by decide +kernel
theorem dL_law_941 : decode cL_law 941 = .ok (.if_icmp .eq 104, 3) := by decide +kernel
theorem dL_law_944 : decode cL_law 944 = .ok (.iconst 0, 1) := by decide +kernel
theorem dL_law_945 : decode cL_law 945 = .ok (.ireturn, 1) := by decide +kernel
theorem dL_law_946 : decode cL_law 946 = .ok (.aload_n 1, 1) := by decide +kernel
theorem dL_law_947 : decode cL_law 947 = .ok (.aload_n 0, 1) := by decide +kernel
theorem dL_law_948 : decode cL_law 948 = .ok (.iload_n 3, 1) := by decide +kernel
theorem dL_law_949 : decode cL_law 949 = .ok (.iconst 1, 1) := by decide +kernel
theorem dL_law_950 : decode cL_law 950 = .ok (.iadd, 1) := by decide +kernel
theorem dL_law_951 : decode cL_law 951 = .ok (.iaload, 1) := by decide +kernel
theorem dL_law_952 : decode cL_law 952 = .ok (.aload_n 0, 1) := by decide +kernel
theorem dL_law_953 : decode cL_law 953 = .ok (.iload_n 3, 1) := by decide +kernel
theorem dL_law_954 : decode cL_law 954 = .ok (.iconst 2, 1) := by decide +kernel
theorem dL_law_955 : decode cL_law 955 = .ok (.iadd, 1) := by decide +kernel
theorem dL_law_956 : decode cL_law 956 = .ok (.iaload, 1) := by decide +kernel
theorem dL_law_957 : decode cL_law 957 = .ok (.invokevirtual 103, 3) := by decide +kernel
theorem dL_law_960 : decode cL_law 960 = .ok (.aload_n 2, 1) := by decide +kernel
theorem dL_law_961 : decode cL_law 961 = .ok (.aload_n 0, 1) := by decide +kernel
theorem dL_law_962 : decode cL_law 962 = .ok (.iload_n 3, 1) := by decide +kernel
theorem dL_law_963 : decode cL_law 963 = .ok (.iconst 1, 1) := by decide +kernel
theorem dL_law_964 : decode cL_law 964 = .ok (.iadd, 1) := by decide +kernel
theorem dL_law_965 : decode cL_law 965 = .ok (.iaload, 1) := by decide +kernel
theorem dL_law_966 : decode cL_law 966 = .ok (.aload_n 0, 1) := by decide +kernel
theorem dL_law_967 : decode cL_law 967 = .ok (.iload_n 3, 1) := by decide +kernel
theorem dL_law_968 : decode cL_law 968 = .ok (.iconst 2, 1) := by decide +kernel
theorem dL_law_969 : decode cL_law 969 = .ok (.iadd, 1) := by decide +kernel
theorem dL_law_970 : decode cL_law 970 = .ok (.iaload, 1) := by decide +kernel
theorem dL_law_971 : decode cL_law 971 = .ok (.invokevirtual 106, 3) := by decide +kernel
theorem dL_law_974 : decode cL_law 974 = .ok (.if_icmp .eq 71, 3) := by decide +kernel
theorem dL_law_977 : decode cL_law 977 = .ok (.iconst 0, 1) := by decide +kernel
theorem dL_law_978 : decode cL_law 978 = .ok (.ireturn, 1) := by decide +kernel
theorem dL_law_979 : decode cL_law 979 = .ok (.aload_n 1, 1) := by decide +kernel
theorem dL_law_980 : decode cL_law 980 = .ok (.aload_n 0, 1) := by decide +kernel
theorem dL_law_981 : decode cL_law 981 = .ok (.iload_n 3, 1) := by decide +kernel
theorem dL_law_982 : decode cL_law 982 = .ok (.iconst 1, 1) := by decide +kernel
theorem dL_law_983 : decode cL_law 983 = .ok (.iadd, 1) := by decide +kernel
theorem dL_law_984 : decode cL_law 984 = .ok (.iaload, 1) := by decide +kernel
theorem dL_law_985 : decode cL_law 985 = .ok (.aload_n 0, 1) := by decide +kernel
theorem dL_law_986 : decode cL_law 986 = .ok (.iload_n 3, 1) := by decide +kernel
theorem dL_law_987 : decode cL_law 987 = .ok (.iconst 2, 1) := by decide +kernel
theorem dL_law_988 : decode cL_law 988 = .ok (.iadd, 1) := by decide +kernel
theorem dL_law_989 : decode cL_law 989 = .ok (.iaload, 1) := by decide +kernel
theorem dL_law_990 : decode cL_law 990 = .ok (.invokevirtual 107, 3) := by decide +kernel
theorem dL_law_993 : decode cL_law 993 = .ok (.aload_n 2, 1) := by decide +kernel
theorem dL_law_994 : decode cL_law 994 = .ok (.aload_n 0, 1) := by decide +kernel
theorem dL_law_995 : decode cL_law 995 = .ok (.iload_n 3, 1) := by decide +kernel
theorem dL_law_996 : decode cL_law 996 = .ok (.iconst 1, 1) := by decide +kernel
theorem dL_law_997 : decode cL_law 997 = .ok (.iadd, 1) := by decide +kernel
theorem dL_law_998 : decode cL_law 998 = .ok (.iaload, 1) := by decide +kernel
theorem dL_law_999 : decode cL_law 999 = .ok (.aload_n 0, 1) := by decide +kernel
theorem dL_law_1000 : decode cL_law 1000 = .ok (.iload_n 3, 1) := by decide +kernel
theorem dL_law_1001 : decode cL_law 1001 = .ok (.iconst 2, 1) := by decide +kernel
theorem dL_law_1002 : decode cL_law 1002 = .ok (.iadd, 1) := by decide +kernel
theorem dL_law_1003 : decode cL_law 1003 = .ok (.iaload, 1) := by decide +kernel
theorem dL_law_1004 : decode cL_law 1004 = .ok (.invokevirtual 110, 3) := by decide +kernel
theorem dL_law_1007 : decode cL_law 1007 = .ok (.if_icmp .eq 38, 3) := by decide +kernel
theorem dL_law_1010 : decode cL_law 1010 = .ok (.iconst 0, 1) := by decide +kernel
theorem dL_law_1011 : decode cL_law 1011 = .ok (.ireturn, 1) := by decide +kernel
theorem dL_law_1012 : decode cL_law 1012 = .ok (.aload_n 1, 1) := by decide +kernel
theorem dL_law_1013 : decode cL_law 1013 = .ok (.aload_n 0, 1) := by decide +kernel
theorem dL_law_1014 : decode cL_law 1014 = .ok (.iload_n 3, 1) := by decide +kernel
theorem dL_law_1015 : decode cL_law 1015 = .ok (.iconst 1, 1) := by decide +kernel
theorem dL_law_1016 : decode cL_law 1016 = .ok (.iadd, 1) := by decide +kernel
theorem dL_law_1017 : decode cL_law 1017 = .ok (.iaload, 1) := by decide +kernel
theorem dL_law_1018 : decode cL_law 1018 = .ok (.aload_n 0, 1) := by decide +kernel
theorem dL_law_1019 : decode cL_law 1019 = .ok (.iload_n 3, 1) := by decide +kernel
theorem dL_law_1020 : decode cL_law 1020 = .ok (.iconst 2, 1) := by decide +kernel
theorem dL_law_1021 : decode cL_law 1021 = .ok (.iadd, 1) := by decide +kernel
theorem dL_law_1022 : decode cL_law 1022 = .ok (.iaload, 1) := by decide +kernel
theorem dL_law_1023 : decode cL_law 1023 = .ok (.invokevirtual 111, 3) := by decide +kernel
theorem dL_law_1026 : decode cL_law 1026 = .ok (.aload_n 2, 1) := by decide +kernel
theorem dL_law_1027 : decode cL_law 1027 = .ok (.aload_n 0, 1) := by decide +kernel
theorem dL_law_1028 : decode cL_law 1028 = .ok (.iload_n 3, 1) := by decide +kernel
theorem dL_law_1029 : decode cL_law 1029 = .ok (.iconst 1, 1) := by decide +kernel
theorem dL_law_1030 : decode cL_law 1030 = .ok (.iadd, 1) := by decide +kernel
theorem dL_law_1031 : decode cL_law 1031 = .ok (.iaload, 1) := by decide +kernel
theorem dL_law_1032 : decode cL_law 1032 = .ok (.aload_n 0, 1) := by decide +kernel
theorem dL_law_1033 : decode cL_law 1033 = .ok (.iload_n 3, 1) := by decide +kernel
theorem dL_law_1034 : decode cL_law 1034 = .ok (.iconst 2, 1) := by decide +kernel
theorem dL_law_1035 : decode cL_law 1035 = .ok (.iadd, 1) := by decide +kernel
theorem dL_law_1036 : decode cL_law 1036 = .ok (.iaload, 1) := by decide +kernel
theorem dL_law_1037 : decode cL_law 1037 = .ok (.invokevirtual 114, 3) := by decide +kernel
theorem dL_law_1040 : decode cL_law 1040 = .ok (.if_icmp .eq 5, 3) := by decide +kernel
theorem dL_law_1043 : decode cL_law 1043 = .ok (.iconst 0, 1) := by decide +kernel
theorem dL_law_1044 : decode cL_law 1044 = .ok (.ireturn, 1) := by decide +kernel
theorem dL_law_1045 : decode cL_law 1045 = .ok (.iinc 3 7, 3) := by decide +kernel
theorem dL_law_1048 : decode cL_law 1048 = .ok (.goto (-1030), 3) := by decide +kernel
theorem dL_law_1051 : decode cL_law 1051 = .ok (.iconst 1, 1) := by decide +kernel
theorem dL_law_1052 : decode cL_law 1052 = .ok (.ireturn, 1) := by decide +kernel
end
section
theorem dX7_init_0 : decode cX7_init 0 = .ok (.aload_n 0, 1) := by decide +kernel
theorem dX7_init_1 : decode cX7_init 1 = .ok (.invokespecial 1, 3) := by decide +kernel
theorem dX7_init_4 : decode cX7_init 4 = .ok (.aload_n 0, 1) := by decide +kernel
theorem dX7_init_5 : decode cX7_init 5 = .ok (.bipush 40, 2) := by decide +kernel
theorem dX7_init_7 : decode cX7_init 7 = .ok (.newarray .boolean, 2) := by decide +kernel
theorem dX7_init_9 : decode cX7_init 9 = .ok (.putfield 7, 3) := by decide +kernel
theorem dX7_init_12 : decode cX7_init 12 = .ok (.aload_n 0, 1) := by decide +kernel
theorem dX7_init_13 : decode cX7_init 13 = .ok (.bipush 40, 2) := by decide +kernel
theorem dX7_init_15 : decode cX7_init 15 = .ok (.newarray .boolean, 2) := by decide +kernel
theorem dX7_init_17 : decode cX7_init 17 = .ok (.putfield 13, 3) := by decide +kernel
theorem dX7_init_20 : decode cX7_init 20 = .ok (.aload_n 0, 1) := by decide +kernel
theorem dX7_init_21 : decode cX7_init 21 = .ok (.bipush 40, 2) := by decide +kernel
theorem dX7_init_23 : decode cX7_init 23 = .ok (.newarray .int, 2) := by decide +kernel
theorem dX7_init_25 : decode cX7_init 25 = .ok (.putfield 16, 3) := by decide +kernel
theorem dX7_init_28 : decode cX7_init 28 = .ok (.aload_n 0, 1) := by decide +kernel
theorem dX7_init_29 : decode cX7_init 29 = .ok (.bipush 40, 2) := by decide +kernel
theorem dX7_init_31 : decode cX7_init 31 = .ok (.newarray .int, 2) := by decide +kernel
theorem dX7_init_33 : decode cX7_init 33 = .ok (.putfield 20, 3) := by decide +kernel
theorem dX7_init_36 : decode cX7_init 36 = .ok (.aload_n 0, 1) := by decide +kernel
theorem dX7_init_37 : decode cX7_init 37 = .ok (.sipush 160, 3) := by decide +kernel
theorem dX7_init_40 : decode cX7_init 40 = .ok (.newarray .int, 2) := by decide +kernel
theorem dX7_init_42 : decode cX7_init 42 = .ok (.putfield 23, 3) := by decide +kernel
theorem dX7_init_45 : decode cX7_init 45 = .ok (.aload_n 0, 1) := by decide +kernel
theorem dX7_init_46 : decode cX7_init 46 = .ok (.bipush 40, 2) := by decide +kernel
theorem dX7_init_48 : decode cX7_init 48 = .ok (.newarray .int, 2) := by decide +kernel
theorem dX7_init_50 : decode cX7_init 50 = .ok (.putfield 26, 3) := by decide +kernel
theorem dX7_init_53 : decode cX7_init 53 = .ok (.aload_n 0, 1) := by decide +kernel
theorem dX7_init_54 : decode cX7_init 54 = .ok (.sipush 240, 3) := by decide +kernel
theorem dX7_init_57 : decode cX7_init 57 = .ok (.newarray .int, 2) := by decide +kernel
theorem dX7_init_59 : decode cX7_init 59 = .ok (.putfield 29, 3) := by decide +kernel
theorem dX7_init_62 : decode cX7_init 62 = .ok (.aload_n 0, 1) := by decide +kernel
theorem dX7_init_63 : decode cX7_init 63 = .ok (.sipush 240, 3) := by decide +kernel
theorem dX7_init_66 : decode cX7_init 66 = .ok (.newarray .boolean, 2) := by decide +kernel
theorem dX7_init_68 : decode cX7_init 68 = .ok (.putfield 32, 3) := by decide +kernel
theorem dX7_init_71 : decode cX7_init 71 = .ok (.aload_n 0, 1) := by decide +kernel
theorem dX7_init_72 : decode cX7_init 72 = .ok (.sipush 240, 3) := by decide +kernel
theorem dX7_init_75 : decode cX7_init 75 = .ok (.newarray .int, 2) := by decide +kernel
theorem dX7_init_77 : decode cX7_init 77 = .ok (.putfield 35, 3) := by decide +kernel
theorem dX7_init_80 : decode cX7_init 80 = .ok (.aload_n 0, 1) := by decide +kernel
theorem dX7_init_81 : decode cX7_init 81 = .ok (.bipush 40, 2) := by decide +kernel
theorem dX7_init_83 : decode cX7_init 83 = .ok (.newarray .int, 2) := by decide +kernel
theorem dX7_init_85 : decode cX7_init 85 = .ok (.putfield 38, 3) := by decide +kernel
theorem dX7_init_88 : decode cX7_init 88 = .ok (.aload_n 0, 1) := by decide +kernel
theorem dX7_init_89 : decode cX7_init 89 = .ok (.sipush 160, 3) := by decide +kernel
theorem dX7_init_92 : decode cX7_init 92 = .ok (.newarray .int, 2) := by decide +kernel
theorem dX7_init_94 : decode cX7_init 94 = .ok (.putfield 41, 3) := by decide +kernel
theorem dX7_init_97 : decode cX7_init 97 = .ok (.aload_n 0, 1) := by decide +kernel
theorem dX7_init_98 : decode cX7_init 98 = .ok (.sipush 200, 3) := by decide +kernel
theorem dX7_init_101 : decode cX7_init 101 = .ok (.newarray .int, 2) := by decide +kernel
theorem dX7_init_103 : decode cX7_init 103 = .ok (.putfield 44, 3) := by decide +kernel
theorem dX7_init_106 : decode cX7_init 106 = .ok (.aload_n 0, 1) := by decide +kernel
theorem dX7_init_107 : decode cX7_init 107 = .ok (.sipush 2400, 3) := by decide +kernel
theorem dX7_init_110 : decode cX7_init 110 = .ok (.newarray .int, 2) := by decide +kernel
theorem dX7_init_112 : decode cX7_init 112 = .ok (.putfield 47, 3) := by decide +kernel
theorem dX7_init_115 : decode cX7_init 115 = .ok (.aload_n 0, 1) := by decide +kernel
theorem dX7_init_116 : decode cX7_init 116 = .ok (.sipush 2400, 3) := by decide +kernel
theorem dX7_init_119 : decode cX7_init 119 = .ok (.newarray .int, 2) := by decide +kernel
theorem dX7_init_121 : decode cX7_init 121 = .ok (.putfield 50, 3) := by decide +kernel
theorem dX7_init_124 : decode cX7_init 124 = .ok (.aload_n 0, 1) := by decide +kernel
theorem dX7_init_125 : decode cX7_init 125 = .ok (.sipush 2400, 3) := by decide +kernel
theorem dX7_init_128 : decode cX7_init 128 = .ok (.newarray .int, 2) := by decide +kernel
theorem dX7_init_130 : decode cX7_init 130 = .ok (.putfield 53, 3) := by decide +kernel
theorem dX7_init_133 : decode cX7_init 133 = .ok (.aload_n 0, 1) := by decide +kernel
theorem dX7_init_134 : decode cX7_init 134 = .ok (.sipush 2400, 3) := by decide +kernel
theorem dX7_init_137 : decode cX7_init 137 = .ok (.newarray .int, 2) := by decide +kernel
theorem dX7_init_139 : decode cX7_init 139 = .ok (.putfield 56, 3) := by decide +kernel
theorem dX7_init_142 : decode cX7_init 142 = .ok (.aload_n 0, 1) := by decide +kernel
theorem dX7_init_143 : decode cX7_init 143 = .ok (.sipush 400, 3) := by decide +kernel
theorem dX7_init_146 : decode cX7_init 146 = .ok (.newarray .int, 2) := by decide +kernel
theorem dX7_init_148 : decode cX7_init 148 = .ok (.putfield 59, 3) := by decide +kernel
theorem dX7_init_151 : decode cX7_init 151 = .ok (.aload_n 0, 1) := by decide +kernel
theorem dX7_init_152 : decode cX7_init 152 = .ok (.bipush 40, 2) := by decide +kernel
theorem dX7_init_154 : decode cX7_init 154 = .ok (.newarray .boolean, 2) := by decide +kernel
theorem dX7_init_156 : decode cX7_init 156 = .ok (.putfield 62, 3) := by decide +kernel
theorem dX7_init_159 : decode cX7_init 159 = .ok (.aload_n 0, 1) := by decide +kernel
theorem dX7_init_160 : decode cX7_init 160 = .ok (.bipush 41, 2) := by decide +kernel
theorem dX7_init_162 : decode cX7_init 162 = .ok (.newarray .int, 2) := by decide +kernel
theorem dX7_init_164 : decode cX7_init 164 = .ok (.putfield 65, 3) := by decide +kernel
theorem dX7_init_167 : decode cX7_init 167 = .ok (.aload_n 0, 1) := by decide +kernel
theorem dX7_init_168 : decode cX7_init 168 = .ok (.bipush 40, 2) := by decide +kernel
theorem dX7_init_170 : decode cX7_init 170 = .ok (.newarray .boolean, 2) := by decide +kernel
theorem dX7_init_172 : decode cX7_init 172 = .ok (.putfield 68, 3) := by decide +kernel
theorem dX7_init_175 : decode cX7_init 175 = .ok (.aload_n 0, 1) := by decide +kernel
theorem dX7_init_176 : decode cX7_init 176 = .ok (.sipush 400, 3) := by decide +kernel
theorem dX7_init_179 : decode cX7_init 179 = .ok (.newarray .boolean, 2) := by decide +kernel
theorem dX7_init_181 : decode cX7_init 181 = .ok (.putfield 71, 3) := by decide +kernel
theorem dX7_init_184 : decode cX7_init 184 = .ok (.aload_n 0, 1) := by decide +kernel
theorem dX7_init_185 : decode cX7_init 185 = .ok (.bipush 60, 2) := by decide +kernel
theorem dX7_init_187 : decode cX7_init 187 = .ok (.newarray .int, 2) := by decide +kernel
theorem dX7_init_189 : decode cX7_init 189 = .ok (.putfield 74, 3) := by decide +kernel
theorem dX7_init_192 : decode cX7_init 192 = .ok (.aload_n 0, 1) := by decide +kernel
theorem dX7_init_193 : decode cX7_init 193 = .ok (.bipush 40, 2) := by decide +kernel
theorem dX7_init_195 : decode cX7_init 195 = .ok (.newarray .boolean, 2) := by decide +kernel
theorem dX7_init_197 : decode cX7_init 197 = .ok (.putfield 77, 3) := by decide +kernel
theorem dX7_init_200 : decode cX7_init 200 = .ok (.aload_n 0, 1) := by decide +kernel
theorem dX7_init_201 : decode cX7_init 201 = .ok (.sipush 1700, 3) := by decide +kernel
theorem dX7_init_204 : decode cX7_init 204 = .ok (.newarray .int, 2) := by decide +kernel
theorem dX7_init_206 : decode cX7_init 206 = .ok (.putfield 80, 3) := by decide +kernel
theorem dX7_init_209 : decode cX7_init 209 = .ok (.aload_n 0, 1) := by decide +kernel
theorem dX7_init_210 : decode cX7_init 210 = .ok (.sipush 520, 3) := by decide +kernel
theorem dX7_init_213 : decode cX7_init 213 = .ok (.newarray .int, 2) := by decide +kernel
theorem dX7_init_215 : decode cX7_init 215 = .ok (.putfield 83, 3) := by decide +kernel
theorem dX7_init_218 : decode cX7_init 218 = .ok (.aload_n 0, 1) := by decide +kernel
theorem dX7_init_219 : decode cX7_init 219 = .ok (.sipush 3120, 3) := by decide +kernel
theorem dX7_init_222 : decode cX7_init 222 = .ok (.newarray .int, 2) := by decide +kernel
theorem dX7_init_224 : decode cX7_init 224 = .ok (.putfield 86, 3) := by decide +kernel
theorem dX7_init_227 : decode cX7_init 227 = .ok (.aload_n 0, 1) := by decide +kernel
theorem dX7_init_228 : decode cX7_init 228 = .ok (.bipush 13, 2) := by decide +kernel
theorem dX7_init_230 : decode cX7_init 230 = .ok (.newarray .int, 2) := by decide +kernel
theorem dX7_init_232 : decode cX7_init 232 = .ok (.putfield 89, 3) := by decide +kernel
theorem dX7_init_235 : decode cX7_init 235 = .ok (.aload_n 0, 1) := by decide +kernel
theorem dX7_init_236 : decode cX7_init 236 = .ok (.sipush 3900, 3) := by decide +kernel
theorem dX7_init_239 : decode cX7_init 239 = .ok (.newarray .int, 2) := by decide +kernel
theorem dX7_init_241 : decode cX7_init 241 = .ok (.putfield 92, 3) := by decide +kernel
theorem dX7_init_244 : decode cX7_init 244 = .ok (.aload_n 0, 1) := by decide +kernel
theorem dX7_init_245 : decode cX7_init 245 = .ok (.bipush 13, 2) := by decide +kernel
theorem dX7_init_247 : decode cX7_init 247 = .ok (.newarray .int, 2) := by decide +kernel
theorem dX7_init_249 : decode cX7_init 249 = .ok (.putfield 95, 3) := by decide +kernel
theorem dX7_init_252 : decode cX7_init 252 = .ok (.aload_n 0, 1) := by decide +kernel
theorem dX7_init_253 : decode cX7_init 253 = .ok (.sipush 520, 3) := by decide +kernel
theorem dX7_init_256 : decode cX7_init 256 = .ok (.newarray .int, 2) := by decide +kernel
theorem dX7_init_258 : decode cX7_init 258 = .ok (.putfield 98, 3) := by decide +kernel
theorem dX7_init_261 : decode cX7_init 261 = .ok (.aload_n 0, 1) := by decide +kernel
theorem dX7_init_262 : decode cX7_init 262 = .ok (.bipush 12, 2) := by decide +kernel
theorem dX7_init_264 : decode cX7_init 264 = .ok (.newarray .int, 2) := by decide +kernel
theorem dX7_init_266 : decode cX7_init 266 = .ok (.putfield 101, 3) := by decide +kernel
theorem dX7_init_269 : decode cX7_init 269 = .ok (.aload_n 0, 1) := by decide +kernel
theorem dX7_init_270 : decode cX7_init 270 = .ok (.bipush 12, 2) := by decide +kernel
theorem dX7_init_272 : decode cX7_init 272 = .ok (.newarray .int, 2) := by decide +kernel
theorem dX7_init_274 : decode cX7_init 274 = .ok (.putfield 104, 3) := by decide +kernel
theorem dX7_init_277 : decode cX7_init 277 = .ok (.aload_n 0, 1) := by decide +kernel
theorem dX7_init_278 : decode cX7_init 278 = .ok (.bipush 48, 2) := by decide +kernel
theorem dX7_init_280 : decode cX7_init 280 = .ok (.newarray .int, 2) := by decide +kernel
theorem dX7_init_282 : decode cX7_init 282 = .ok (.putfield 107, 3) := by decide +kernel
theorem dX7_init_285 : decode cX7_init 285 = .ok (.aload_n 0, 1) := by decide +kernel
theorem dX7_init_286 : decode cX7_init 286 = .ok (.bipush 100, 2) := by decide +kernel
theorem dX7_init_288 : decode cX7_init 288 = .ok (.newarray .boolean, 2) := by decide +kernel
theorem dX7_init_290 : decode cX7_init 290 = .ok (.putfield 110, 3) := by decide +kernel
theorem dX7_init_293 : decode cX7_init 293 = .ok (.aload_n 0, 1) := by decide +kernel
theorem dX7_init_294 : decode cX7_init 294 = .ok (.bipush 100, 2) := by decide +kernel
theorem dX7_init_296 : decode cX7_init 296 = .ok (.newarray .int, 2) := by decide +kernel
theorem dX7_init_298 : decode cX7_init 298 = .ok (.putfield 113, 3) := by decide +kernel
theorem dX7_init_301 : decode cX7_init 301 = .ok (.aload_n 0, 1) := by decide +kernel
theorem dX7_init_302 : decode cX7_init 302 = .ok (.bipush 100, 2) := by decide +kernel
theorem dX7_init_304 : decode cX7_init 304 = .ok (.newarray .int, 2) := by decide +kernel
theorem dX7_init_306 : decode cX7_init 306 = .ok (.putfield 116, 3) := by decide +kernel
theorem dX7_init_309 : decode cX7_init 309 = .ok (.aload_n 0, 1) := by decide +kernel
theorem dX7_init_310 : decode cX7_init 310 = .ok (.bipush 100, 2) := by decide +kernel
theorem dX7_init_312 : decode cX7_init 312 = .ok (.newarray .int, 2) := by decide +kernel
theorem dX7_init_314 : decode cX7_init 314 = .ok (.putfield 119, 3) := by decide +kernel
theorem dX7_init_317 : decode cX7_init 317 = .ok (.aload_n 0, 1) := by decide +kernel
theorem dX7_init_318 : decode cX7_init 318 = .ok (.bipush 100, 2) := by decide +kernel
theorem dX7_init_320 : decode cX7_init 320 = .ok (.newarray .boolean, 2) := by decide +kernel
theorem dX7_init_322 : decode cX7_init 322 = .ok (.putfield 122, 3) := by decide +kernel
theorem dX7_init_325 : decode cX7_init 325 = .ok (.aload_n 0, 1) := by decide +kernel
theorem dX7_init_326 : decode cX7_init 326 = .ok (.bipush 100, 2) := by decide +kernel
theorem dX7_init_328 : decode cX7_init 328 = .ok (.newarray .boolean, 2) := by decide +kernel
theorem dX7_init_330 : decode cX7_init 330 = .ok (.putfield 125, 3) := by decide +kernel
theorem dX7_init_333 : decode cX7_init 333 = .ok (.iconst 0, 1) := by decide +kernel
theorem dX7_init_334 : decode cX7_init 334 = .ok (.istore_n 1, 1) := by decide +kernel
theorem dX7_init_335 : decode cX7_init 335 = .ok (.iload_n 1, 1) := by decide +kernel
theorem dX7_init_336 : decode cX7_init 336 = .ok (.bipush 12, 2) := by decide +kernel
theorem dX7_init_338 : decode cX7_init 338 = .ok (.if_icmp .ge 25, 3) := by decide +kernel
theorem dX7_init_341 : decode cX7_init 341 = .ok (.aload_n 0, 1) := by decide +kernel
theorem dX7_init_342 : decode cX7_init 342 = .ok (.getfield 101, 3) := by decide +kernel
theorem dX7_init_345 : decode cX7_init 345 = .ok (.iload_n 1, 1) := by decide +kernel
theorem dX7_init_346 : decode cX7_init 346 = .ok (.bipush (-6), 2) := by decide +kernel
theorem dX7_init_348 : decode cX7_init 348 = .ok (.iastore, 1) := by decide +kernel
theorem dX7_init_349 : decode cX7_init 349 = .ok (.aload_n 0, 1) := by decide +kernel
theorem dX7_init_350 : decode cX7_init 350 = .ok (.getfield 104, 3) := by decide +kernel
theorem dX7_init_353 : decode cX7_init 353 = .ok (.iload_n 1, 1) := by decide +kernel
theorem dX7_init_354 : decode cX7_init 354 = .ok (.bipush (-6), 2) := by decide +kernel
theorem dX7_init_356 : decode cX7_init 356 = .ok (.iastore, 1) := by decide +kernel
theorem dX7_init_357 : decode cX7_init 357 = .ok (.iinc 1 1, 3) := by decide +kernel
theorem dX7_init_360 : decode cX7_init 360 = .ok (.goto (-25), 3) := by decide +kernel
theorem dX7_init_363 : decode cX7_init 363 = .ok (.return_, 1) := by decide +kernel
theorem dX7_in_0 : decode cX7_in 0 = .ok (.iload_n 0, 1) := by decide +kernel
theorem dX7_in_1 : decode cX7_in 1 = .ok (.iload_n 1, 1) := by decide +kernel
theorem dX7_in_2 : decode cX7_in 2 = .ok (.if_icmp .lt 12, 3) := by decide +kernel
theorem dX7_in_5 : decode cX7_in 5 = .ok (.iload_n 0, 1) := by decide +kernel
theorem dX7_in_6 : decode cX7_in 6 = .ok (.iload_n 2, 1) := by decide +kernel
theorem dX7_in_7 : decode cX7_in 7 = .ok (.if_icmp .gt 7, 3) := by decide +kernel
theorem dX7_in_10 : decode cX7_in 10 = .ok (.iconst 1, 1) := by decide +kernel
theorem dX7_in_11 : decode cX7_in 11 = .ok (.goto 4, 3) := by decide +kernel
theorem dX7_in_14 : decode cX7_in 14 = .ok (.iconst 0, 1) := by decide +kernel
theorem dX7_in_15 : decode cX7_in 15 = .ok (.ireturn, 1) := by decide +kernel
theorem dX7_isType_0 : decode cX7_isType 0 = .ok (.iload_n 1, 1) := by decide +kernel
theorem dX7_isType_1 : decode cX7_isType 1 = .ok (.iconst 0, 1) := by decide +kernel
theorem dX7_isType_2 : decode cX7_isType 2 = .ok (.aload_n 0, 1) := by decide +kernel
theorem dX7_isType_3 : decode cX7_isType 3 = .ok (.getfield 128, 3) := by decide +kernel
theorem dX7_isType_6 : decode cX7_isType 6 = .ok (.iconst 1, 1) := by decide +kernel
theorem dX7_isType_7 : decode cX7_isType 7 = .ok (.isub, 1) := by decide +kernel
theorem dX7_isType_8 : decode cX7_isType 8 = .ok (.invokestatic 132, 3) := by decide +kernel
theorem dX7_isType_11 : decode cX7_isType 11 = .ok (.ireturn, 1) := by decide +kernel
theorem dX7_make_0 : decode cX7_make 0 = .ok (.aload_n 0, 1) := by decide +kernel
theorem dX7_make_1 : decode cX7_make 1 = .ok (.getfield 7, 3) := by decide +kernel
theorem dX7_make_4 : decode cX7_make 4 = .ok (.aload_n 0, 1) := by decide +kernel
theorem dX7_make_5 : decode cX7_make 5 = .ok (.getfield 128, 3) := by decide +kernel
theorem dX7_make_8 : decode cX7_make 8 = .ok (.iload_n 1, 1) := by decide +kernel
theorem dX7_make_9 : decode cX7_make 9 = .ok (.bastore, 1) := by decide +kernel
theorem dX7_make_10 : decode cX7_make 10 = .ok (.aload_n 0, 1) := by decide +kernel
theorem dX7_make_11 : decode cX7_make 11 = .ok (.getfield 13, 3) := by decide +kernel
theorem dX7_make_14 : decode cX7_make 14 = .ok (.aload_n 0, 1) := by decide +kernel
theorem dX7_make_15 : decode cX7_make 15 = .ok (.getfield 128, 3) := by decide +kernel
theorem dX7_make_18 : decode cX7_make 18 = .ok (.iload_n 2, 1) := by decide +kernel
theorem dX7_make_19 : decode cX7_make 19 = .ok (.bastore, 1) := by decide +kernel
theorem dX7_make_20 : decode cX7_make 20 = .ok (.aload_n 0, 1) := by decide +kernel
theorem dX7_make_21 : decode cX7_make 21 = .ok (.getfield 16, 3) := by decide +kernel
theorem dX7_make_24 : decode cX7_make 24 = .ok (.aload_n 0, 1) := by decide +kernel
theorem dX7_make_25 : decode cX7_make 25 = .ok (.getfield 128, 3) := by decide +kernel
theorem dX7_make_28 : decode cX7_make 28 = .ok (.iload_n 3, 1) := by decide +kernel
theorem dX7_make_29 : decode cX7_make 29 = .ok (.iastore, 1) := by decide +kernel
theorem dX7_make_30 : decode cX7_make 30 = .ok (.aload_n 0, 1) := by decide +kernel
theorem dX7_make_31 : decode cX7_make 31 = .ok (.dup, 1) := by decide +kernel
theorem dX7_make_32 : decode cX7_make 32 = .ok (.getfield 128, 3) := by decide +kernel
theorem dX7_make_35 : decode cX7_make 35 = .ok (.iconst 1, 1) := by decide +kernel
theorem dX7_make_36 : decode cX7_make 36 = .ok (.iadd, 1) := by decide +kernel
theorem dX7_make_37 : decode cX7_make 37 = .ok (.putfield 128, 3) := by decide +kernel
theorem dX7_make_40 : decode cX7_make 40 = .ok (.aload_n 0, 1) := by decide +kernel
theorem dX7_make_41 : decode cX7_make 41 = .ok (.getfield 128, 3) := by decide +kernel
theorem dX7_make_44 : decode cX7_make 44 = .ok (.iconst 1, 1) := by decide +kernel
theorem dX7_make_45 : decode cX7_make 45 = .ok (.isub, 1) := by decide +kernel
theorem dX7_make_46 : decode cX7_make 46 = .ok (.ireturn, 1) := by decide +kernel
theorem dX7_cls_0 : decode cX7_cls 0 = .ok (.iload_n 1, 1) := by decide +kernel
theorem dX7_cls_1 : decode cX7_cls 1 = .ok (.iconst (-1), 1) := by decide +kernel
theorem dX7_cls_2 : decode cX7_cls 2 = .ok (.if_icmp .eq 13, 3) := by decide +kernel
theorem dX7_cls_5 : decode cX7_cls 5 = .ok (.aload_n 0, 1) := by decide +kernel
theorem dX7_cls_6 : decode cX7_cls 6 = .ok (.iload_n 1, 1) := by decide +kernel
theorem dX7_cls_7 : decode cX7_cls 7 = .ok (.invokevirtual 136, 3) := by decide +kernel
theorem dX7_cls_10 : decode cX7_cls 10 = .ok (.ifCond .ne 5, 3) := by decide +kernel
theorem dX7_cls_13 : decode cX7_cls 13 = .ok (.iconst (-1), 1) := by decide +kernel
theorem dX7_cls_14 : decode cX7_cls 14 = .ok (.ireturn, 1) := by decide +kernel
theorem dX7_cls_15 : decode cX7_cls 15 = .ok (.iload_n 1, 1) := by decide +kernel
theorem dX7_cls_16 : decode cX7_cls 16 = .ok (.iconst (-1), 1) := by decide +kernel
theorem dX7_cls_17 : decode cX7_cls 17 = .ok (.if_icmp .eq 15, 3) := by decide +kernel
theorem dX7_cls_20 : decode cX7_cls 20 = .ok (.aload_n 0, 1) := by decide +kernel
theorem dX7_cls_21 : decode cX7_cls 21 = .ok (.getfield 7, 3) := by decide +kernel
theorem dX7_cls_24 : decode cX7_cls 24 = .ok (.iload_n 1, 1) := by decide +kernel
theorem dX7_cls_25 : decode cX7_cls 25 = .ok (.baload, 1) := by decide +kernel
theorem dX7_cls_26 : decode cX7_cls 26 = .ok (.ifCond .eq 6, 3) := by decide +kernel
theorem dX7_cls_29 : decode cX7_cls 29 = .ok (.bipush (-2), 2) := by decide +kernel
theorem dX7_cls_31 : decode cX7_cls 31 = .ok (.ireturn, 1) := by decide +kernel
theorem dX7_cls_32 : decode cX7_cls 32 = .ok (.aload_n 0, 1) := by decide +kernel
theorem dX7_cls_33 : decode cX7_cls 33 = .ok (.getfield 140, 3) := by decide +kernel
theorem dX7_cls_36 : decode cX7_cls 36 = .ok (.ifCond .le 8, 3) := by decide +kernel
theorem dX7_cls_39 : decode cX7_cls 39 = .ok (.bipush (-3), 2) := by decide +kernel
theorem dX7_cls_41 : decode cX7_cls 41 = .ok (.goto 24, 3) := by decide +kernel
theorem dX7_cls_44 : decode cX7_cls 44 = .ok (.aload_n 0, 1) := by decide +kernel
theorem dX7_cls_45 : decode cX7_cls 45 = .ok (.getfield 128, 3) := by decide +kernel
theorem dX7_cls_48 : decode cX7_cls 48 = .ok (.bipush 40, 2) := by decide +kernel
theorem dX7_cls_50 : decode cX7_cls 50 = .ok (.if_icmp .ne 8, 3) := by decide +kernel
theorem dX7_cls_53 : decode cX7_cls 53 = .ok (.bipush (-4), 2) := by decide +kernel
theorem dX7_cls_55 : decode cX7_cls 55 = .ok (.goto 10, 3) := by decide +kernel
theorem dX7_cls_58 : decode cX7_cls 58 = .ok (.aload_n 0, 1) := by decide +kernel
theorem dX7_cls_59 : decode cX7_cls 59 = .ok (.iconst 0, 1) := by decide +kernel
theorem dX7_cls_60 : decode cX7_cls 60 = .ok (.iload_n 2, 1) := by decide +kernel
theorem dX7_cls_61 : decode cX7_cls 61 = .ok (.iload_n 1, 1) := by decide +kernel
theorem dX7_cls_62 : decode cX7_cls 62 = .ok (.invokevirtual 143, 3) := by decide +kernel
theorem dX7_cls_65 : decode cX7_cls 65 = .ok (.ireturn, 1) := by decide +kernel
theorem dX7_face_0 : decode cX7_face 0 = .ok (.aload_n 0, 1) := by decide +kernel
theorem dX7_face_1 : decode cX7_face 1 = .ok (.getfield 140, 3) := by decide +kernel
theorem dX7_face_4 : decode cX7_face 4 = .ok (.ifCond .le 8, 3) := by decide +kernel
theorem dX7_face_7 : decode cX7_face 7 = .ok (.bipush (-3), 2) := by decide +kernel
theorem dX7_face_9 : decode cX7_face 9 = .ok (.goto 24, 3) := by decide +kernel
theorem dX7_face_12 : decode cX7_face 12 = .ok (.aload_n 0, 1) := by decide +kernel
theorem dX7_face_13 : decode cX7_face 13 = .ok (.getfield 128, 3) := by decide +kernel
theorem dX7_face_16 : decode cX7_face 16 = .ok (.bipush 40, 2) := by decide +kernel
theorem dX7_face_18 : decode cX7_face 18 = .ok (.if_icmp .ne 8, 3) := by decide +kernel
theorem dX7_face_21 : decode cX7_face 21 = .ok (.bipush (-4), 2) := by decide +kernel
theorem dX7_face_23 : decode cX7_face 23 = .ok (.goto 10, 3) := by decide +kernel
theorem dX7_face_26 : decode cX7_face 26 = .ok (.aload_n 0, 1) := by decide +kernel
theorem dX7_face_27 : decode cX7_face 27 = .ok (.iconst 1, 1) := by decide +kernel
theorem dX7_face_28 : decode cX7_face 28 = .ok (.iload_n 1, 1) := by decide +kernel
theorem dX7_face_29 : decode cX7_face 29 = .ok (.iconst (-1), 1) := by decide +kernel
theorem dX7_face_30 : decode cX7_face 30 = .ok (.invokevirtual 143, 3) := by decide +kernel
theorem dX7_face_33 : decode cX7_face 33 = .ok (.ireturn, 1) := by decide +kernel
theorem dX7_leads_0 : decode cX7_leads 0 = .ok (.iconst 0, 1) := by decide +kernel
theorem dX7_leads_1 : decode cX7_leads 1 = .ok (.istore_n 3, 1) := by decide +kernel
theorem dX7_leads_2 : decode cX7_leads 2 = .ok (.iload_n 3, 1) := by decide +kernel
theorem dX7_leads_3 : decode cX7_leads 3 = .ok (.aload_n 0, 1) := by decide +kernel
theorem dX7_leads_4 : decode cX7_leads 4 = .ok (.getfield 128, 3) := by decide +kernel
theorem dX7_leads_7 : decode cX7_leads 7 = .ok (.if_icmp .ge 16, 3) := by decide +kernel
theorem dX7_leads_10 : decode cX7_leads 10 = .ok (.aload_n 0, 1) := by decide +kernel
theorem dX7_leads_11 : decode cX7_leads 11 = .ok (.getfield 62, 3) := by decide +kernel
theorem dX7_leads_14 : decode cX7_leads 14 = .ok (.iload_n 3, 1) := by decide +kernel
theorem dX7_leads_15 : decode cX7_leads 15 = .ok (.iconst 0, 1) := by decide +kernel
theorem dX7_leads_16 : decode cX7_leads 16 = .ok (.bastore, 1) := by decide +kernel
theorem dX7_leads_17 : decode cX7_leads 17 = .ok (.iinc 3 1, 3) := by decide +kernel
theorem dX7_leads_20 : decode cX7_leads 20 = .ok (.goto (-18), 3) := by decide +kernel
theorem dX7_leads_23 : decode cX7_leads 23 = .ok (.iconst 1, 1) := by decide +kernel
theorem dX7_leads_24 : decode cX7_leads 24 = .ok (.istore_n 3, 1) := by decide +kernel
theorem dX7_leads_25 : decode cX7_leads 25 = .ok (.aload_n 0, 1) := by decide +kernel
theorem dX7_leads_26 : decode cX7_leads 26 = .ok (.getfield 59, 3) := by decide +kernel
theorem dX7_leads_29 : decode cX7_leads 29 = .ok (.iconst 0, 1) := by decide +kernel
theorem dX7_leads_30 : decode cX7_leads 30 = .ok (.iload_n 1, 1) := by decide +kernel
theorem dX7_leads_31 : decode cX7_leads 31 = .ok (.iastore, 1) := by decide +kernel
theorem dX7_leads_32 : decode cX7_leads 32 = .ok (.iload_n 3, 1) := by decide +kernel
theorem dX7_leads_33 : decode cX7_leads 33 = .ok (.ifCond .le 101, 3) := by decide +kernel
theorem dX7_leads_36 : decode cX7_leads 36 = .ok (.iinc 3 (-1), 3) := by decide +kernel
theorem dX7_leads_39 : decode cX7_leads 39 = .ok (.aload_n 0, 1) := by decide +kernel
theorem dX7_leads_40 : decode cX7_leads 40 = .ok (.getfield 59, 3) := by decide +kernel
theorem dX7_leads_43 : decode cX7_leads 43 = .ok (.iload_n 3, 1) := by decide +kernel
theorem dX7_leads_44 : decode cX7_leads 44 = .ok (.iaload, 1) := by decide +kernel
theorem dX7_leads_45 : decode cX7_leads 45 = .ok (.istore 4, 2) := by decide +kernel
theorem dX7_leads_47 : decode cX7_leads 47 = .ok (.iload 4, 2) := by decide +kernel
theorem dX7_leads_49 : decode cX7_leads 49 = .ok (.ifCond .lt (-17), 3) := by decide +kernel
theorem dX7_leads_52 : decode cX7_leads 52 = .ok (.aload_n 0, 1) := by decide +kernel
theorem dX7_leads_53 : decode cX7_leads 53 = .ok (.getfield 62, 3) := by decide +kernel
theorem dX7_leads_56 : decode cX7_leads 56 = .ok (.iload 4, 2) := by decide +kernel
theorem dX7_leads_58 : decode cX7_leads 58 = .ok (.baload, 1) := by decide +kernel
theorem dX7_leads_59 : decode cX7_leads 59 = .ok (.ifCond .eq 6, 3) := by decide +kernel
theorem dX7_leads_62 : decode cX7_leads 62 = .ok (.goto (-30), 3) := by decide +kernel
theorem dX7_leads_65 : decode cX7_leads 65 = .ok (.aload_n 0, 1) := by decide +kernel
theorem dX7_leads_66 : decode cX7_leads 66 = .ok (.getfield 62, 3) := by decide +kernel
theorem dX7_leads_69 : decode cX7_leads 69 = .ok (.iload 4, 2) := by decide +kernel
theorem dX7_leads_71 : decode cX7_leads 71 = .ok (.iconst 1, 1) := by decide +kernel
theorem dX7_leads_72 : decode cX7_leads 72 = .ok (.bastore, 1) := by decide +kernel
theorem dX7_leads_73 : decode cX7_leads 73 = .ok (.aload_n 0, 1) := by decide +kernel
theorem dX7_leads_74 : decode cX7_leads 74 = .ok (.getfield 59, 3) := by decide +kernel
theorem dX7_leads_77 : decode cX7_leads 77 = .ok (.iload_n 3, 1) := by decide +kernel
theorem dX7_leads_78 : decode cX7_leads 78 = .ok (.aload_n 0, 1) := by decide +kernel
theorem dX7_leads_79 : decode cX7_leads 79 = .ok (.getfield 16, 3) := by decide +kernel
theorem dX7_leads_82 : decode cX7_leads 82 = .ok (.iload 4, 2) := by decide +kernel
theorem dX7_leads_84 : decode cX7_leads 84 = .ok (.iaload, 1) := by decide +kernel
theorem dX7_leads_85 : decode cX7_leads 85 = .ok (.iastore, 1) := by decide +kernel
theorem dX7_leads_86 : decode cX7_leads 86 = .ok (.iinc 3 1, 3) := by decide +kernel
theorem dX7_leads_89 : decode cX7_leads 89 = .ok (.iconst 0, 1) := by decide +kernel
theorem dX7_leads_90 : decode cX7_leads 90 = .ok (.istore 5, 2) := by decide +kernel
theorem dX7_leads_92 : decode cX7_leads 92 = .ok (.iload 5, 2) := by decide +kernel
theorem dX7_leads_94 : decode cX7_leads 94 = .ok (.aload_n 0, 1) := by decide +kernel
theorem dX7_leads_95 : decode cX7_leads 95 = .ok (.getfield 20, 3) := by decide +kernel
theorem dX7_leads_98 : decode cX7_leads 98 = .ok (.iload 4, 2) := by decide +kernel
theorem dX7_leads_100 : decode cX7_leads 100 = .ok (.iaload, 1) := by decide +kernel
theorem dX7_leads_101 : decode cX7_leads 101 = .ok (.if_icmp .ge 30, 3) := by decide +kernel
theorem dX7_leads_104 : decode cX7_leads 104 = .ok (.aload_n 0, 1) := by decide +kernel
theorem dX7_leads_105 : decode cX7_leads 105 = .ok (.getfield 59, 3) := by decide +kernel
theorem dX7_leads_108 : decode cX7_leads 108 = .ok (.iload_n 3, 1) := by decide +kernel
theorem dX7_leads_109 : decode cX7_leads 109 = .ok (.aload_n 0, 1) := by decide +kernel
theorem dX7_leads_110 : decode cX7_leads 110 = .ok (.getfield 23, 3) := by decide +kernel
theorem dX7_leads_113 : decode cX7_leads 113 = .ok (.iconst 4, 1) := by decide +kernel
theorem dX7_leads_114 : decode cX7_leads 114 = .ok (.iload 4, 2) := by decide +kernel
theorem dX7_leads_116 : decode cX7_leads 116 = .ok (.imul, 1) := by decide +kernel
theorem dX7_leads_117 : decode cX7_leads 117 = .ok (.iload 5, 2) := by decide +kernel
theorem dX7_leads_119 : decode cX7_leads 119 = .ok (.iadd, 1) := by decide +kernel
theorem dX7_leads_120 : decode cX7_leads 120 = .ok (.iaload, 1) := by decide +kernel
theorem dX7_leads_121 : decode cX7_leads 121 = .ok (.iastore, 1) := by decide +kernel
theorem dX7_leads_122 : decode cX7_leads 122 = .ok (.iinc 3 1, 3) := by decide +kernel
theorem dX7_leads_125 : decode cX7_leads 125 = .ok (.iinc 5 1, 3) := by decide +kernel
theorem dX7_leads_128 : decode cX7_leads 128 = .ok (.goto (-36), 3) := by decide +kernel
theorem dX7_leads_131 : decode cX7_leads 131 = .ok (.goto (-99), 3) := by decide +kernel
theorem dX7_leads_134 : decode cX7_leads 134 = .ok (.iload_n 1, 1) := by decide +kernel
theorem dX7_leads_135 : decode cX7_leads 135 = .ok (.iload_n 2, 1) := by decide +kernel
theorem dX7_leads_136 : decode cX7_leads 136 = .ok (.if_icmp .eq 16, 3) := by decide +kernel
theorem dX7_leads_139 : decode cX7_leads 139 = .ok (.aload_n 0, 1) := by decide +kernel
theorem dX7_leads_140 : decode cX7_leads 140 = .ok (.getfield 62, 3) := by decide +kernel
theorem dX7_leads_143 : decode cX7_leads 143 = .ok (.iload_n 2, 1) := by decide +kernel
theorem dX7_leads_144 : decode cX7_leads 144 = .ok (.baload, 1) := by decide +kernel
theorem dX7_leads_145 : decode cX7_leads 145 = .ok (.ifCond .eq 7, 3) := by decide +kernel
theorem dX7_leads_148 : decode cX7_leads 148 = .ok (.iconst 1, 1) := by decide +kernel
theorem dX7_leads_149 : decode cX7_leads 149 = .ok (.goto 4, 3) := by decide +kernel
theorem dX7_leads_152 : decode cX7_leads 152 = .ok (.iconst 0, 1) := by decide +kernel
theorem dX7_leads_153 : decode cX7_leads 153 = .ok (.ireturn, 1) := by decide +kernel
theorem dX7_under_0 : decode cX7_under 0 = .ok (.aload_n 0, 1) := by decide +kernel
theorem dX7_under_1 : decode cX7_under 1 = .ok (.iload_n 1, 1) := by decide +kernel
theorem dX7_under_2 : decode cX7_under 2 = .ok (.invokevirtual 136, 3) := by decide +kernel
theorem dX7_under_5 : decode cX7_under 5 = .ok (.ifCond .eq 11, 3) := by decide +kernel
theorem dX7_under_8 : decode cX7_under 8 = .ok (.aload_n 0, 1) := by decide +kernel
theorem dX7_under_9 : decode cX7_under 9 = .ok (.iload_n 2, 1) := by decide +kernel
theorem dX7_under_10 : decode cX7_under 10 = .ok (.invokevirtual 136, 3) := by decide +kernel
theorem dX7_under_13 : decode cX7_under 13 = .ok (.ifCond .ne 5, 3) := by decide +kernel
theorem dX7_under_16 : decode cX7_under 16 = .ok (.iconst (-1), 1) := by decide +kernel
theorem dX7_under_17 : decode cX7_under 17 = .ok (.ireturn, 1) := by decide +kernel
theorem dX7_under_18 : decode cX7_under 18 = .ok (.aload_n 0, 1) := by decide +kernel
theorem dX7_under_19 : decode cX7_under 19 = .ok (.getfield 7, 3) := by decide +kernel
theorem dX7_under_22 : decode cX7_under 22 = .ok (.iload_n 2, 1) := by decide +kernel
theorem dX7_under_23 : decode cX7_under 23 = .ok (.baload, 1) := by decide +kernel
theorem dX7_under_24 : decode cX7_under 24 = .ok (.ifCond .ne 6, 3) := by decide +kernel
theorem dX7_under_27 : decode cX7_under 27 = .ok (.bipush (-2), 2) := by decide +kernel
theorem dX7_under_29 : decode cX7_under 29 = .ok (.ireturn, 1) := by decide +kernel
theorem dX7_under_30 : decode cX7_under 30 = .ok (.aload_n 0, 1) := by decide +kernel
theorem dX7_under_31 : decode cX7_under 31 = .ok (.getfield 140, 3) := by decide +kernel
theorem dX7_under_34 : decode cX7_under 34 = .ok (.ifCond .le 6, 3) := by decide +kernel
theorem dX7_under_37 : decode cX7_under 37 = .ok (.bipush (-3), 2) := by decide +kernel
theorem dX7_under_39 : decode cX7_under 39 = .ok (.ireturn, 1) := by decide +kernel
theorem dX7_under_40 : decode cX7_under 40 = .ok (.aload_n 0, 1) := by decide +kernel
theorem dX7_under_41 : decode cX7_under 41 = .ok (.getfield 20, 3) := by decide +kernel
theorem dX7_under_44 : decode cX7_under 44 = .ok (.iload_n 1, 1) := by decide +kernel
theorem dX7_under_45 : decode cX7_under 45 = .ok (.iaload, 1) := by decide +kernel
theorem dX7_under_46 : decode cX7_under 46 = .ok (.iconst 4, 1) := by decide +kernel
theorem dX7_under_47 : decode cX7_under 47 = .ok (.if_icmp .ne 6, 3) := by decide +kernel
theorem dX7_under_50 : decode cX7_under 50 = .ok (.bipush (-4), 2) := by decide +kernel
theorem dX7_under_52 : decode cX7_under 52 = .ok (.ireturn, 1) := by decide +kernel
theorem dX7_under_53 : decode cX7_under 53 = .ok (.iload_n 2, 1) := by decide +kernel
theorem dX7_under_54 : decode cX7_under 54 = .ok (.iload_n 1, 1) := by decide +kernel
theorem dX7_under_55 : decode cX7_under 55 = .ok (.if_icmp .eq 12, 3) := by decide +kernel
theorem dX7_under_58 : decode cX7_under 58 = .ok (.aload_n 0, 1) := by decide +kernel
theorem dX7_under_59 : decode cX7_under 59 = .ok (.iload_n 2, 1) := by decide +kernel
theorem dX7_under_60 : decode cX7_under 60 = .ok (.iload_n 1, 1) := by decide +kernel
theorem dX7_under_61 : decode cX7_under 61 = .ok (.invokevirtual 147, 3) := by decide +kernel
theorem dX7_under_64 : decode cX7_under 64 = .ok (.ifCond .eq 7, 3) := by decide +kernel
theorem dX7_under_67 : decode cX7_under 67 = .ok (.iconst 1, 1) := by decide +kernel
theorem dX7_under_68 : decode cX7_under 68 = .ok (.goto 4, 3) := by decide +kernel
theorem dX7_under_71 : decode cX7_under 71 = .ok (.iconst 0, 1) := by decide +kernel
theorem dX7_under_72 : decode cX7_under 72 = .ok (.istore_n 3, 1) := by decide +kernel
theorem dX7_under_73 : decode cX7_under 73 = .ok (.iconst 0, 1) := by decide +kernel
theorem dX7_under_74 : decode cX7_under 74 = .ok (.istore 4, 2) := by decide +kernel
theorem dX7_under_76 : decode cX7_under 76 = .ok (.iload 4, 2) := by decide +kernel
theorem dX7_under_78 : decode cX7_under 78 = .ok (.aload_n 0, 1) := by decide +kernel
theorem dX7_under_79 : decode cX7_under 79 = .ok (.getfield 20, 3) := by decide +kernel
theorem dX7_under_82 : decode cX7_under 82 = .ok (.iload_n 1, 1) := by decide +kernel
theorem dX7_under_83 : decode cX7_under 83 = .ok (.iaload, 1) := by decide +kernel
theorem dX7_under_84 : decode cX7_under 84 = .ok (.if_icmp .ge 34, 3) := by decide +kernel
theorem dX7_under_87 : decode cX7_under 87 = .ok (.iload_n 3, 1) := by decide +kernel
theorem dX7_under_88 : decode cX7_under 88 = .ok (.ifCond .ne 18, 3) := by decide +kernel
theorem dX7_under_91 : decode cX7_under 91 = .ok (.aload_n 0, 1) := by decide +kernel
theorem dX7_under_92 : decode cX7_under 92 = .ok (.getfield 23, 3) := by decide +kernel
theorem dX7_under_95 : decode cX7_under 95 = .ok (.iconst 4, 1) := by decide +kernel
theorem dX7_under_96 : decode cX7_under 96 = .ok (.iload_n 1, 1) := by decide +kernel
theorem dX7_under_97 : decode cX7_under 97 = .ok (.imul, 1) := by decide +kernel
theorem dX7_under_98 : decode cX7_under 98 = .ok (.iload 4, 2) := by decide +kernel
theorem dX7_under_100 : decode cX7_under 100 = .ok (.iadd, 1) := by decide +kernel
theorem dX7_under_101 : decode cX7_under 101 = .ok (.iaload, 1) := by decide +kernel
theorem dX7_under_102 : decode cX7_under 102 = .ok (.iload_n 2, 1) := by decide +kernel
theorem dX7_under_103 : decode cX7_under 103 = .ok (.if_icmp .ne 7, 3) := by decide +kernel
theorem dX7_under_106 : decode cX7_under 106 = .ok (.iconst 1, 1) := by decide +kernel
theorem dX7_under_107 : decode cX7_under 107 = .ok (.goto 4, 3) := by decide +kernel
theorem dX7_under_110 : decode cX7_under 110 = .ok (.iconst 0, 1) := by decide +kernel
theorem dX7_under_111 : decode cX7_under 111 = .ok (.istore_n 3, 1) := by decide +kernel
theorem dX7_under_112 : decode cX7_under 112 = .ok (.iinc 4 1, 3) := by decide +kernel
theorem dX7_under_115 : decode cX7_under 115 = .ok (.goto (-39), 3) := by decide +kernel
theorem dX7_under_118 : decode cX7_under 118 = .ok (.iload_n 3, 1) := by decide +kernel
theorem dX7_under_119 : decode cX7_under 119 = .ok (.ifCond .eq 6, 3) := by decide +kernel
theorem dX7_under_122 : decode cX7_under 122 = .ok (.bipush (-5), 2) := by decide +kernel
theorem dX7_under_124 : decode cX7_under 124 = .ok (.ireturn, 1) := by decide +kernel
theorem dX7_under_125 : decode cX7_under 125 = .ok (.aload_n 0, 1) := by decide +kernel
theorem dX7_under_126 : decode cX7_under 126 = .ok (.getfield 23, 3) := by decide +kernel
theorem dX7_under_129 : decode cX7_under 129 = .ok (.iconst 4, 1) := by decide +kernel
theorem dX7_under_130 : decode cX7_under 130 = .ok (.iload_n 1, 1) := by decide +kernel
theorem dX7_under_131 : decode cX7_under 131 = .ok (.imul, 1) := by decide +kernel
theorem dX7_under_132 : decode cX7_under 132 = .ok (.aload_n 0, 1) := by decide +kernel
theorem dX7_under_133 : decode cX7_under 133 = .ok (.getfield 20, 3) := by decide +kernel
theorem dX7_under_136 : decode cX7_under 136 = .ok (.iload_n 1, 1) := by decide +kernel
theorem dX7_under_137 : decode cX7_under 137 = .ok (.iaload, 1) := by decide +kernel
theorem dX7_under_138 : decode cX7_under 138 = .ok (.iadd, 1) := by decide +kernel
theorem dX7_under_139 : decode cX7_under 139 = .ok (.iload_n 2, 1) := by decide +kernel
theorem dX7_under_140 : decode cX7_under 140 = .ok (.iastore, 1) := by decide +kernel
theorem dX7_under_141 : decode cX7_under 141 = .ok (.aload_n 0, 1) := by decide +kernel
theorem dX7_under_142 : decode cX7_under 142 = .ok (.getfield 20, 3) := by decide +kernel
theorem dX7_under_145 : decode cX7_under 145 = .ok (.iload_n 1, 1) := by decide +kernel
theorem dX7_under_146 : decode cX7_under 146 = .ok (.dup2, 1) := by decide +kernel
theorem dX7_under_147 : decode cX7_under 147 = .ok (.iaload, 1) := by decide +kernel
theorem dX7_under_148 : decode cX7_under 148 = .ok (.iconst 1, 1) := by decide +kernel
theorem dX7_under_149 : decode cX7_under 149 = .ok (.iadd, 1) := by decide +kernel
theorem dX7_under_150 : decode cX7_under 150 = .ok (.iastore, 1) := by decide +kernel
theorem dX7_under_151 : decode cX7_under 151 = .ok (.aload_n 0, 1) := by decide +kernel
theorem dX7_under_152 : decode cX7_under 152 = .ok (.getfield 20, 3) := by decide +kernel
theorem dX7_under_155 : decode cX7_under 155 = .ok (.iload_n 1, 1) := by decide +kernel
theorem dX7_under_156 : decode cX7_under 156 = .ok (.iaload, 1) := by decide +kernel
theorem dX7_under_157 : decode cX7_under 157 = .ok (.ireturn, 1) := by decide +kernel
theorem dX7_ownField_0 : decode cX7_ownField 0 = .ok (.bipush (-6), 2) := by decide +kernel
theorem dX7_ownField_2 : decode cX7_ownField 2 = .ok (.istore_n 3, 1) := by decide +kernel
theorem dX7_ownField_3 : decode cX7_ownField 3 = .ok (.iconst 0, 1) := by decide +kernel
theorem dX7_ownField_4 : decode cX7_ownField 4 = .ok (.istore 4, 2) := by decide +kernel
theorem dX7_ownField_6 : decode cX7_ownField 6 = .ok (.iload 4, 2) := by decide +kernel
theorem dX7_ownField_8 : decode cX7_ownField 8 = .ok (.aload_n 0, 1) := by decide +kernel
theorem dX7_ownField_9 : decode cX7_ownField 9 = .ok (.getfield 26, 3) := by decide +kernel
theorem dX7_ownField_12 : decode cX7_ownField 12 = .ok (.iload_n 1, 1) := by decide +kernel
theorem dX7_ownField_13 : decode cX7_ownField 13 = .ok (.iaload, 1) := by decide +kernel
theorem dX7_ownField_14 : decode cX7_ownField 14 = .ok (.if_icmp .ge 37, 3) := by decide +kernel
theorem dX7_ownField_17 : decode cX7_ownField 17 = .ok (.aload_n 0, 1) := by decide +kernel
theorem dX7_ownField_18 : decode cX7_ownField 18 = .ok (.getfield 29, 3) := by decide +kernel
theorem dX7_ownField_21 : decode cX7_ownField 21 = .ok (.bipush 6, 2) := by decide +kernel
theorem dX7_ownField_23 : decode cX7_ownField 23 = .ok (.iload_n 1, 1) := by decide +kernel
theorem dX7_ownField_24 : decode cX7_ownField 24 = .ok (.imul, 1) := by decide +kernel
theorem dX7_ownField_25 : decode cX7_ownField 25 = .ok (.iload 4, 2) := by decide +kernel
theorem dX7_ownField_27 : decode cX7_ownField 27 = .ok (.iadd, 1) := by decide +kernel
theorem dX7_ownField_28 : decode cX7_ownField 28 = .ok (.iaload, 1) := by decide +kernel
theorem dX7_ownField_29 : decode cX7_ownField 29 = .ok (.iload_n 2, 1) := by decide +kernel
theorem dX7_ownField_30 : decode cX7_ownField 30 = .ok (.if_icmp .ne 13, 3) := by decide +kernel
theorem dX7_ownField_33 : decode cX7_ownField 33 = .ok (.bipush 6, 2) := by decide +kernel
theorem dX7_ownField_35 : decode cX7_ownField 35 = .ok (.iload_n 1, 1) := by decide +kernel
theorem dX7_ownField_36 : decode cX7_ownField 36 = .ok (.imul, 1) := by decide +kernel
theorem dX7_ownField_37 : decode cX7_ownField 37 = .ok (.iload 4, 2) := by decide +kernel
theorem dX7_ownField_39 : decode cX7_ownField 39 = .ok (.iadd, 1) := by decide +kernel
theorem dX7_ownField_40 : decode cX7_ownField 40 = .ok (.goto 4, 3) := by decide +kernel
theorem dX7_ownField_43 : decode cX7_ownField 43 = .ok (.iload_n 3, 1) := by decide +kernel
theorem dX7_ownField_44 : decode cX7_ownField 44 = .ok (.istore_n 3, 1) := by decide +kernel
theorem dX7_ownField_45 : decode cX7_ownField 45 = .ok (.iinc 4 1, 3) := by decide +kernel
theorem dX7_ownField_48 : decode cX7_ownField 48 = .ok (.goto (-42), 3) := by decide +kernel
theorem dX7_ownField_51 : decode cX7_ownField 51 = .ok (.iload_n 3, 1) := by decide +kernel
theorem dX7_ownField_52 : decode cX7_ownField 52 = .ok (.ireturn, 1) := by decide +kernel
theorem dX7_ownMethod_0 : decode cX7_ownMethod 0 = .ok (.bipush (-6), 2) := by decide +kernel
theorem dX7_ownMethod_2 : decode cX7_ownMethod 2 = .ok (.istore_n 3, 1) := by decide +kernel
theorem dX7_ownMethod_3 : decode cX7_ownMethod 3 = .ok (.iconst 0, 1) := by decide +kernel
theorem dX7_ownMethod_4 : decode cX7_ownMethod 4 = .ok (.istore 4, 2) := by decide +kernel
theorem dX7_ownMethod_6 : decode cX7_ownMethod 6 = .ok (.iload 4, 2) := by decide +kernel
theorem dX7_ownMethod_8 : decode cX7_ownMethod 8 = .ok (.aload_n 0, 1) := by decide +kernel
theorem dX7_ownMethod_9 : decode cX7_ownMethod 9 = .ok (.getfield 38, 3) := by decide +kernel
theorem dX7_ownMethod_12 : decode cX7_ownMethod 12 = .ok (.iload_n 1, 1) := by decide +kernel
theorem dX7_ownMethod_13 : decode cX7_ownMethod 13 = .ok (.iaload, 1) := by decide +kernel
theorem dX7_ownMethod_14 : decode cX7_ownMethod 14 = .ok (.if_icmp .ge 31, 3) := by decide +kernel
theorem dX7_ownMethod_17 : decode cX7_ownMethod 17 = .ok (.aload_n 0, 1) := by decide +kernel
theorem dX7_ownMethod_18 : decode cX7_ownMethod 18 = .ok (.getfield 41, 3) := by decide +kernel
theorem dX7_ownMethod_21 : decode cX7_ownMethod 21 = .ok (.iconst 4, 1) := by decide +kernel
theorem dX7_ownMethod_22 : decode cX7_ownMethod 22 = .ok (.iload_n 1, 1) := by decide +kernel
theorem dX7_ownMethod_23 : decode cX7_ownMethod 23 = .ok (.imul, 1) := by decide +kernel
theorem dX7_ownMethod_24 : decode cX7_ownMethod 24 = .ok (.iload 4, 2) := by decide +kernel
theorem dX7_ownMethod_26 : decode cX7_ownMethod 26 = .ok (.iadd, 1) := by decide +kernel
theorem dX7_ownMethod_27 : decode cX7_ownMethod 27 = .ok (.iaload, 1) := by decide +kernel
theorem dX7_ownMethod_28 : decode cX7_ownMethod 28 = .ok (.iload_n 2, 1) := by decide +kernel
theorem dX7_ownMethod_29 : decode cX7_ownMethod 29 = .ok (.if_icmp .ne 8, 3) := by decide +kernel
theorem dX7_ownMethod_32 : decode cX7_ownMethod 32 = .ok (.iload 4, 2) := by decide +kernel
theorem dX7_ownMethod_34 : decode cX7_ownMethod 34 = .ok (.goto 4, 3) := by decide +kernel
theorem dX7_ownMethod_37 : decode cX7_ownMethod 37 = .ok (.iload_n 3, 1) := by decide +kernel
theorem dX7_ownMethod_38 : decode cX7_ownMethod 38 = .ok (.istore_n 3, 1) := by decide +kernel
theorem dX7_ownMethod_39 : decode cX7_ownMethod 39 = .ok (.iinc 4 1, 3) := by decide +kernel
theorem dX7_ownMethod_42 : decode cX7_ownMethod 42 = .ok (.goto (-36), 3) := by decide +kernel
theorem dX7_ownMethod_45 : decode cX7_ownMethod 45 = .ok (.iload_n 3, 1) := by decide +kernel
theorem dX7_ownMethod_46 : decode cX7_ownMethod 46 = .ok (.ireturn, 1) := by decide +kernel
theorem dX7_field_0 : decode cX7_field 0 = .ok (.aload_n 0, 1) := by decide +kernel
theorem dX7_field_1 : decode cX7_field 1 = .ok (.iload_n 1, 1) := by decide +kernel
theorem dX7_field_2 : decode cX7_field 2 = .ok (.invokevirtual 136, 3) := by decide +kernel
theorem dX7_field_5 : decode cX7_field 5 = .ok (.ifCond .ne 5, 3) := by decide +kernel
theorem dX7_field_8 : decode cX7_field 8 = .ok (.iconst (-1), 1) := by decide +kernel
theorem dX7_field_9 : decode cX7_field 9 = .ok (.ireturn, 1) := by decide +kernel
theorem dX7_field_10 : decode cX7_field 10 = .ok (.iload_n 2, 1) := by decide +kernel
theorem dX7_field_11 : decode cX7_field 11 = .ok (.iconst 0, 1) := by decide +kernel
theorem dX7_field_12 : decode cX7_field 12 = .ok (.bipush 9, 2) := by decide +kernel
theorem dX7_field_14 : decode cX7_field 14 = .ok (.invokestatic 132, 3) := by decide +kernel
theorem dX7_field_17 : decode cX7_field 17 = .ok (.ifCond .ne 6, 3) := by decide +kernel
theorem dX7_field_20 : decode cX7_field 20 = .ok (.bipush (-2), 2) := by decide +kernel
theorem dX7_field_22 : decode cX7_field 22 = .ok (.ireturn, 1) := by decide +kernel
theorem dX7_field_23 : decode cX7_field 23 = .ok (.aload_n 0, 1) := by decide +kernel
theorem dX7_field_24 : decode cX7_field 24 = .ok (.getfield 140, 3) := by decide +kernel
theorem dX7_field_27 : decode cX7_field 27 = .ok (.ifCond .le 6, 3) := by decide +kernel
theorem dX7_field_30 : decode cX7_field 30 = .ok (.bipush (-3), 2) := by decide +kernel
theorem dX7_field_32 : decode cX7_field 32 = .ok (.ireturn, 1) := by decide +kernel
theorem dX7_field_33 : decode cX7_field 33 = .ok (.aload_n 0, 1) := by decide +kernel
theorem dX7_field_34 : decode cX7_field 34 = .ok (.getfield 26, 3) := by decide +kernel
theorem dX7_field_37 : decode cX7_field 37 = .ok (.iload_n 1, 1) := by decide +kernel
theorem dX7_field_38 : decode cX7_field 38 = .ok (.iaload, 1) := by decide +kernel
theorem dX7_field_39 : decode cX7_field 39 = .ok (.bipush 6, 2) := by decide +kernel
theorem dX7_field_41 : decode cX7_field 41 = .ok (.if_icmp .ne 6, 3) := by decide +kernel
theorem dX7_field_44 : decode cX7_field 44 = .ok (.bipush (-4), 2) := by decide +kernel
theorem dX7_field_46 : decode cX7_field 46 = .ok (.ireturn, 1) := by decide +kernel
theorem dX7_field_47 : decode cX7_field 47 = .ok (.aload_n 0, 1) := by decide +kernel
theorem dX7_field_48 : decode cX7_field 48 = .ok (.iload_n 1, 1) := by decide +kernel
theorem dX7_field_49 : decode cX7_field 49 = .ok (.iload_n 2, 1) := by decide +kernel
theorem dX7_field_50 : decode cX7_field 50 = .ok (.invokevirtual 151, 3) := by decide +kernel
theorem dX7_field_53 : decode cX7_field 53 = .ok (.ifCond .lt 6, 3) := by decide +kernel
theorem dX7_field_56 : decode cX7_field 56 = .ok (.bipush (-5), 2) := by decide +kernel
theorem dX7_field_58 : decode cX7_field 58 = .ok (.ireturn, 1) := by decide +kernel
theorem dX7_field_59 : decode cX7_field 59 = .ok (.bipush 6, 2) := by decide +kernel
theorem dX7_field_61 : decode cX7_field 61 = .ok (.iload_n 1, 1) := by decide +kernel
theorem dX7_field_62 : decode cX7_field 62 = .ok (.imul, 1) := by decide +kernel
theorem dX7_field_63 : decode cX7_field 63 = .ok (.aload_n 0, 1) := by decide +kernel
theorem dX7_field_64 : decode cX7_field 64 = .ok (.getfield 26, 3) := by decide +kernel
theorem dX7_field_67 : decode cX7_field 67 = .ok (.iload_n 1, 1) := by decide +kernel
theorem dX7_field_68 : decode cX7_field 68 = .ok (.iaload, 1) := by decide +kernel
theorem dX7_field_69 : decode cX7_field 69 = .ok (.iadd, 1) := by decide +kernel
theorem dX7_field_70 : decode cX7_field 70 = .ok (.istore 5, 2) := by decide +kernel
theorem dX7_field_72 : decode cX7_field 72 = .ok (.aload_n 0, 1) := by decide +kernel
theorem dX7_field_73 : decode cX7_field 73 = .ok (.getfield 29, 3) := by decide +kernel
theorem dX7_field_76 : decode cX7_field 76 = .ok (.iload 5, 2) := by decide +kernel
theorem dX7_field_78 : decode cX7_field 78 = .ok (.iload_n 2, 1) := by decide +kernel
theorem dX7_field_79 : decode cX7_field 79 = .ok (.iastore, 1) := by decide +kernel
theorem dX7_field_80 : decode cX7_field 80 = .ok (.aload_n 0, 1) := by decide +kernel
theorem dX7_field_81 : decode cX7_field 81 = .ok (.getfield 32, 3) := by decide +kernel
theorem dX7_field_84 : decode cX7_field 84 = .ok (.iload 5, 2) := by decide +kernel
theorem dX7_field_86 : decode cX7_field 86 = .ok (.iload_n 3, 1) := by decide +kernel
theorem dX7_field_87 : decode cX7_field 87 = .ok (.bastore, 1) := by decide +kernel
theorem dX7_field_88 : decode cX7_field 88 = .ok (.aload_n 0, 1) := by decide +kernel
theorem dX7_field_89 : decode cX7_field 89 = .ok (.getfield 35, 3) := by decide +kernel
theorem dX7_field_92 : decode cX7_field 92 = .ok (.iload 5, 2) := by decide +kernel
theorem dX7_field_94 : decode cX7_field 94 = .ok (.iload 4, 2) := by decide +kernel
theorem dX7_field_96 : decode cX7_field 96 = .ok (.iastore, 1) := by decide +kernel
theorem dX7_field_97 : decode cX7_field 97 = .ok (.aload_n 0, 1) := by decide +kernel
theorem dX7_field_98 : decode cX7_field 98 = .ok (.getfield 26, 3) := by decide +kernel
theorem dX7_field_101 : decode cX7_field 101 = .ok (.iload_n 1, 1) := by decide +kernel
theorem dX7_field_102 : decode cX7_field 102 = .ok (.dup2, 1) := by decide +kernel
theorem dX7_field_103 : decode cX7_field 103 = .ok (.iaload, 1) := by decide +kernel
theorem dX7_field_104 : decode cX7_field 104 = .ok (.iconst 1, 1) := by decide +kernel
theorem dX7_field_105 : decode cX7_field 105 = .ok (.iadd, 1) := by decide +kernel
theorem dX7_field_106 : decode cX7_field 106 = .ok (.iastore, 1) := by decide +kernel
theorem dX7_field_107 : decode cX7_field 107 = .ok (.aload_n 0, 1) := by decide +kernel
theorem dX7_field_108 : decode cX7_field 108 = .ok (.getfield 26, 3) := by decide +kernel
theorem dX7_field_111 : decode cX7_field 111 = .ok (.iload_n 1, 1) := by decide +kernel
theorem dX7_field_112 : decode cX7_field 112 = .ok (.iaload, 1) := by decide +kernel
theorem dX7_field_113 : decode cX7_field 113 = .ok (.ireturn, 1) := by decide +kernel
theorem dX7_method_0 : decode cX7_method 0 = .ok (.aload_n 0, 1) := by decide +kernel
theorem dX7_method_1 : decode cX7_method 1 = .ok (.iload_n 1, 1) := by decide +kernel
theorem dX7_method_2 : decode cX7_method 2 = .ok (.invokevirtual 136, 3) := by decide +kernel
theorem dX7_method_5 : decode cX7_method 5 = .ok (.ifCond .ne 5, 3) := by decide +kernel
theorem dX7_method_8 : decode cX7_method 8 = .ok (.iconst (-1), 1) := by decide +kernel
theorem dX7_method_9 : decode cX7_method 9 = .ok (.ireturn, 1) := by decide +kernel
theorem dX7_method_10 : decode cX7_method 10 = .ok (.iload_n 2, 1) := by decide +kernel
theorem dX7_method_11 : decode cX7_method 11 = .ok (.iconst 0, 1) := by decide +kernel
theorem dX7_method_12 : decode cX7_method 12 = .ok (.bipush 9, 2) := by decide +kernel
theorem dX7_method_14 : decode cX7_method 14 = .ok (.invokestatic 132, 3) := by decide +kernel
theorem dX7_method_17 : decode cX7_method 17 = .ok (.ifCond .ne 6, 3) := by decide +kernel
theorem dX7_method_20 : decode cX7_method 20 = .ok (.bipush (-2), 2) := by decide +kernel
theorem dX7_method_22 : decode cX7_method 22 = .ok (.ireturn, 1) := by decide +kernel
theorem dX7_method_23 : decode cX7_method 23 = .ok (.aload_n 0, 1) := by decide +kernel
theorem dX7_method_24 : decode cX7_method 24 = .ok (.getfield 140, 3) := by decide +kernel
theorem dX7_method_27 : decode cX7_method 27 = .ok (.ifCond .le 6, 3) := by decide +kernel
theorem dX7_method_30 : decode cX7_method 30 = .ok (.bipush (-3), 2) := by decide +kernel
theorem dX7_method_32 : decode cX7_method 32 = .ok (.ireturn, 1) := by decide +kernel
theorem dX7_method_33 : decode cX7_method 33 = .ok (.aload_n 0, 1) := by decide +kernel
theorem dX7_method_34 : decode cX7_method 34 = .ok (.getfield 38, 3) := by decide +kernel
theorem dX7_method_37 : decode cX7_method 37 = .ok (.iload_n 1, 1) := by decide +kernel
theorem dX7_method_38 : decode cX7_method 38 = .ok (.iaload, 1) := by decide +kernel
theorem dX7_method_39 : decode cX7_method 39 = .ok (.iconst 4, 1) := by decide +kernel
theorem dX7_method_40 : decode cX7_method 40 = .ok (.if_icmp .ne 6, 3) := by decide +kernel
theorem dX7_method_43 : decode cX7_method 43 = .ok (.bipush (-4), 2) := by decide +kernel
theorem dX7_method_45 : decode cX7_method 45 = .ok (.ireturn, 1) := by decide +kernel
theorem dX7_method_46 : decode cX7_method 46 = .ok (.aload_n 0, 1) := by decide +kernel
theorem dX7_method_47 : decode cX7_method 47 = .ok (.iload_n 1, 1) := by decide +kernel
theorem dX7_method_48 : decode cX7_method 48 = .ok (.iload_n 2, 1) := by decide +kernel
theorem dX7_method_49 : decode cX7_method 49 = .ok (.invokevirtual 155, 3) := by decide +kernel
theorem dX7_method_52 : decode cX7_method 52 = .ok (.ifCond .lt 6, 3) := by decide +kernel
theorem dX7_method_55 : decode cX7_method 55 = .ok (.bipush (-5), 2) := by decide +kernel
theorem dX7_method_57 : decode cX7_method 57 = .ok (.ireturn, 1) := by decide +kernel
theorem dX7_method_58 : decode cX7_method 58 = .ok (.aload_n 0, 1) := by decide +kernel
theorem dX7_method_59 : decode cX7_method 59 = .ok (.getfield 41, 3) := by decide +kernel
theorem dX7_method_62 : decode cX7_method 62 = .ok (.iconst 4, 1) := by decide +kernel
theorem dX7_method_63 : decode cX7_method 63 = .ok (.iload_n 1, 1) := by decide +kernel
theorem dX7_method_64 : decode cX7_method 64 = .ok (.imul, 1) := by decide +kernel
theorem dX7_method_65 : decode cX7_method 65 = .ok (.aload_n 0, 1) := by decide +kernel
theorem dX7_method_66 : decode cX7_method 66 = .ok (.getfield 38, 3) := by decide +kernel
theorem dX7_method_69 : decode cX7_method 69 = .ok (.iload_n 1, 1) := by decide +kernel
theorem dX7_method_70 : decode cX7_method 70 = .ok (.iaload, 1) := by decide +kernel
theorem dX7_method_71 : decode cX7_method 71 = .ok (.iadd, 1) := by decide +kernel
theorem dX7_method_72 : decode cX7_method 72 = .ok (.iload_n 2, 1) := by decide +kernel
theorem dX7_method_73 : decode cX7_method 73 = .ok (.iastore, 1) := by decide +kernel
theorem dX7_method_74 : decode cX7_method 74 = .ok (.aload_n 0, 1) := by decide +kernel
theorem dX7_method_75 : decode cX7_method 75 = .ok (.getfield 38, 3) := by decide +kernel
theorem dX7_method_78 : decode cX7_method 78 = .ok (.iload_n 1, 1) := by decide +kernel
theorem dX7_method_79 : decode cX7_method 79 = .ok (.dup2, 1) := by decide +kernel
theorem dX7_method_80 : decode cX7_method 80 = .ok (.iaload, 1) := by decide +kernel
theorem dX7_method_81 : decode cX7_method 81 = .ok (.iconst 1, 1) := by decide +kernel
theorem dX7_method_82 : decode cX7_method 82 = .ok (.iadd, 1) := by decide +kernel
theorem dX7_method_83 : decode cX7_method 83 = .ok (.iastore, 1) := by decide +kernel
theorem dX7_method_84 : decode cX7_method 84 = .ok (.aload_n 0, 1) := by decide +kernel
theorem dX7_method_85 : decode cX7_method 85 = .ok (.getfield 38, 3) := by decide +kernel
theorem dX7_method_88 : decode cX7_method 88 = .ok (.iload_n 1, 1) := by decide +kernel
theorem dX7_method_89 : decode cX7_method 89 = .ok (.iaload, 1) := by decide +kernel
theorem dX7_method_90 : decode cX7_method 90 = .ok (.ireturn, 1) := by decide +kernel
theorem dX7_act_0 : decode cX7_act 0 = .ok (.aload_n 0, 1) := by decide +kernel
theorem dX7_act_1 : decode cX7_act 1 = .ok (.iload_n 1, 1) := by decide +kernel
theorem dX7_act_2 : decode cX7_act 2 = .ok (.invokevirtual 136, 3) := by decide +kernel
theorem dX7_act_5 : decode cX7_act 5 = .ok (.ifCond .eq 22, 3) := by decide +kernel
theorem dX7_act_8 : decode cX7_act 8 = .ok (.iload_n 3, 1) := by decide +kernel
theorem dX7_act_9 : decode cX7_act 9 = .ok (.iconst 1, 1) := by decide +kernel
theorem dX7_act_10 : decode cX7_act 10 = .ok (.bipush 6, 2) := by decide +kernel
theorem dX7_act_12 : decode cX7_act 12 = .ok (.invokestatic 132, 3) := by decide +kernel
theorem dX7_act_15 : decode cX7_act 15 = .ok (.ifCond .eq 14, 3) := by decide +kernel
theorem dX7_act_18 : decode cX7_act 18 = .ok (.aload_n 0, 1) := by decide +kernel
theorem dX7_act_19 : decode cX7_act 19 = .ok (.iload 4, 2) := by decide +kernel
theorem dX7_act_21 : decode cX7_act 21 = .ok (.invokevirtual 136, 3) := by decide +kernel
theorem dX7_act_24 : decode cX7_act 24 = .ok (.ifCond .ne 5, 3) := by decide +kernel
theorem dX7_act_27 : decode cX7_act 27 = .ok (.iconst (-1), 1) := by decide +kernel
theorem dX7_act_28 : decode cX7_act 28 = .ok (.ireturn, 1) := by decide +kernel
theorem dX7_act_29 : decode cX7_act 29 = .ok (.iload_n 3, 1) := by decide +kernel
theorem dX7_act_30 : decode cX7_act 30 = .ok (.iconst 0, 1) := by decide +kernel
theorem dX7_act_31 : decode cX7_act 31 = .ok (.bipush 8, 2) := by decide +kernel
theorem dX7_act_33 : decode cX7_act 33 = .ok (.invokestatic 132, 3) := by decide +kernel
theorem dX7_act_36 : decode cX7_act 36 = .ok (.ifCond .eq 27, 3) := by decide +kernel
theorem dX7_act_39 : decode cX7_act 39 = .ok (.iload_n 3, 1) := by decide +kernel
theorem dX7_act_40 : decode cX7_act 40 = .ok (.iconst 1, 1) := by decide +kernel
theorem dX7_act_41 : decode cX7_act 41 = .ok (.iconst 3, 1) := by decide +kernel
theorem dX7_act_42 : decode cX7_act 42 = .ok (.invokestatic 132, 3) := by decide +kernel
theorem dX7_act_45 : decode cX7_act 45 = .ok (.ifCond .eq 14, 3) := by decide +kernel
theorem dX7_act_48 : decode cX7_act 48 = .ok (.iload 5, 2) := by decide +kernel
theorem dX7_act_50 : decode cX7_act 50 = .ok (.iconst 0, 1) := by decide +kernel
theorem dX7_act_51 : decode cX7_act 51 = .ok (.bipush 9, 2) := by decide +kernel
theorem dX7_act_53 : decode cX7_act 53 = .ok (.invokestatic 132, 3) := by decide +kernel
theorem dX7_act_56 : decode cX7_act 56 = .ok (.ifCond .eq 7, 3) := by decide +kernel
theorem dX7_act_59 : decode cX7_act 59 = .ok (.iconst 1, 1) := by decide +kernel
theorem dX7_act_60 : decode cX7_act 60 = .ok (.goto 4, 3) := by decide +kernel
theorem dX7_act_63 : decode cX7_act 63 = .ok (.iconst 0, 1) := by decide +kernel
theorem dX7_act_64 : decode cX7_act 64 = .ok (.istore 7, 2) := by decide +kernel
theorem dX7_act_66 : decode cX7_act 66 = .ok (.iload 7, 2) := by decide +kernel
theorem dX7_act_68 : decode cX7_act 68 = .ok (.ifCond .eq 41, 3) := by decide +kernel
theorem dX7_act_71 : decode cX7_act 71 = .ok (.iload_n 3, 1) := by decide +kernel
theorem dX7_act_72 : decode cX7_act 72 = .ok (.bipush 7, 2) := by decide +kernel
theorem dX7_act_74 : decode cX7_act 74 = .ok (.if_icmp .ne 14, 3) := by decide +kernel
theorem dX7_act_77 : decode cX7_act 77 = .ok (.iload 6, 2) := by decide +kernel
theorem dX7_act_79 : decode cX7_act 79 = .ok (.iconst 0, 1) := by decide +kernel
theorem dX7_act_80 : decode cX7_act 80 = .ok (.bipush 19, 2) := by decide +kernel
theorem dX7_act_82 : decode cX7_act 82 = .ok (.invokestatic 132, 3) := by decide +kernel
theorem dX7_act_85 : decode cX7_act 85 = .ok (.ifCond .eq 24, 3) := by decide +kernel
theorem dX7_act_88 : decode cX7_act 88 = .ok (.iload_n 3, 1) := by decide +kernel
theorem dX7_act_89 : decode cX7_act 89 = .ok (.bipush 8, 2) := by decide +kernel
theorem dX7_act_91 : decode cX7_act 91 = .ok (.if_icmp .ne 14, 3) := by decide +kernel
theorem dX7_act_94 : decode cX7_act 94 = .ok (.iload 6, 2) := by decide +kernel
theorem dX7_act_96 : decode cX7_act 96 = .ok (.iconst (-1), 1) := by decide +kernel
theorem dX7_act_97 : decode cX7_act 97 = .ok (.bipush 22, 2) := by decide +kernel
theorem dX7_act_99 : decode cX7_act 99 = .ok (.invokestatic 132, 3) := by decide +kernel
theorem dX7_act_102 : decode cX7_act 102 = .ok (.ifCond .eq 7, 3) := by decide +kernel
theorem dX7_act_105 : decode cX7_act 105 = .ok (.iconst 1, 1) := by decide +kernel
theorem dX7_act_106 : decode cX7_act 106 = .ok (.goto 4, 3) := by decide +kernel
theorem dX7_act_109 : decode cX7_act 109 = .ok (.iconst 0, 1) := by decide +kernel
theorem dX7_act_110 : decode cX7_act 110 = .ok (.istore 7, 2) := by decide +kernel
theorem dX7_act_112 : decode cX7_act 112 = .ok (.iload 7, 2) := by decide +kernel
theorem dX7_act_114 : decode cX7_act 114 = .ok (.ifCond .ne 6, 3) := by decide +kernel
theorem dX7_act_117 : decode cX7_act 117 = .ok (.bipush (-2), 2) := by decide +kernel
theorem dX7_act_119 : decode cX7_act 119 = .ok (.ireturn, 1) := by decide +kernel
theorem dX7_act_120 : decode cX7_act 120 = .ok (.aload_n 0, 1) := by decide +kernel
theorem dX7_act_121 : decode cX7_act 121 = .ok (.getfield 140, 3) := by decide +kernel
theorem dX7_act_124 : decode cX7_act 124 = .ok (.ifCond .le 6, 3) := by decide +kernel
theorem dX7_act_127 : decode cX7_act 127 = .ok (.bipush (-3), 2) := by decide +kernel
theorem dX7_act_129 : decode cX7_act 129 = .ok (.ireturn, 1) := by decide +kernel
theorem dX7_act_130 : decode cX7_act 130 = .ok (.iload_n 2, 1) := by decide +kernel
theorem dX7_act_131 : decode cX7_act 131 = .ok (.iconst (-1), 1) := by decide +kernel
theorem dX7_act_132 : decode cX7_act 132 = .ok (.if_icmp .ne 7, 3) := by decide +kernel
theorem dX7_act_135 : decode cX7_act 135 = .ok (.iconst (-1), 1) := by decide +kernel
theorem dX7_act_136 : decode cX7_act 136 = .ok (.goto 9, 3) := by decide +kernel
theorem dX7_act_139 : decode cX7_act 139 = .ok (.aload_n 0, 1) := by decide +kernel
theorem dX7_act_140 : decode cX7_act 140 = .ok (.iload_n 1, 1) := by decide +kernel
theorem dX7_act_141 : decode cX7_act 141 = .ok (.iload_n 2, 1) := by decide +kernel
theorem dX7_act_142 : decode cX7_act 142 = .ok (.invokevirtual 155, 3) := by decide +kernel
theorem dX7_act_145 : decode cX7_act 145 = .ok (.istore 8, 2) := by decide +kernel
theorem dX7_act_147 : decode cX7_act 147 = .ok (.iload 8, 2) := by decide +kernel
theorem dX7_act_149 : decode cX7_act 149 = .ok (.bipush (-6), 2) := by decide +kernel
theorem dX7_act_151 : decode cX7_act 151 = .ok (.if_icmp .ne 6, 3) := by decide +kernel
theorem dX7_act_154 : decode cX7_act 154 = .ok (.bipush (-5), 2) := by decide +kernel
theorem dX7_act_156 : decode cX7_act 156 = .ok (.ireturn, 1) := by decide +kernel
theorem dX7_act_157 : decode cX7_act 157 = .ok (.iconst 5, 1) := by decide +kernel
theorem dX7_act_158 : decode cX7_act 158 = .ok (.iload_n 1, 1) := by decide +kernel
theorem dX7_act_159 : decode cX7_act 159 = .ok (.imul, 1) := by decide +kernel
theorem dX7_act_160 : decode cX7_act 160 = .ok (.iconst 1, 1) := by decide +kernel
theorem dX7_act_161 : decode cX7_act 161 = .ok (.iadd, 1) := by decide +kernel
theorem dX7_act_162 : decode cX7_act 162 = .ok (.iload 8, 2) := by decide +kernel
theorem dX7_act_164 : decode cX7_act 164 = .ok (.iadd, 1) := by decide +kernel
theorem dX7_act_165 : decode cX7_act 165 = .ok (.istore 9, 2) := by decide +kernel
theorem dX7_act_167 : decode cX7_act 167 = .ok (.aload_n 0, 1) := by decide +kernel
theorem dX7_act_168 : decode cX7_act 168 = .ok (.getfield 44, 3) := by decide +kernel
theorem dX7_act_171 : decode cX7_act 171 = .ok (.iload 9, 2) := by decide +kernel
theorem dX7_act_173 : decode cX7_act 173 = .ok (.iaload, 1) := by decide +kernel
theorem dX7_act_174 : decode cX7_act 174 = .ok (.bipush 12, 2) := by decide +kernel
theorem dX7_act_176 : decode cX7_act 176 = .ok (.if_icmp .ne 6, 3) := by decide +kernel
theorem dX7_act_179 : decode cX7_act 179 = .ok (.bipush (-4), 2) := by decide +kernel
theorem dX7_act_181 : decode cX7_act 181 = .ok (.ireturn, 1) := by decide +kernel
theorem dX7_act_182 : decode cX7_act 182 = .ok (.bipush 12, 2) := by decide +kernel
theorem dX7_act_184 : decode cX7_act 184 = .ok (.iload 9, 2) := by decide +kernel
theorem dX7_act_186 : decode cX7_act 186 = .ok (.imul, 1) := by decide +kernel
theorem dX7_act_187 : decode cX7_act 187 = .ok (.aload_n 0, 1) := by decide +kernel
theorem dX7_act_188 : decode cX7_act 188 = .ok (.getfield 44, 3) := by decide +kernel
theorem dX7_act_191 : decode cX7_act 191 = .ok (.iload 9, 2) := by decide +kernel
theorem dX7_act_193 : decode cX7_act 193 = .ok (.iaload, 1) := by decide +kernel
theorem dX7_act_194 : decode cX7_act 194 = .ok (.iadd, 1) := by decide +kernel
theorem dX7_act_195 : decode cX7_act 195 = .ok (.istore 10, 2) := by decide +kernel
theorem dX7_act_197 : decode cX7_act 197 = .ok (.aload_n 0, 1) := by decide +kernel
theorem dX7_act_198 : decode cX7_act 198 = .ok (.getfield 47, 3) := by decide +kernel
theorem dX7_act_201 : decode cX7_act 201 = .ok (.iload 10, 2) := by decide +kernel
theorem dX7_act_203 : decode cX7_act 203 = .ok (.iload_n 3, 1) := by decide +kernel
theorem dX7_act_204 : decode cX7_act 204 = .ok (.iastore, 1) := by decide +kernel
theorem dX7_act_205 : decode cX7_act 205 = .ok (.aload_n 0, 1) := by decide +kernel
theorem dX7_act_206 : decode cX7_act 206 = .ok (.getfield 50, 3) := by decide +kernel
theorem dX7_act_209 : decode cX7_act 209 = .ok (.iload 10, 2) := by decide +kernel
theorem dX7_act_211 : decode cX7_act 211 = .ok (.iload 4, 2) := by decide +kernel
theorem dX7_act_213 : decode cX7_act 213 = .ok (.iastore, 1) := by decide +kernel
theorem dX7_act_214 : decode cX7_act 214 = .ok (.aload_n 0, 1) := by decide +kernel
theorem dX7_act_215 : decode cX7_act 215 = .ok (.getfield 53, 3) := by decide +kernel
theorem dX7_act_218 : decode cX7_act 218 = .ok (.iload 10, 2) := by decide +kernel
theorem dX7_act_220 : decode cX7_act 220 = .ok (.iload 5, 2) := by decide +kernel
theorem dX7_act_222 : decode cX7_act 222 = .ok (.iastore, 1) := by decide +kernel
theorem dX7_act_223 : decode cX7_act 223 = .ok (.aload_n 0, 1) := by decide +kernel
theorem dX7_act_224 : decode cX7_act 224 = .ok (.getfield 56, 3) := by decide +kernel
theorem dX7_act_227 : decode cX7_act 227 = .ok (.iload 10, 2) := by decide +kernel
theorem dX7_act_229 : decode cX7_act 229 = .ok (.iload 6, 2) := by decide +kernel
theorem dX7_act_231 : decode cX7_act 231 = .ok (.iastore, 1) := by decide +kernel
theorem dX7_act_232 : decode cX7_act 232 = .ok (.aload_n 0, 1) := by decide +kernel
theorem dX7_act_233 : decode cX7_act 233 = .ok (.getfield 44, 3) := by decide +kernel
theorem dX7_act_236 : decode cX7_act 236 = .ok (.iload 9, 2) := by decide +kernel
theorem dX7_act_238 : decode cX7_act 238 = .ok (.dup2, 1) := by decide +kernel
theorem dX7_act_239 : decode cX7_act 239 = .ok (.iaload, 1) := by decide +kernel
theorem dX7_act_240 : decode cX7_act 240 = .ok (.iconst 1, 1) := by decide +kernel
theorem dX7_act_241 : decode cX7_act 241 = .ok (.iadd, 1) := by decide +kernel
theorem dX7_act_242 : decode cX7_act 242 = .ok (.iastore, 1) := by decide +kernel
theorem dX7_act_243 : decode cX7_act 243 = .ok (.aload_n 0, 1) := by decide +kernel
theorem dX7_act_244 : decode cX7_act 244 = .ok (.getfield 44, 3) := by decide +kernel
theorem dX7_act_247 : decode cX7_act 247 = .ok (.iload 9, 2) := by decide +kernel
theorem dX7_act_249 : decode cX7_act 249 = .ok (.iaload, 1) := by decide +kernel
theorem dX7_act_250 : decode cX7_act 250 = .ok (.ireturn, 1) := by decide +kernel
theorem dX7_told_0 : decode cX7_told 0 = .ok (.iload_n 2, 1) := by decide +kernel
theorem dX7_told_1 : decode cX7_told 1 = .ok (.iconst 0, 1) := by decide +kernel
theorem dX7_told_2 : decode cX7_told 2 = .ok (.bipush 9, 2) := by decide +kernel
theorem dX7_told_4 : decode cX7_told 4 = .ok (.invokestatic 132, 3) := by decide +kernel
theorem dX7_told_7 : decode cX7_told 7 = .ok (.ifCond .ne 6, 3) := by decide +kernel
theorem dX7_told_10 : decode cX7_told 10 = .ok (.bipush (-2), 2) := by decide +kernel
theorem dX7_told_12 : decode cX7_told 12 = .ok (.ireturn, 1) := by decide +kernel
theorem dX7_told_13 : decode cX7_told 13 = .ok (.iload_n 2, 1) := by decide +kernel
theorem dX7_told_14 : decode cX7_told 14 = .ok (.iconst 2, 1) := by decide +kernel
theorem dX7_told_15 : decode cX7_told 15 = .ok (.if_icmp .ge 19, 3) := by decide +kernel
theorem dX7_told_18 : decode cX7_told 18 = .ok (.iload_n 2, 1) := by decide +kernel
theorem dX7_told_19 : decode cX7_told 19 = .ok (.ifCond .ne 10, 3) := by decide +kernel
theorem dX7_told_22 : decode cX7_told 22 = .ok (.aload_n 0, 1) := by decide +kernel
theorem dX7_told_23 : decode cX7_told 23 = .ok (.getfield 128, 3) := by decide +kernel
theorem dX7_told_26 : decode cX7_told 26 = .ok (.goto 7, 3) := by decide +kernel
theorem dX7_told_29 : decode cX7_told 29 = .ok (.aload_n 0, 1) := by decide +kernel
theorem dX7_told_30 : decode cX7_told 30 = .ok (.getfield 140, 3) := by decide +kernel
theorem dX7_told_33 : decode cX7_told 33 = .ok (.ireturn, 1) := by decide +kernel
theorem dX7_told_34 : decode cX7_told 34 = .ok (.aload_n 0, 1) := by decide +kernel
theorem dX7_told_35 : decode cX7_told 35 = .ok (.iload_n 1, 1) := by decide +kernel
theorem dX7_told_36 : decode cX7_told 36 = .ok (.invokevirtual 136, 3) := by decide +kernel
theorem dX7_told_39 : decode cX7_told 39 = .ok (.ifCond .ne 5, 3) := by decide +kernel
theorem dX7_told_42 : decode cX7_told 42 = .ok (.iconst (-1), 1) := by decide +kernel
theorem dX7_told_43 : decode cX7_told 43 = .ok (.ireturn, 1) := by decide +kernel
theorem dX7_told_44 : decode cX7_told 44 = .ok (.iload_n 2, 1) := by decide +kernel
theorem dX7_told_45 : decode cX7_told 45 = .ok (.tableswitch 124 2 8 #[43, 58, 73, 94, 101, 108, 115], 43) := by decide +kernel
theorem dX7_told_88 : decode cX7_told 88 = .ok (.aload_n 0, 1) := by decide +kernel
theorem dX7_told_89 : decode cX7_told 89 = .ok (.getfield 7, 3) := by decide +kernel
theorem dX7_told_92 : decode cX7_told 92 = .ok (.iload_n 1, 1) := by decide +kernel
theorem dX7_told_93 : decode cX7_told 93 = .ok (.baload, 1) := by decide +kernel
theorem dX7_told_94 : decode cX7_told 94 = .ok (.ifCond .eq 7, 3) := by decide +kernel
theorem dX7_told_97 : decode cX7_told 97 = .ok (.iconst 1, 1) := by decide +kernel
theorem dX7_told_98 : decode cX7_told 98 = .ok (.goto 4, 3) := by decide +kernel
theorem dX7_told_101 : decode cX7_told 101 = .ok (.iconst 0, 1) := by decide +kernel
theorem dX7_told_102 : decode cX7_told 102 = .ok (.ireturn, 1) := by decide +kernel
theorem dX7_told_103 : decode cX7_told 103 = .ok (.aload_n 0, 1) := by decide +kernel
theorem dX7_told_104 : decode cX7_told 104 = .ok (.getfield 13, 3) := by decide +kernel
theorem dX7_told_107 : decode cX7_told 107 = .ok (.iload_n 1, 1) := by decide +kernel
theorem dX7_told_108 : decode cX7_told 108 = .ok (.baload, 1) := by decide +kernel
theorem dX7_told_109 : decode cX7_told 109 = .ok (.ifCond .eq 7, 3) := by decide +kernel
theorem dX7_told_112 : decode cX7_told 112 = .ok (.iconst 1, 1) := by decide +kernel
theorem dX7_told_113 : decode cX7_told 113 = .ok (.goto 4, 3) := by decide +kernel
theorem dX7_told_116 : decode cX7_told 116 = .ok (.iconst 0, 1) := by decide +kernel
theorem dX7_told_117 : decode cX7_told 117 = .ok (.ireturn, 1) := by decide +kernel
theorem dX7_told_118 : decode cX7_told 118 = .ok (.aload_n 0, 1) := by decide +kernel
theorem dX7_told_119 : decode cX7_told 119 = .ok (.getfield 16, 3) := by decide +kernel
theorem dX7_told_122 : decode cX7_told 122 = .ok (.iload_n 1, 1) := by decide +kernel
theorem dX7_told_123 : decode cX7_told 123 = .ok (.iaload, 1) := by decide +kernel
theorem dX7_told_124 : decode cX7_told 124 = .ok (.ifCond .ge 8, 3) := by decide +kernel
theorem dX7_told_127 : decode cX7_told 127 = .ok (.bipush (-6), 2) := by decide +kernel
theorem dX7_told_129 : decode cX7_told 129 = .ok (.goto 9, 3) := by decide +kernel
theorem dX7_told_132 : decode cX7_told 132 = .ok (.aload_n 0, 1) := by decide +kernel
theorem dX7_told_133 : decode cX7_told 133 = .ok (.getfield 16, 3) := by decide +kernel
theorem dX7_told_136 : decode cX7_told 136 = .ok (.iload_n 1, 1) := by decide +kernel
theorem dX7_told_137 : decode cX7_told 137 = .ok (.iaload, 1) := by decide +kernel
theorem dX7_told_138 : decode cX7_told 138 = .ok (.ireturn, 1) := by decide +kernel
theorem dX7_told_139 : decode cX7_told 139 = .ok (.aload_n 0, 1) := by decide +kernel
theorem dX7_told_140 : decode cX7_told 140 = .ok (.getfield 20, 3) := by decide +kernel
theorem dX7_told_143 : decode cX7_told 143 = .ok (.iload_n 1, 1) := by decide +kernel
theorem dX7_told_144 : decode cX7_told 144 = .ok (.iaload, 1) := by decide +kernel
theorem dX7_told_145 : decode cX7_told 145 = .ok (.ireturn, 1) := by decide +kernel
theorem dX7_told_146 : decode cX7_told 146 = .ok (.aload_n 0, 1) := by decide +kernel
theorem dX7_told_147 : decode cX7_told 147 = .ok (.getfield 26, 3) := by decide +kernel
theorem dX7_told_150 : decode cX7_told 150 = .ok (.iload_n 1, 1) := by decide +kernel
theorem dX7_told_151 : decode cX7_told 151 = .ok (.iaload, 1) := by decide +kernel
theorem dX7_told_152 : decode cX7_told 152 = .ok (.ireturn, 1) := by decide +kernel
theorem dX7_told_153 : decode cX7_told 153 = .ok (.aload_n 0, 1) := by decide +kernel
theorem dX7_told_154 : decode cX7_told 154 = .ok (.getfield 38, 3) := by decide +kernel
theorem dX7_told_157 : decode cX7_told 157 = .ok (.iload_n 1, 1) := by decide +kernel
theorem dX7_told_158 : decode cX7_told 158 = .ok (.iaload, 1) := by decide +kernel
theorem dX7_told_159 : decode cX7_told 159 = .ok (.ireturn, 1) := by decide +kernel
theorem dX7_told_160 : decode cX7_told 160 = .ok (.aload_n 0, 1) := by decide +kernel
theorem dX7_told_161 : decode cX7_told 161 = .ok (.getfield 44, 3) := by decide +kernel
theorem dX7_told_164 : decode cX7_told 164 = .ok (.iconst 5, 1) := by decide +kernel
theorem dX7_told_165 : decode cX7_told 165 = .ok (.iload_n 1, 1) := by decide +kernel
theorem dX7_told_166 : decode cX7_told 166 = .ok (.imul, 1) := by decide +kernel
theorem dX7_told_167 : decode cX7_told 167 = .ok (.iaload, 1) := by decide +kernel
theorem dX7_told_168 : decode cX7_told 168 = .ok (.ireturn, 1) := by decide +kernel
theorem dX7_told_169 : decode cX7_told 169 = .ok (.iconst 0, 1) := by decide +kernel
theorem dX7_told_170 : decode cX7_told 170 = .ok (.istore_n 3, 1) := by decide +kernel
theorem dX7_told_171 : decode cX7_told 171 = .ok (.iconst 0, 1) := by decide +kernel
theorem dX7_told_172 : decode cX7_told 172 = .ok (.istore 4, 2) := by decide +kernel
theorem dX7_told_174 : decode cX7_told 174 = .ok (.iload 4, 2) := by decide +kernel
theorem dX7_told_176 : decode cX7_told 176 = .ok (.aload_n 0, 1) := by decide +kernel
theorem dX7_told_177 : decode cX7_told 177 = .ok (.getfield 128, 3) := by decide +kernel
theorem dX7_told_180 : decode cX7_told 180 = .ok (.if_icmp .ge 27, 3) := by decide +kernel
theorem dX7_told_183 : decode cX7_told 183 = .ok (.iload_n 3, 1) := by decide +kernel
theorem dX7_told_184 : decode cX7_told 184 = .ok (.aload_n 0, 1) := by decide +kernel
theorem dX7_told_185 : decode cX7_told 185 = .ok (.iload 4, 2) := by decide +kernel
theorem dX7_told_187 : decode cX7_told 187 = .ok (.iload_n 1, 1) := by decide +kernel
theorem dX7_told_188 : decode cX7_told 188 = .ok (.invokevirtual 147, 3) := by decide +kernel
theorem dX7_told_191 : decode cX7_told 191 = .ok (.ifCond .eq 7, 3) := by decide +kernel
theorem dX7_told_194 : decode cX7_told 194 = .ok (.iconst 1, 1) := by decide +kernel
theorem dX7_told_195 : decode cX7_told 195 = .ok (.goto 4, 3) := by decide +kernel
theorem dX7_told_198 : decode cX7_told 198 = .ok (.iconst 0, 1) := by decide +kernel
theorem dX7_told_199 : decode cX7_told 199 = .ok (.iadd, 1) := by decide +kernel
theorem dX7_told_200 : decode cX7_told 200 = .ok (.istore_n 3, 1) := by decide +kernel
theorem dX7_told_201 : decode cX7_told 201 = .ok (.iinc 4 1, 3) := by decide +kernel
theorem dX7_told_204 : decode cX7_told 204 = .ok (.goto (-30), 3) := by decide +kernel
theorem dX7_told_207 : decode cX7_told 207 = .ok (.iload_n 3, 1) := by decide +kernel
theorem dX7_told_208 : decode cX7_told 208 = .ok (.ireturn, 1) := by decide +kernel
theorem dX7_below_0 : decode cX7_below 0 = .ok (.aload_n 0, 1) := by decide +kernel
theorem dX7_below_1 : decode cX7_below 1 = .ok (.iload_n 1, 1) := by decide +kernel
theorem dX7_below_2 : decode cX7_below 2 = .ok (.invokevirtual 136, 3) := by decide +kernel
theorem dX7_below_5 : decode cX7_below 5 = .ok (.ifCond .eq 11, 3) := by decide +kernel
theorem dX7_below_8 : decode cX7_below 8 = .ok (.aload_n 0, 1) := by decide +kernel
theorem dX7_below_9 : decode cX7_below 9 = .ok (.iload_n 2, 1) := by decide +kernel
theorem dX7_below_10 : decode cX7_below 10 = .ok (.invokevirtual 136, 3) := by decide +kernel
theorem dX7_below_13 : decode cX7_below 13 = .ok (.ifCond .ne 5, 3) := by decide +kernel
theorem dX7_below_16 : decode cX7_below 16 = .ok (.iconst (-1), 1) := by decide +kernel
theorem dX7_below_17 : decode cX7_below 17 = .ok (.ireturn, 1) := by decide +kernel
theorem dX7_below_18 : decode cX7_below 18 = .ok (.aload_n 0, 1) := by decide +kernel
theorem dX7_below_19 : decode cX7_below 19 = .ok (.iload_n 1, 1) := by decide +kernel
theorem dX7_below_20 : decode cX7_below 20 = .ok (.iload_n 2, 1) := by decide +kernel
theorem dX7_below_21 : decode cX7_below 21 = .ok (.invokevirtual 147, 3) := by decide +kernel
theorem dX7_below_24 : decode cX7_below 24 = .ok (.ifCond .eq 7, 3) := by decide +kernel
theorem dX7_below_27 : decode cX7_below 27 = .ok (.iconst 1, 1) := by decide +kernel
theorem dX7_below_28 : decode cX7_below 28 = .ok (.goto 4, 3) := by decide +kernel
theorem dX7_below_31 : decode cX7_below 31 = .ok (.iconst 0, 1) := by decide +kernel
theorem dX7_below_32 : decode cX7_below 32 = .ok (.ireturn, 1) := by decide +kernel
theorem dX7_findField_0 : decode cX7_findField 0 = .ok (.iconst 1, 1) := by decide +kernel
theorem dX7_findField_1 : decode cX7_findField 1 = .ok (.istore_n 3, 1) := by decide +kernel
theorem dX7_findField_2 : decode cX7_findField 2 = .ok (.aload_n 0, 1) := by decide +kernel
theorem dX7_findField_3 : decode cX7_findField 3 = .ok (.getfield 59, 3) := by decide +kernel
theorem dX7_findField_6 : decode cX7_findField 6 = .ok (.iconst 0, 1) := by decide +kernel
theorem dX7_findField_7 : decode cX7_findField 7 = .ok (.iload_n 1, 1) := by decide +kernel
theorem dX7_findField_8 : decode cX7_findField 8 = .ok (.iastore, 1) := by decide +kernel
theorem dX7_findField_9 : decode cX7_findField 9 = .ok (.iconst 0, 1) := by decide +kernel
theorem dX7_findField_10 : decode cX7_findField 10 = .ok (.istore 4, 2) := by decide +kernel
theorem dX7_findField_12 : decode cX7_findField 12 = .ok (.iload 4, 2) := by decide +kernel
theorem dX7_findField_14 : decode cX7_findField 14 = .ok (.aload_n 0, 1) := by decide +kernel
theorem dX7_findField_15 : decode cX7_findField 15 = .ok (.getfield 128, 3) := by decide +kernel
theorem dX7_findField_18 : decode cX7_findField 18 = .ok (.if_icmp .ge 17, 3) := by decide +kernel
theorem dX7_findField_21 : decode cX7_findField 21 = .ok (.aload_n 0, 1) := by decide +kernel
theorem dX7_findField_22 : decode cX7_findField 22 = .ok (.getfield 62, 3) := by decide +kernel
theorem dX7_findField_25 : decode cX7_findField 25 = .ok (.iload 4, 2) := by decide +kernel
theorem dX7_findField_27 : decode cX7_findField 27 = .ok (.iconst 0, 1) := by decide +kernel
theorem dX7_findField_28 : decode cX7_findField 28 = .ok (.bastore, 1) := by decide +kernel
theorem dX7_findField_29 : decode cX7_findField 29 = .ok (.iinc 4 1, 3) := by decide +kernel
theorem dX7_findField_32 : decode cX7_findField 32 = .ok (.goto (-20), 3) := by decide +kernel
theorem dX7_findField_35 : decode cX7_findField 35 = .ok (.iload_n 3, 1) := by decide +kernel
theorem dX7_findField_36 : decode cX7_findField 36 = .ok (.ifCond .le 119, 3) := by decide +kernel
theorem dX7_findField_39 : decode cX7_findField 39 = .ok (.iinc 3 (-1), 3) := by decide +kernel
theorem dX7_findField_42 : decode cX7_findField 42 = .ok (.aload_n 0, 1) := by decide +kernel
theorem dX7_findField_43 : decode cX7_findField 43 = .ok (.getfield 59, 3) := by decide +kernel
theorem dX7_findField_46 : decode cX7_findField 46 = .ok (.iload_n 3, 1) := by decide +kernel
theorem dX7_findField_47 : decode cX7_findField 47 = .ok (.iaload, 1) := by decide +kernel
theorem dX7_findField_48 : decode cX7_findField 48 = .ok (.istore 4, 2) := by decide +kernel
theorem dX7_findField_50 : decode cX7_findField 50 = .ok (.iload 4, 2) := by decide +kernel
theorem dX7_findField_52 : decode cX7_findField 52 = .ok (.ifCond .lt (-17), 3) := by decide +kernel
theorem dX7_findField_55 : decode cX7_findField 55 = .ok (.aload_n 0, 1) := by decide +kernel
theorem dX7_findField_56 : decode cX7_findField 56 = .ok (.getfield 62, 3) := by decide +kernel
theorem dX7_findField_59 : decode cX7_findField 59 = .ok (.iload 4, 2) := by decide +kernel
theorem dX7_findField_61 : decode cX7_findField 61 = .ok (.baload, 1) := by decide +kernel
theorem dX7_findField_62 : decode cX7_findField 62 = .ok (.ifCond .eq 6, 3) := by decide +kernel
theorem dX7_findField_65 : decode cX7_findField 65 = .ok (.goto (-30), 3) := by decide +kernel
theorem dX7_findField_68 : decode cX7_findField 68 = .ok (.aload_n 0, 1) := by decide +kernel
theorem dX7_findField_69 : decode cX7_findField 69 = .ok (.getfield 62, 3) := by decide +kernel
theorem dX7_findField_72 : decode cX7_findField 72 = .ok (.iload 4, 2) := by decide +kernel
theorem dX7_findField_74 : decode cX7_findField 74 = .ok (.iconst 1, 1) := by decide +kernel
theorem dX7_findField_75 : decode cX7_findField 75 = .ok (.bastore, 1) := by decide +kernel
theorem dX7_findField_76 : decode cX7_findField 76 = .ok (.aload_n 0, 1) := by decide +kernel
theorem dX7_findField_77 : decode cX7_findField 77 = .ok (.iload 4, 2) := by decide +kernel
theorem dX7_findField_79 : decode cX7_findField 79 = .ok (.iload_n 2, 1) := by decide +kernel
theorem dX7_findField_80 : decode cX7_findField 80 = .ok (.invokevirtual 151, 3) := by decide +kernel
theorem dX7_findField_83 : decode cX7_findField 83 = .ok (.istore 5, 2) := by decide +kernel
theorem dX7_findField_85 : decode cX7_findField 85 = .ok (.iload 5, 2) := by decide +kernel
theorem dX7_findField_87 : decode cX7_findField 87 = .ok (.ifCond .lt 6, 3) := by decide +kernel
theorem dX7_findField_90 : decode cX7_findField 90 = .ok (.iload 5, 2) := by decide +kernel
theorem dX7_findField_92 : decode cX7_findField 92 = .ok (.ireturn, 1) := by decide +kernel
theorem dX7_findField_93 : decode cX7_findField 93 = .ok (.aload_n 0, 1) := by decide +kernel
theorem dX7_findField_94 : decode cX7_findField 94 = .ok (.getfield 59, 3) := by decide +kernel
theorem dX7_findField_97 : decode cX7_findField 97 = .ok (.iload_n 3, 1) := by decide +kernel
theorem dX7_findField_98 : decode cX7_findField 98 = .ok (.aload_n 0, 1) := by decide +kernel
theorem dX7_findField_99 : decode cX7_findField 99 = .ok (.getfield 16, 3) := by decide +kernel
theorem dX7_findField_102 : decode cX7_findField 102 = .ok (.iload 4, 2) := by decide +kernel
theorem dX7_findField_104 : decode cX7_findField 104 = .ok (.iaload, 1) := by decide +kernel
theorem dX7_findField_105 : decode cX7_findField 105 = .ok (.iastore, 1) := by decide +kernel
theorem dX7_findField_106 : decode cX7_findField 106 = .ok (.iinc 3 1, 3) := by decide +kernel
theorem dX7_findField_109 : decode cX7_findField 109 = .ok (.aload_n 0, 1) := by decide +kernel
theorem dX7_findField_110 : decode cX7_findField 110 = .ok (.getfield 20, 3) := by decide +kernel
theorem dX7_findField_113 : decode cX7_findField 113 = .ok (.iload 4, 2) := by decide +kernel
theorem dX7_findField_115 : decode cX7_findField 115 = .ok (.iaload, 1) := by decide +kernel
theorem dX7_findField_116 : decode cX7_findField 116 = .ok (.iconst 1, 1) := by decide +kernel
theorem dX7_findField_117 : decode cX7_findField 117 = .ok (.isub, 1) := by decide +kernel
theorem dX7_findField_118 : decode cX7_findField 118 = .ok (.istore 6, 2) := by decide +kernel
theorem dX7_findField_120 : decode cX7_findField 120 = .ok (.iload 6, 2) := by decide +kernel
theorem dX7_findField_122 : decode cX7_findField 122 = .ok (.ifCond .lt 30, 3) := by decide +kernel
theorem dX7_findField_125 : decode cX7_findField 125 = .ok (.aload_n 0, 1) := by decide +kernel
theorem dX7_findField_126 : decode cX7_findField 126 = .ok (.getfield 59, 3) := by decide +kernel
theorem dX7_findField_129 : decode cX7_findField 129 = .ok (.iload_n 3, 1) := by decide +kernel
theorem dX7_findField_130 : decode cX7_findField 130 = .ok (.aload_n 0, 1) := by decide +kernel
theorem dX7_findField_131 : decode cX7_findField 131 = .ok (.getfield 23, 3) := by decide +kernel
theorem dX7_findField_134 : decode cX7_findField 134 = .ok (.iconst 4, 1) := by decide +kernel
theorem dX7_findField_135 : decode cX7_findField 135 = .ok (.iload 4, 2) := by decide +kernel
theorem dX7_findField_137 : decode cX7_findField 137 = .ok (.imul, 1) := by decide +kernel
theorem dX7_findField_138 : decode cX7_findField 138 = .ok (.iload 6, 2) := by decide +kernel
theorem dX7_findField_140 : decode cX7_findField 140 = .ok (.iadd, 1) := by decide +kernel
theorem dX7_findField_141 : decode cX7_findField 141 = .ok (.iaload, 1) := by decide +kernel
theorem dX7_findField_142 : decode cX7_findField 142 = .ok (.iastore, 1) := by decide +kernel
theorem dX7_findField_143 : decode cX7_findField 143 = .ok (.iinc 3 1, 3) := by decide +kernel
theorem dX7_findField_146 : decode cX7_findField 146 = .ok (.iinc 6 (-1), 3) := by decide +kernel
theorem dX7_findField_149 : decode cX7_findField 149 = .ok (.goto (-29), 3) := by decide +kernel
theorem dX7_findField_152 : decode cX7_findField 152 = .ok (.goto (-117), 3) := by decide +kernel
theorem dX7_findField_155 : decode cX7_findField 155 = .ok (.bipush (-6), 2) := by decide +kernel
theorem dX7_findField_157 : decode cX7_findField 157 = .ok (.ireturn, 1) := by decide +kernel
theorem dX7_findMethod_0 : decode cX7_findMethod 0 = .ok (.iload_n 1, 1) := by decide +kernel
theorem dX7_findMethod_1 : decode cX7_findMethod 1 = .ok (.istore_n 3, 1) := by decide +kernel
theorem dX7_findMethod_2 : decode cX7_findMethod 2 = .ok (.iload_n 3, 1) := by decide +kernel
theorem dX7_findMethod_3 : decode cX7_findMethod 3 = .ok (.ifCond .lt 35, 3) := by decide +kernel
theorem dX7_findMethod_6 : decode cX7_findMethod 6 = .ok (.aload_n 0, 1) := by decide +kernel
theorem dX7_findMethod_7 : decode cX7_findMethod 7 = .ok (.iload_n 3, 1) := by decide +kernel
theorem dX7_findMethod_8 : decode cX7_findMethod 8 = .ok (.iload_n 2, 1) := by decide +kernel
theorem dX7_findMethod_9 : decode cX7_findMethod 9 = .ok (.invokevirtual 155, 3) := by decide +kernel
theorem dX7_findMethod_12 : decode cX7_findMethod 12 = .ok (.istore 4, 2) := by decide +kernel
theorem dX7_findMethod_14 : decode cX7_findMethod 14 = .ok (.iload 4, 2) := by decide +kernel
theorem dX7_findMethod_16 : decode cX7_findMethod 16 = .ok (.ifCond .lt 12, 3) := by decide +kernel
theorem dX7_findMethod_19 : decode cX7_findMethod 19 = .ok (.iconst 5, 1) := by decide +kernel
theorem dX7_findMethod_20 : decode cX7_findMethod 20 = .ok (.iload_n 3, 1) := by decide +kernel
theorem dX7_findMethod_21 : decode cX7_findMethod 21 = .ok (.imul, 1) := by decide +kernel
theorem dX7_findMethod_22 : decode cX7_findMethod 22 = .ok (.iconst 1, 1) := by decide +kernel
theorem dX7_findMethod_23 : decode cX7_findMethod 23 = .ok (.iadd, 1) := by decide +kernel
theorem dX7_findMethod_24 : decode cX7_findMethod 24 = .ok (.iload 4, 2) := by decide +kernel
theorem dX7_findMethod_26 : decode cX7_findMethod 26 = .ok (.iadd, 1) := by decide +kernel
theorem dX7_findMethod_27 : decode cX7_findMethod 27 = .ok (.ireturn, 1) := by decide +kernel
theorem dX7_findMethod_28 : decode cX7_findMethod 28 = .ok (.aload_n 0, 1) := by decide +kernel
theorem dX7_findMethod_29 : decode cX7_findMethod 29 = .ok (.getfield 16, 3) := by decide +kernel
theorem dX7_findMethod_32 : decode cX7_findMethod 32 = .ok (.iload_n 3, 1) := by decide +kernel
theorem dX7_findMethod_33 : decode cX7_findMethod 33 = .ok (.iaload, 1) := by decide +kernel
theorem dX7_findMethod_34 : decode cX7_findMethod 34 = .ok (.istore_n 3, 1) := by decide +kernel
theorem dX7_findMethod_35 : decode cX7_findMethod 35 = .ok (.goto (-33), 3) := by decide +kernel
theorem dX7_findMethod_38 : decode cX7_findMethod 38 = .ok (.bipush (-6), 2) := by decide +kernel
theorem dX7_findMethod_40 : decode cX7_findMethod 40 = .ok (.ireturn, 1) := by decide +kernel
theorem dX7_found_0 : decode cX7_found 0 = .ok (.aload_n 0, 1) := by decide +kernel
theorem dX7_found_1 : decode cX7_found 1 = .ok (.iload_n 1, 1) := by decide +kernel
theorem dX7_found_2 : decode cX7_found 2 = .ok (.invokevirtual 136, 3) := by decide +kernel
theorem dX7_found_5 : decode cX7_found 5 = .ok (.ifCond .ne 5, 3) := by decide +kernel
theorem dX7_found_8 : decode cX7_found 8 = .ok (.iconst (-1), 1) := by decide +kernel
theorem dX7_found_9 : decode cX7_found 9 = .ok (.ireturn, 1) := by decide +kernel
theorem dX7_found_10 : decode cX7_found 10 = .ok (.iload_n 2, 1) := by decide +kernel
theorem dX7_found_11 : decode cX7_found 11 = .ok (.iconst 0, 1) := by decide +kernel
theorem dX7_found_12 : decode cX7_found 12 = .ok (.bipush 9, 2) := by decide +kernel
theorem dX7_found_14 : decode cX7_found 14 = .ok (.invokestatic 132, 3) := by decide +kernel
theorem dX7_found_17 : decode cX7_found 17 = .ok (.ifCond .ne 6, 3) := by decide +kernel
theorem dX7_found_20 : decode cX7_found 20 = .ok (.bipush (-2), 2) := by decide +kernel
theorem dX7_found_22 : decode cX7_found 22 = .ok (.ireturn, 1) := by decide +kernel
theorem dX7_found_23 : decode cX7_found 23 = .ok (.iload_n 3, 1) := by decide +kernel
theorem dX7_found_24 : decode cX7_found 24 = .ok (.ifCond .eq 12, 3) := by decide +kernel
theorem dX7_found_27 : decode cX7_found 27 = .ok (.aload_n 0, 1) := by decide +kernel
theorem dX7_found_28 : decode cX7_found 28 = .ok (.iload_n 1, 1) := by decide +kernel
theorem dX7_found_29 : decode cX7_found 29 = .ok (.iload_n 2, 1) := by decide +kernel
theorem dX7_found_30 : decode cX7_found 30 = .ok (.invokevirtual 158, 3) := by decide +kernel
theorem dX7_found_33 : decode cX7_found 33 = .ok (.goto 9, 3) := by decide +kernel
theorem dX7_found_36 : decode cX7_found 36 = .ok (.aload_n 0, 1) := by decide +kernel
theorem dX7_found_37 : decode cX7_found 37 = .ok (.iload_n 1, 1) := by decide +kernel
theorem dX7_found_38 : decode cX7_found 38 = .ok (.iload_n 2, 1) := by decide +kernel
theorem dX7_found_39 : decode cX7_found 39 = .ok (.invokevirtual 161, 3) := by decide +kernel
theorem dX7_found_42 : decode cX7_found 42 = .ok (.istore 4, 2) := by decide +kernel
theorem dX7_found_44 : decode cX7_found 44 = .ok (.iload 4, 2) := by decide +kernel
theorem dX7_found_46 : decode cX7_found 46 = .ok (.ifCond .ge 8, 3) := by decide +kernel
theorem dX7_found_49 : decode cX7_found 49 = .ok (.bipush (-6), 2) := by decide +kernel
theorem dX7_found_51 : decode cX7_found 51 = .ok (.goto 19, 3) := by decide +kernel
theorem dX7_found_54 : decode cX7_found 54 = .ok (.iload_n 3, 1) := by decide +kernel
theorem dX7_found_55 : decode cX7_found 55 = .ok (.ifCond .eq 10, 3) := by decide +kernel
theorem dX7_found_58 : decode cX7_found 58 = .ok (.iload 4, 2) := by decide +kernel
theorem dX7_found_60 : decode cX7_found 60 = .ok (.iconst 5, 1) := by decide +kernel
theorem dX7_found_61 : decode cX7_found 61 = .ok (.idiv, 1) := by decide +kernel
theorem dX7_found_62 : decode cX7_found 62 = .ok (.goto 8, 3) := by decide +kernel
theorem dX7_found_65 : decode cX7_found 65 = .ok (.iload 4, 2) := by decide +kernel
theorem dX7_found_67 : decode cX7_found 67 = .ok (.bipush 6, 2) := by decide +kernel
theorem dX7_found_69 : decode cX7_found 69 = .ok (.idiv, 1) := by decide +kernel
theorem dX7_found_70 : decode cX7_found 70 = .ok (.ireturn, 1) := by decide +kernel
theorem dX7_listFirst_0 : decode cX7_listFirst 0 = .ok (.aload_n 0, 1) := by decide +kernel
theorem dX7_listFirst_1 : decode cX7_listFirst 1 = .ok (.iconst 0, 1) := by decide +kernel
theorem dX7_listFirst_2 : decode cX7_listFirst 2 = .ok (.putfield 164, 3) := by decide +kernel
theorem dX7_listFirst_5 : decode cX7_listFirst 5 = .ok (.aload_n 0, 1) := by decide +kernel
theorem dX7_listFirst_6 : decode cX7_listFirst 6 = .ok (.getfield 7, 3) := by decide +kernel
theorem dX7_listFirst_9 : decode cX7_listFirst 9 = .ok (.iload_n 1, 1) := by decide +kernel
theorem dX7_listFirst_10 : decode cX7_listFirst 10 = .ok (.baload, 1) := by decide +kernel
theorem dX7_listFirst_11 : decode cX7_listFirst 11 = .ok (.ifCond .eq 4, 3) := by decide +kernel
theorem dX7_listFirst_14 : decode cX7_listFirst 14 = .ok (.return_, 1) := by decide +kernel
theorem dX7_listFirst_15 : decode cX7_listFirst 15 = .ok (.aload_n 0, 1) := by decide +kernel
theorem dX7_listFirst_16 : decode cX7_listFirst 16 = .ok (.getfield 16, 3) := by decide +kernel
theorem dX7_listFirst_19 : decode cX7_listFirst 19 = .ok (.iload_n 1, 1) := by decide +kernel
theorem dX7_listFirst_20 : decode cX7_listFirst 20 = .ok (.iaload, 1) := by decide +kernel
theorem dX7_listFirst_21 : decode cX7_listFirst 21 = .ok (.ifCond .lt 20, 3) := by decide +kernel
theorem dX7_listFirst_24 : decode cX7_listFirst 24 = .ok (.aload_n 0, 1) := by decide +kernel
theorem dX7_listFirst_25 : decode cX7_listFirst 25 = .ok (.getfield 65, 3) := by decide +kernel
theorem dX7_listFirst_28 : decode cX7_listFirst 28 = .ok (.iconst 0, 1) := by decide +kernel
theorem dX7_listFirst_29 : decode cX7_listFirst 29 = .ok (.aload_n 0, 1) := by decide +kernel
theorem dX7_listFirst_30 : decode cX7_listFirst 30 = .ok (.getfield 16, 3) := by decide +kernel
theorem dX7_listFirst_33 : decode cX7_listFirst 33 = .ok (.iload_n 1, 1) := by decide +kernel
theorem dX7_listFirst_34 : decode cX7_listFirst 34 = .ok (.iaload, 1) := by decide +kernel
theorem dX7_listFirst_35 : decode cX7_listFirst 35 = .ok (.iastore, 1) := by decide +kernel
theorem dX7_listFirst_36 : decode cX7_listFirst 36 = .ok (.aload_n 0, 1) := by decide +kernel
theorem dX7_listFirst_37 : decode cX7_listFirst 37 = .ok (.iconst 1, 1) := by decide +kernel
theorem dX7_listFirst_38 : decode cX7_listFirst 38 = .ok (.putfield 164, 3) := by decide +kernel
theorem dX7_listFirst_41 : decode cX7_listFirst 41 = .ok (.iconst 0, 1) := by decide +kernel
theorem dX7_listFirst_42 : decode cX7_listFirst 42 = .ok (.istore_n 2, 1) := by decide +kernel
theorem dX7_listFirst_43 : decode cX7_listFirst 43 = .ok (.iload_n 2, 1) := by decide +kernel
theorem dX7_listFirst_44 : decode cX7_listFirst 44 = .ok (.aload_n 0, 1) := by decide +kernel
theorem dX7_listFirst_45 : decode cX7_listFirst 45 = .ok (.getfield 128, 3) := by decide +kernel
theorem dX7_listFirst_48 : decode cX7_listFirst 48 = .ok (.if_icmp .ge 16, 3) := by decide +kernel
theorem dX7_listFirst_51 : decode cX7_listFirst 51 = .ok (.aload_n 0, 1) := by decide +kernel
theorem dX7_listFirst_52 : decode cX7_listFirst 52 = .ok (.getfield 68, 3) := by decide +kernel
theorem dX7_listFirst_55 : decode cX7_listFirst 55 = .ok (.iload_n 2, 1) := by decide +kernel
theorem dX7_listFirst_56 : decode cX7_listFirst 56 = .ok (.iconst 0, 1) := by decide +kernel
theorem dX7_listFirst_57 : decode cX7_listFirst 57 = .ok (.bastore, 1) := by decide +kernel
theorem dX7_listFirst_58 : decode cX7_listFirst 58 = .ok (.iinc 2 1, 3) := by decide +kernel
theorem dX7_listFirst_61 : decode cX7_listFirst 61 = .ok (.goto (-18), 3) := by decide +kernel
theorem dX7_listFirst_64 : decode cX7_listFirst 64 = .ok (.iconst 0, 1) := by decide +kernel
theorem dX7_listFirst_65 : decode cX7_listFirst 65 = .ok (.istore_n 2, 1) := by decide +kernel
theorem dX7_listFirst_66 : decode cX7_listFirst 66 = .ok (.aload_n 0, 1) := by decide +kernel
theorem dX7_listFirst_67 : decode cX7_listFirst 67 = .ok (.getfield 20, 3) := by decide +kernel
theorem dX7_listFirst_70 : decode cX7_listFirst 70 = .ok (.iload_n 1, 1) := by decide +kernel
theorem dX7_listFirst_71 : decode cX7_listFirst 71 = .ok (.iaload, 1) := by decide +kernel
theorem dX7_listFirst_72 : decode cX7_listFirst 72 = .ok (.iconst 1, 1) := by decide +kernel
theorem dX7_listFirst_73 : decode cX7_listFirst 73 = .ok (.isub, 1) := by decide +kernel
theorem dX7_listFirst_74 : decode cX7_listFirst 74 = .ok (.istore_n 3, 1) := by decide +kernel
theorem dX7_listFirst_75 : decode cX7_listFirst 75 = .ok (.iload_n 3, 1) := by decide +kernel
theorem dX7_listFirst_76 : decode cX7_listFirst 76 = .ok (.ifCond .lt 35, 3) := by decide +kernel
theorem dX7_listFirst_79 : decode cX7_listFirst 79 = .ok (.aload_n 0, 1) := by decide +kernel
theorem dX7_listFirst_80 : decode cX7_listFirst 80 = .ok (.getfield 59, 3) := by decide +kernel
theorem dX7_listFirst_83 : decode cX7_listFirst 83 = .ok (.iload_n 2, 1) := by decide +kernel
theorem dX7_listFirst_84 : decode cX7_listFirst 84 = .ok (.aload_n 0, 1) := by decide +kernel
theorem dX7_listFirst_85 : decode cX7_listFirst 85 = .ok (.getfield 23, 3) := by decide +kernel
theorem dX7_listFirst_88 : decode cX7_listFirst 88 = .ok (.iconst 4, 1) := by decide +kernel
theorem dX7_listFirst_89 : decode cX7_listFirst 89 = .ok (.iload_n 1, 1) := by decide +kernel
theorem dX7_listFirst_90 : decode cX7_listFirst 90 = .ok (.imul, 1) := by decide +kernel
theorem dX7_listFirst_91 : decode cX7_listFirst 91 = .ok (.iload_n 3, 1) := by decide +kernel
theorem dX7_listFirst_92 : decode cX7_listFirst 92 = .ok (.iadd, 1) := by decide +kernel
theorem dX7_listFirst_93 : decode cX7_listFirst 93 = .ok (.iaload, 1) := by decide +kernel
theorem dX7_listFirst_94 : decode cX7_listFirst 94 = .ok (.iastore, 1) := by decide +kernel
theorem dX7_listFirst_95 : decode cX7_listFirst 95 = .ok (.aload_n 0, 1) := by decide +kernel
theorem dX7_listFirst_96 : decode cX7_listFirst 96 = .ok (.getfield 71, 3) := by decide +kernel
theorem dX7_listFirst_99 : decode cX7_listFirst 99 = .ok (.iload_n 2, 1) := by decide +kernel
theorem dX7_listFirst_100 : decode cX7_listFirst 100 = .ok (.iconst 0, 1) := by decide +kernel
theorem dX7_listFirst_101 : decode cX7_listFirst 101 = .ok (.bastore, 1) := by decide +kernel
theorem dX7_listFirst_102 : decode cX7_listFirst 102 = .ok (.iinc 2 1, 3) := by decide +kernel
theorem dX7_listFirst_105 : decode cX7_listFirst 105 = .ok (.iinc 3 (-1), 3) := by decide +kernel
theorem dX7_listFirst_108 : decode cX7_listFirst 108 = .ok (.goto (-33), 3) := by decide +kernel
theorem dX7_listFirst_111 : decode cX7_listFirst 111 = .ok (.iload_n 2, 1) := by decide +kernel
theorem dX7_listFirst_112 : decode cX7_listFirst 112 = .ok (.ifCond .le 134, 3) := by decide +kernel
theorem dX7_listFirst_115 : decode cX7_listFirst 115 = .ok (.iinc 2 (-1), 3) := by decide +kernel
theorem dX7_listFirst_118 : decode cX7_listFirst 118 = .ok (.aload_n 0, 1) := by decide +kernel
theorem dX7_listFirst_119 : decode cX7_listFirst 119 = .ok (.getfield 59, 3) := by decide +kernel
theorem dX7_listFirst_122 : decode cX7_listFirst 122 = .ok (.iload_n 2, 1) := by decide +kernel
theorem dX7_listFirst_123 : decode cX7_listFirst 123 = .ok (.iaload, 1) := by decide +kernel
theorem dX7_listFirst_124 : decode cX7_listFirst 124 = .ok (.istore_n 3, 1) := by decide +kernel
theorem dX7_listFirst_125 : decode cX7_listFirst 125 = .ok (.aload_n 0, 1) := by decide +kernel
theorem dX7_listFirst_126 : decode cX7_listFirst 126 = .ok (.getfield 71, 3) := by decide +kernel
theorem dX7_listFirst_129 : decode cX7_listFirst 129 = .ok (.iload_n 2, 1) := by decide +kernel
theorem dX7_listFirst_130 : decode cX7_listFirst 130 = .ok (.baload, 1) := by decide +kernel
theorem dX7_listFirst_131 : decode cX7_listFirst 131 = .ok (.ifCond .eq 35, 3) := by decide +kernel
theorem dX7_listFirst_134 : decode cX7_listFirst 134 = .ok (.aload_n 0, 1) := by decide +kernel
theorem dX7_listFirst_135 : decode cX7_listFirst 135 = .ok (.getfield 13, 3) := by decide +kernel
theorem dX7_listFirst_138 : decode cX7_listFirst 138 = .ok (.iload_n 3, 1) := by decide +kernel
theorem dX7_listFirst_139 : decode cX7_listFirst 139 = .ok (.baload, 1) := by decide +kernel
theorem dX7_listFirst_140 : decode cX7_listFirst 140 = .ok (.ifCond .eq (-29), 3) := by decide +kernel
theorem dX7_listFirst_143 : decode cX7_listFirst 143 = .ok (.aload_n 0, 1) := by decide +kernel
theorem dX7_listFirst_144 : decode cX7_listFirst 144 = .ok (.getfield 65, 3) := by decide +kernel
theorem dX7_listFirst_147 : decode cX7_listFirst 147 = .ok (.aload_n 0, 1) := by decide +kernel
theorem dX7_listFirst_148 : decode cX7_listFirst 148 = .ok (.getfield 164, 3) := by decide +kernel
theorem dX7_listFirst_151 : decode cX7_listFirst 151 = .ok (.iload_n 3, 1) := by decide +kernel
theorem dX7_listFirst_152 : decode cX7_listFirst 152 = .ok (.iastore, 1) := by decide +kernel
theorem dX7_listFirst_153 : decode cX7_listFirst 153 = .ok (.aload_n 0, 1) := by decide +kernel
theorem dX7_listFirst_154 : decode cX7_listFirst 154 = .ok (.dup, 1) := by decide +kernel
theorem dX7_listFirst_155 : decode cX7_listFirst 155 = .ok (.getfield 164, 3) := by decide +kernel
theorem dX7_listFirst_158 : decode cX7_listFirst 158 = .ok (.iconst 1, 1) := by decide +kernel
theorem dX7_listFirst_159 : decode cX7_listFirst 159 = .ok (.iadd, 1) := by decide +kernel
theorem dX7_listFirst_160 : decode cX7_listFirst 160 = .ok (.putfield 164, 3) := by decide +kernel
theorem dX7_listFirst_163 : decode cX7_listFirst 163 = .ok (.goto (-52), 3) := by decide +kernel
theorem dX7_listFirst_166 : decode cX7_listFirst 166 = .ok (.aload_n 0, 1) := by decide +kernel
theorem dX7_listFirst_167 : decode cX7_listFirst 167 = .ok (.getfield 68, 3) := by decide +kernel
theorem dX7_listFirst_170 : decode cX7_listFirst 170 = .ok (.iload_n 3, 1) := by decide +kernel
theorem dX7_listFirst_171 : decode cX7_listFirst 171 = .ok (.baload, 1) := by decide +kernel
theorem dX7_listFirst_172 : decode cX7_listFirst 172 = .ok (.ifCond .eq 6, 3) := by decide +kernel
theorem dX7_listFirst_175 : decode cX7_listFirst 175 = .ok (.goto (-64), 3) := by decide +kernel
theorem dX7_listFirst_178 : decode cX7_listFirst 178 = .ok (.aload_n 0, 1) := by decide +kernel
theorem dX7_listFirst_179 : decode cX7_listFirst 179 = .ok (.getfield 68, 3) := by decide +kernel
theorem dX7_listFirst_182 : decode cX7_listFirst 182 = .ok (.iload_n 3, 1) := by decide +kernel
theorem dX7_listFirst_183 : decode cX7_listFirst 183 = .ok (.iconst 1, 1) := by decide +kernel
theorem dX7_listFirst_184 : decode cX7_listFirst 184 = .ok (.bastore, 1) := by decide +kernel
theorem dX7_listFirst_185 : decode cX7_listFirst 185 = .ok (.aload_n 0, 1) := by decide +kernel
theorem dX7_listFirst_186 : decode cX7_listFirst 186 = .ok (.getfield 71, 3) := by decide +kernel
theorem dX7_listFirst_189 : decode cX7_listFirst 189 = .ok (.iload_n 2, 1) := by decide +kernel
theorem dX7_listFirst_190 : decode cX7_listFirst 190 = .ok (.iconst 1, 1) := by decide +kernel
theorem dX7_listFirst_191 : decode cX7_listFirst 191 = .ok (.bastore, 1) := by decide +kernel
theorem dX7_listFirst_192 : decode cX7_listFirst 192 = .ok (.iinc 2 1, 3) := by decide +kernel
theorem dX7_listFirst_195 : decode cX7_listFirst 195 = .ok (.aload_n 0, 1) := by decide +kernel
theorem dX7_listFirst_196 : decode cX7_listFirst 196 = .ok (.getfield 20, 3) := by decide +kernel
theorem dX7_listFirst_199 : decode cX7_listFirst 199 = .ok (.iload_n 3, 1) := by decide +kernel
theorem dX7_listFirst_200 : decode cX7_listFirst 200 = .ok (.iaload, 1) := by decide +kernel
theorem dX7_listFirst_201 : decode cX7_listFirst 201 = .ok (.iconst 1, 1) := by decide +kernel
theorem dX7_listFirst_202 : decode cX7_listFirst 202 = .ok (.isub, 1) := by decide +kernel
theorem dX7_listFirst_203 : decode cX7_listFirst 203 = .ok (.istore 4, 2) := by decide +kernel
theorem dX7_listFirst_205 : decode cX7_listFirst 205 = .ok (.iload 4, 2) := by decide +kernel
theorem dX7_listFirst_207 : decode cX7_listFirst 207 = .ok (.ifCond .lt 36, 3) := by decide +kernel
theorem dX7_listFirst_210 : decode cX7_listFirst 210 = .ok (.aload_n 0, 1) := by decide +kernel
theorem dX7_listFirst_211 : decode cX7_listFirst 211 = .ok (.getfield 59, 3) := by decide +kernel
theorem dX7_listFirst_214 : decode cX7_listFirst 214 = .ok (.iload_n 2, 1) := by decide +kernel
theorem dX7_listFirst_215 : decode cX7_listFirst 215 = .ok (.aload_n 0, 1) := by decide +kernel
theorem dX7_listFirst_216 : decode cX7_listFirst 216 = .ok (.getfield 23, 3) := by decide +kernel
theorem dX7_listFirst_219 : decode cX7_listFirst 219 = .ok (.iconst 4, 1) := by decide +kernel
theorem dX7_listFirst_220 : decode cX7_listFirst 220 = .ok (.iload_n 3, 1) := by decide +kernel
theorem dX7_listFirst_221 : decode cX7_listFirst 221 = .ok (.imul, 1) := by decide +kernel
theorem dX7_listFirst_222 : decode cX7_listFirst 222 = .ok (.iload 4, 2) := by decide +kernel
theorem dX7_listFirst_224 : decode cX7_listFirst 224 = .ok (.iadd, 1) := by decide +kernel
theorem dX7_listFirst_225 : decode cX7_listFirst 225 = .ok (.iaload, 1) := by decide +kernel
theorem dX7_listFirst_226 : decode cX7_listFirst 226 = .ok (.iastore, 1) := by decide +kernel
theorem dX7_listFirst_227 : decode cX7_listFirst 227 = .ok (.aload_n 0, 1) := by decide +kernel
theorem dX7_listFirst_228 : decode cX7_listFirst 228 = .ok (.getfield 71, 3) := by decide +kernel
theorem dX7_listFirst_231 : decode cX7_listFirst 231 = .ok (.iload_n 2, 1) := by decide +kernel
theorem dX7_listFirst_232 : decode cX7_listFirst 232 = .ok (.iconst 0, 1) := by decide +kernel
theorem dX7_listFirst_233 : decode cX7_listFirst 233 = .ok (.bastore, 1) := by decide +kernel
theorem dX7_listFirst_234 : decode cX7_listFirst 234 = .ok (.iinc 2 1, 3) := by decide +kernel
theorem dX7_listFirst_237 : decode cX7_listFirst 237 = .ok (.iinc 4 (-1), 3) := by decide +kernel
theorem dX7_listFirst_240 : decode cX7_listFirst 240 = .ok (.goto (-35), 3) := by decide +kernel
theorem dX7_listFirst_243 : decode cX7_listFirst 243 = .ok (.goto (-132), 3) := by decide +kernel
theorem dX7_listFirst_246 : decode cX7_listFirst 246 = .ok (.return_, 1) := by decide +kernel
theorem dX7_started_0 : decode cX7_started 0 = .ok (.aload_n 0, 1) := by decide +kernel
theorem dX7_started_1 : decode cX7_started 1 = .ok (.iload_n 1, 1) := by decide +kernel
theorem dX7_started_2 : decode cX7_started 2 = .ok (.iload_n 2, 1) := by decide +kernel
theorem dX7_started_3 : decode cX7_started 3 = .ok (.iload_n 3, 1) := by decide +kernel
theorem dX7_started_4 : decode cX7_started 4 = .ok (.invokevirtual 167, 3) := by decide +kernel
theorem dX7_started_7 : decode cX7_started 7 = .ok (.ifCond .eq 6, 3) := by decide +kernel
theorem dX7_started_10 : decode cX7_started 10 = .ok (.bipush (-6), 2) := by decide +kernel
theorem dX7_started_12 : decode cX7_started 12 = .ok (.ireturn, 1) := by decide +kernel
theorem dX7_started_13 : decode cX7_started 13 = .ok (.iload_n 1, 1) := by decide +kernel
theorem dX7_started_14 : decode cX7_started 14 = .ok (.iconst 1, 1) := by decide +kernel
theorem dX7_started_15 : decode cX7_started 15 = .ok (.if_icmp .eq 8, 3) := by decide +kernel
theorem dX7_started_18 : decode cX7_started 18 = .ok (.iload_n 1, 1) := by decide +kernel
theorem dX7_started_19 : decode cX7_started 19 = .ok (.iconst 2, 1) := by decide +kernel
theorem dX7_started_20 : decode cX7_started 20 = .ok (.if_icmp .ne 32, 3) := by decide +kernel
theorem dX7_started_23 : decode cX7_started 23 = .ok (.aload_n 0, 1) := by decide +kernel
theorem dX7_started_24 : decode cX7_started 24 = .ok (.iload_n 2, 1) := by decide +kernel
theorem dX7_started_25 : decode cX7_started 25 = .ok (.iload_n 3, 1) := by decide +kernel
theorem dX7_started_26 : decode cX7_started 26 = .ok (.invokevirtual 161, 3) := by decide +kernel
theorem dX7_started_29 : decode cX7_started 29 = .ok (.istore 4, 2) := by decide +kernel
theorem dX7_started_31 : decode cX7_started 31 = .ok (.aload_n 0, 1) := by decide +kernel
theorem dX7_started_32 : decode cX7_started 32 = .ok (.getfield 32, 3) := by decide +kernel
theorem dX7_started_35 : decode cX7_started 35 = .ok (.iload 4, 2) := by decide +kernel
theorem dX7_started_37 : decode cX7_started 37 = .ok (.baload, 1) := by decide +kernel
theorem dX7_started_38 : decode cX7_started 38 = .ok (.ifCond .eq 8, 3) := by decide +kernel
theorem dX7_started_41 : decode cX7_started 41 = .ok (.bipush (-6), 2) := by decide +kernel
theorem dX7_started_43 : decode cX7_started 43 = .ok (.goto 8, 3) := by decide +kernel
theorem dX7_started_46 : decode cX7_started 46 = .ok (.iload 4, 2) := by decide +kernel
theorem dX7_started_48 : decode cX7_started 48 = .ok (.bipush 6, 2) := by decide +kernel
theorem dX7_started_50 : decode cX7_started 50 = .ok (.idiv, 1) := by decide +kernel
theorem dX7_started_51 : decode cX7_started 51 = .ok (.ireturn, 1) := by decide +kernel
theorem dX7_started_52 : decode cX7_started 52 = .ok (.iload_n 1, 1) := by decide +kernel
theorem dX7_started_53 : decode cX7_started 53 = .ok (.iconst 3, 1) := by decide +kernel
theorem dX7_started_54 : decode cX7_started 54 = .ok (.if_icmp .ne 14, 3) := by decide +kernel
theorem dX7_started_57 : decode cX7_started 57 = .ok (.aload_n 0, 1) := by decide +kernel
theorem dX7_started_58 : decode cX7_started 58 = .ok (.iload_n 2, 1) := by decide +kernel
theorem dX7_started_59 : decode cX7_started 59 = .ok (.iload_n 3, 1) := by decide +kernel
theorem dX7_started_60 : decode cX7_started 60 = .ok (.invokevirtual 158, 3) := by decide +kernel
theorem dX7_started_63 : decode cX7_started 63 = .ok (.iconst 5, 1) := by decide +kernel
theorem dX7_started_64 : decode cX7_started 64 = .ok (.idiv, 1) := by decide +kernel
theorem dX7_started_65 : decode cX7_started 65 = .ok (.goto 19, 3) := by decide +kernel
theorem dX7_started_68 : decode cX7_started 68 = .ok (.iload_n 1, 1) := by decide +kernel
theorem dX7_started_69 : decode cX7_started 69 = .ok (.iconst 4, 1) := by decide +kernel
theorem dX7_started_70 : decode cX7_started 70 = .ok (.if_icmp .eq 8, 3) := by decide +kernel
theorem dX7_started_73 : decode cX7_started 73 = .ok (.iload_n 1, 1) := by decide +kernel
theorem dX7_started_74 : decode cX7_started 74 = .ok (.iconst 5, 1) := by decide +kernel
theorem dX7_started_75 : decode cX7_started 75 = .ok (.if_icmp .ne 7, 3) := by decide +kernel
theorem dX7_started_78 : decode cX7_started 78 = .ok (.iload_n 2, 1) := by decide +kernel
theorem dX7_started_79 : decode cX7_started 79 = .ok (.goto 5, 3) := by decide +kernel
theorem dX7_started_82 : decode cX7_started 82 = .ok (.bipush (-6), 2) := by decide +kernel
theorem dX7_started_84 : decode cX7_started 84 = .ok (.ireturn, 1) := by decide +kernel
theorem dX7_isRuled_0 : decode cX7_isRuled 0 = .ok (.iload_n 1, 1) := by decide +kernel
theorem dX7_isRuled_1 : decode cX7_isRuled 1 = .ok (.tableswitch 114 1 4 #[31, 46, 75, 90], 31) := by decide +kernel
theorem dX7_isRuled_32 : decode cX7_isRuled 32 = .ok (.aload_n 0, 1) := by decide +kernel
theorem dX7_isRuled_33 : decode cX7_isRuled 33 = .ok (.iload_n 2, 1) := by decide +kernel
theorem dX7_isRuled_34 : decode cX7_isRuled 34 = .ok (.iload_n 3, 1) := by decide +kernel
theorem dX7_isRuled_35 : decode cX7_isRuled 35 = .ok (.invokevirtual 161, 3) := by decide +kernel
theorem dX7_isRuled_38 : decode cX7_isRuled 38 = .ok (.ifCond .ge 7, 3) := by decide +kernel
theorem dX7_isRuled_41 : decode cX7_isRuled 41 = .ok (.iconst 1, 1) := by decide +kernel
theorem dX7_isRuled_42 : decode cX7_isRuled 42 = .ok (.goto 4, 3) := by decide +kernel
theorem dX7_isRuled_45 : decode cX7_isRuled 45 = .ok (.iconst 0, 1) := by decide +kernel
theorem dX7_isRuled_46 : decode cX7_isRuled 46 = .ok (.ireturn, 1) := by decide +kernel
theorem dX7_isRuled_47 : decode cX7_isRuled 47 = .ok (.aload_n 0, 1) := by decide +kernel
theorem dX7_isRuled_48 : decode cX7_isRuled 48 = .ok (.iload_n 2, 1) := by decide +kernel
theorem dX7_isRuled_49 : decode cX7_isRuled 49 = .ok (.iload_n 3, 1) := by decide +kernel
theorem dX7_isRuled_50 : decode cX7_isRuled 50 = .ok (.invokevirtual 161, 3) := by decide +kernel
theorem dX7_isRuled_53 : decode cX7_isRuled 53 = .ok (.istore 4, 2) := by decide +kernel
theorem dX7_isRuled_55 : decode cX7_isRuled 55 = .ok (.iload 4, 2) := by decide +kernel
theorem dX7_isRuled_57 : decode cX7_isRuled 57 = .ok (.ifCond .lt 13, 3) := by decide +kernel
theorem dX7_isRuled_60 : decode cX7_isRuled 60 = .ok (.aload_n 0, 1) := by decide +kernel
theorem dX7_isRuled_61 : decode cX7_isRuled 61 = .ok (.getfield 32, 3) := by decide +kernel
theorem dX7_isRuled_64 : decode cX7_isRuled 64 = .ok (.iload 4, 2) := by decide +kernel
theorem dX7_isRuled_66 : decode cX7_isRuled 66 = .ok (.baload, 1) := by decide +kernel
theorem dX7_isRuled_67 : decode cX7_isRuled 67 = .ok (.ifCond .eq 7, 3) := by decide +kernel
theorem dX7_isRuled_70 : decode cX7_isRuled 70 = .ok (.iconst 1, 1) := by decide +kernel
theorem dX7_isRuled_71 : decode cX7_isRuled 71 = .ok (.goto 4, 3) := by decide +kernel
theorem dX7_isRuled_74 : decode cX7_isRuled 74 = .ok (.iconst 0, 1) := by decide +kernel
theorem dX7_isRuled_75 : decode cX7_isRuled 75 = .ok (.ireturn, 1) := by decide +kernel
theorem dX7_isRuled_76 : decode cX7_isRuled 76 = .ok (.aload_n 0, 1) := by decide +kernel
theorem dX7_isRuled_77 : decode cX7_isRuled 77 = .ok (.iload_n 2, 1) := by decide +kernel
theorem dX7_isRuled_78 : decode cX7_isRuled 78 = .ok (.iload_n 3, 1) := by decide +kernel
theorem dX7_isRuled_79 : decode cX7_isRuled 79 = .ok (.invokevirtual 158, 3) := by decide +kernel
theorem dX7_isRuled_82 : decode cX7_isRuled 82 = .ok (.ifCond .ge 7, 3) := by decide +kernel
theorem dX7_isRuled_85 : decode cX7_isRuled 85 = .ok (.iconst 1, 1) := by decide +kernel
theorem dX7_isRuled_86 : decode cX7_isRuled 86 = .ok (.goto 4, 3) := by decide +kernel
theorem dX7_isRuled_89 : decode cX7_isRuled 89 = .ok (.iconst 0, 1) := by decide +kernel
theorem dX7_isRuled_90 : decode cX7_isRuled 90 = .ok (.ireturn, 1) := by decide +kernel
theorem dX7_isRuled_91 : decode cX7_isRuled 91 = .ok (.aload_n 0, 1) := by decide +kernel
theorem dX7_isRuled_92 : decode cX7_isRuled 92 = .ok (.getfield 7, 3) := by decide +kernel
theorem dX7_isRuled_95 : decode cX7_isRuled 95 = .ok (.iload_n 2, 1) := by decide +kernel
theorem dX7_isRuled_96 : decode cX7_isRuled 96 = .ok (.baload, 1) := by decide +kernel
theorem dX7_isRuled_97 : decode cX7_isRuled 97 = .ok (.ifCond .ne 12, 3) := by decide +kernel
theorem dX7_isRuled_100 : decode cX7_isRuled 100 = .ok (.aload_n 0, 1) := by decide +kernel
theorem dX7_isRuled_101 : decode cX7_isRuled 101 = .ok (.getfield 13, 3) := by decide +kernel
theorem dX7_isRuled_104 : decode cX7_isRuled 104 = .ok (.iload_n 2, 1) := by decide +kernel
theorem dX7_isRuled_105 : decode cX7_isRuled 105 = .ok (.baload, 1) := by decide +kernel
theorem dX7_isRuled_106 : decode cX7_isRuled 106 = .ok (.ifCond .eq 7, 3) := by decide +kernel
theorem dX7_isRuled_109 : decode cX7_isRuled 109 = .ok (.iconst 1, 1) := by decide +kernel
theorem dX7_isRuled_110 : decode cX7_isRuled 110 = .ok (.goto 4, 3) := by decide +kernel
theorem dX7_isRuled_113 : decode cX7_isRuled 113 = .ok (.iconst 0, 1) := by decide +kernel
theorem dX7_isRuled_114 : decode cX7_isRuled 114 = .ok (.ireturn, 1) := by decide +kernel
theorem dX7_isRuled_115 : decode cX7_isRuled 115 = .ok (.iconst 0, 1) := by decide +kernel
theorem dX7_isRuled_116 : decode cX7_isRuled 116 = .ok (.ireturn, 1) := by decide +kernel
theorem dX7_addAsked_0 : decode cX7_addAsked 0 = .ok (.iload_n 1, 1) := by decide +kernel
theorem dX7_addAsked_1 : decode cX7_addAsked 1 = .ok (.ifCond .lt 8, 3) := by decide +kernel
theorem dX7_addAsked_4 : decode cX7_addAsked 4 = .ok (.iload_n 1, 1) := by decide +kernel
theorem dX7_addAsked_5 : decode cX7_addAsked 5 = .ok (.iload_n 2, 1) := by decide +kernel
theorem dX7_addAsked_6 : decode cX7_addAsked 6 = .ok (.if_icmp .ne 7, 3) := by decide +kernel
theorem dX7_addAsked_9 : decode cX7_addAsked 9 = .ok (.iconst 1, 1) := by decide +kernel
theorem dX7_addAsked_10 : decode cX7_addAsked 10 = .ok (.goto 4, 3) := by decide +kernel
theorem dX7_addAsked_13 : decode cX7_addAsked 13 = .ok (.iconst 0, 1) := by decide +kernel
theorem dX7_addAsked_14 : decode cX7_addAsked 14 = .ok (.istore_n 3, 1) := by decide +kernel
theorem dX7_addAsked_15 : decode cX7_addAsked 15 = .ok (.iconst 0, 1) := by decide +kernel
theorem dX7_addAsked_16 : decode cX7_addAsked 16 = .ok (.istore 4, 2) := by decide +kernel
theorem dX7_addAsked_18 : decode cX7_addAsked 18 = .ok (.iload 4, 2) := by decide +kernel
theorem dX7_addAsked_20 : decode cX7_addAsked 20 = .ok (.aload_n 0, 1) := by decide +kernel
theorem dX7_addAsked_21 : decode cX7_addAsked 21 = .ok (.getfield 170, 3) := by decide +kernel
theorem dX7_addAsked_24 : decode cX7_addAsked 24 = .ok (.if_icmp .ge 30, 3) := by decide +kernel
theorem dX7_addAsked_27 : decode cX7_addAsked 27 = .ok (.iload_n 3, 1) := by decide +kernel
theorem dX7_addAsked_28 : decode cX7_addAsked 28 = .ok (.ifCond .ne 14, 3) := by decide +kernel
theorem dX7_addAsked_31 : decode cX7_addAsked 31 = .ok (.aload_n 0, 1) := by decide +kernel
theorem dX7_addAsked_32 : decode cX7_addAsked 32 = .ok (.getfield 74, 3) := by decide +kernel
theorem dX7_addAsked_35 : decode cX7_addAsked 35 = .ok (.iload 4, 2) := by decide +kernel
theorem dX7_addAsked_37 : decode cX7_addAsked 37 = .ok (.iaload, 1) := by decide +kernel
theorem dX7_addAsked_38 : decode cX7_addAsked 38 = .ok (.iload_n 1, 1) := by decide +kernel
theorem dX7_addAsked_39 : decode cX7_addAsked 39 = .ok (.if_icmp .ne 7, 3) := by decide +kernel
theorem dX7_addAsked_42 : decode cX7_addAsked 42 = .ok (.iconst 1, 1) := by decide +kernel
theorem dX7_addAsked_43 : decode cX7_addAsked 43 = .ok (.goto 4, 3) := by decide +kernel
theorem dX7_addAsked_46 : decode cX7_addAsked 46 = .ok (.iconst 0, 1) := by decide +kernel
theorem dX7_addAsked_47 : decode cX7_addAsked 47 = .ok (.istore_n 3, 1) := by decide +kernel
theorem dX7_addAsked_48 : decode cX7_addAsked 48 = .ok (.iinc 4 1, 3) := by decide +kernel
theorem dX7_addAsked_51 : decode cX7_addAsked 51 = .ok (.goto (-33), 3) := by decide +kernel
theorem dX7_addAsked_54 : decode cX7_addAsked 54 = .ok (.iload_n 3, 1) := by decide +kernel
theorem dX7_addAsked_55 : decode cX7_addAsked 55 = .ok (.ifCond .ne 23, 3) := by decide +kernel
theorem dX7_addAsked_58 : decode cX7_addAsked 58 = .ok (.aload_n 0, 1) := by decide +kernel
theorem dX7_addAsked_59 : decode cX7_addAsked 59 = .ok (.getfield 74, 3) := by decide +kernel
theorem dX7_addAsked_62 : decode cX7_addAsked 62 = .ok (.aload_n 0, 1) := by decide +kernel
theorem dX7_addAsked_63 : decode cX7_addAsked 63 = .ok (.getfield 170, 3) := by decide +kernel
theorem dX7_addAsked_66 : decode cX7_addAsked 66 = .ok (.iload_n 1, 1) := by decide +kernel
theorem dX7_addAsked_67 : decode cX7_addAsked 67 = .ok (.iastore, 1) := by decide +kernel
theorem dX7_addAsked_68 : decode cX7_addAsked 68 = .ok (.aload_n 0, 1) := by decide +kernel
theorem dX7_addAsked_69 : decode cX7_addAsked 69 = .ok (.dup, 1) := by decide +kernel
theorem dX7_addAsked_70 : decode cX7_addAsked 70 = .ok (.getfield 170, 3) := by decide +kernel
theorem dX7_addAsked_73 : decode cX7_addAsked 73 = .ok (.iconst 1, 1) := by decide +kernel
theorem dX7_addAsked_74 : decode cX7_addAsked 74 = .ok (.iadd, 1) := by decide +kernel
theorem dX7_addAsked_75 : decode cX7_addAsked 75 = .ok (.putfield 170, 3) := by decide +kernel
theorem dX7_addAsked_78 : decode cX7_addAsked 78 = .ok (.return_, 1) := by decide +kernel
theorem dX7_listAsked_0 : decode cX7_listAsked 0 = .ok (.aload_n 0, 1) := by decide +kernel
theorem dX7_listAsked_1 : decode cX7_listAsked 1 = .ok (.iload_n 1, 1) := by decide +kernel
theorem dX7_listAsked_2 : decode cX7_listAsked 2 = .ok (.invokevirtual 173, 3) := by decide +kernel
theorem dX7_listAsked_5 : decode cX7_listAsked 5 = .ok (.aload_n 0, 1) := by decide +kernel
theorem dX7_listAsked_6 : decode cX7_listAsked 6 = .ok (.iconst 0, 1) := by decide +kernel
theorem dX7_listAsked_7 : decode cX7_listAsked 7 = .ok (.putfield 170, 3) := by decide +kernel
theorem dX7_listAsked_10 : decode cX7_listAsked 10 = .ok (.iconst 0, 1) := by decide +kernel
theorem dX7_listAsked_11 : decode cX7_listAsked 11 = .ok (.istore_n 2, 1) := by decide +kernel
theorem dX7_listAsked_12 : decode cX7_listAsked 12 = .ok (.iload_n 2, 1) := by decide +kernel
theorem dX7_listAsked_13 : decode cX7_listAsked 13 = .ok (.aload_n 0, 1) := by decide +kernel
theorem dX7_listAsked_14 : decode cX7_listAsked 14 = .ok (.getfield 164, 3) := by decide +kernel
theorem dX7_listAsked_17 : decode cX7_listAsked 17 = .ok (.if_icmp .ge 20, 3) := by decide +kernel
theorem dX7_listAsked_20 : decode cX7_listAsked 20 = .ok (.aload_n 0, 1) := by decide +kernel
theorem dX7_listAsked_21 : decode cX7_listAsked 21 = .ok (.aload_n 0, 1) := by decide +kernel
theorem dX7_listAsked_22 : decode cX7_listAsked 22 = .ok (.getfield 65, 3) := by decide +kernel
theorem dX7_listAsked_25 : decode cX7_listAsked 25 = .ok (.iload_n 2, 1) := by decide +kernel
theorem dX7_listAsked_26 : decode cX7_listAsked 26 = .ok (.iaload, 1) := by decide +kernel
theorem dX7_listAsked_27 : decode cX7_listAsked 27 = .ok (.iload_n 1, 1) := by decide +kernel
theorem dX7_listAsked_28 : decode cX7_listAsked 28 = .ok (.invokevirtual 177, 3) := by decide +kernel
theorem dX7_listAsked_31 : decode cX7_listAsked 31 = .ok (.iinc 2 1, 3) := by decide +kernel
theorem dX7_listAsked_34 : decode cX7_listAsked 34 = .ok (.goto (-22), 3) := by decide +kernel
theorem dX7_listAsked_37 : decode cX7_listAsked 37 = .ok (.bipush 60, 2) := by decide +kernel
theorem dX7_listAsked_39 : decode cX7_listAsked 39 = .ok (.iload_n 1, 1) := by decide +kernel
theorem dX7_listAsked_40 : decode cX7_listAsked 40 = .ok (.imul, 1) := by decide +kernel
theorem dX7_listAsked_41 : decode cX7_listAsked 41 = .ok (.istore_n 2, 1) := by decide +kernel
theorem dX7_listAsked_42 : decode cX7_listAsked 42 = .ok (.iload_n 2, 1) := by decide +kernel
theorem dX7_listAsked_43 : decode cX7_listAsked 43 = .ok (.bipush 60, 2) := by decide +kernel
theorem dX7_listAsked_45 : decode cX7_listAsked 45 = .ok (.iload_n 1, 1) := by decide +kernel
theorem dX7_listAsked_46 : decode cX7_listAsked 46 = .ok (.imul, 1) := by decide +kernel
theorem dX7_listAsked_47 : decode cX7_listAsked 47 = .ok (.aload_n 0, 1) := by decide +kernel
theorem dX7_listAsked_48 : decode cX7_listAsked 48 = .ok (.getfield 44, 3) := by decide +kernel
theorem dX7_listAsked_51 : decode cX7_listAsked 51 = .ok (.iconst 5, 1) := by decide +kernel
theorem dX7_listAsked_52 : decode cX7_listAsked 52 = .ok (.iload_n 1, 1) := by decide +kernel
theorem dX7_listAsked_53 : decode cX7_listAsked 53 = .ok (.imul, 1) := by decide +kernel
theorem dX7_listAsked_54 : decode cX7_listAsked 54 = .ok (.iaload, 1) := by decide +kernel
theorem dX7_listAsked_55 : decode cX7_listAsked 55 = .ok (.iadd, 1) := by decide +kernel
theorem dX7_listAsked_56 : decode cX7_listAsked 56 = .ok (.if_icmp .ge 36, 3) := by decide +kernel
theorem dX7_listAsked_59 : decode cX7_listAsked 59 = .ok (.aload_n 0, 1) := by decide +kernel
theorem dX7_listAsked_60 : decode cX7_listAsked 60 = .ok (.aload_n 0, 1) := by decide +kernel
theorem dX7_listAsked_61 : decode cX7_listAsked 61 = .ok (.aload_n 0, 1) := by decide +kernel
theorem dX7_listAsked_62 : decode cX7_listAsked 62 = .ok (.getfield 47, 3) := by decide +kernel
theorem dX7_listAsked_65 : decode cX7_listAsked 65 = .ok (.iload_n 2, 1) := by decide +kernel
theorem dX7_listAsked_66 : decode cX7_listAsked 66 = .ok (.iaload, 1) := by decide +kernel
theorem dX7_listAsked_67 : decode cX7_listAsked 67 = .ok (.aload_n 0, 1) := by decide +kernel
theorem dX7_listAsked_68 : decode cX7_listAsked 68 = .ok (.getfield 50, 3) := by decide +kernel
theorem dX7_listAsked_71 : decode cX7_listAsked 71 = .ok (.iload_n 2, 1) := by decide +kernel
theorem dX7_listAsked_72 : decode cX7_listAsked 72 = .ok (.iaload, 1) := by decide +kernel
theorem dX7_listAsked_73 : decode cX7_listAsked 73 = .ok (.aload_n 0, 1) := by decide +kernel
theorem dX7_listAsked_74 : decode cX7_listAsked 74 = .ok (.getfield 53, 3) := by decide +kernel
theorem dX7_listAsked_77 : decode cX7_listAsked 77 = .ok (.iload_n 2, 1) := by decide +kernel
theorem dX7_listAsked_78 : decode cX7_listAsked 78 = .ok (.iaload, 1) := by decide +kernel
theorem dX7_listAsked_79 : decode cX7_listAsked 79 = .ok (.invokevirtual 181, 3) := by decide +kernel
theorem dX7_listAsked_82 : decode cX7_listAsked 82 = .ok (.iload_n 1, 1) := by decide +kernel
theorem dX7_listAsked_83 : decode cX7_listAsked 83 = .ok (.invokevirtual 177, 3) := by decide +kernel
theorem dX7_listAsked_86 : decode cX7_listAsked 86 = .ok (.iinc 2 1, 3) := by decide +kernel
theorem dX7_listAsked_89 : decode cX7_listAsked 89 = .ok (.goto (-47), 3) := by decide +kernel
theorem dX7_listAsked_92 : decode cX7_listAsked 92 = .ok (.return_, 1) := by decide +kernel
theorem dX7_asks_0 : decode cX7_asks 0 = .ok (.aload_n 0, 1) := by decide +kernel
theorem dX7_asks_1 : decode cX7_asks 1 = .ok (.iload_n 1, 1) := by decide +kernel
theorem dX7_asks_2 : decode cX7_asks 2 = .ok (.invokevirtual 136, 3) := by decide +kernel
theorem dX7_asks_5 : decode cX7_asks 5 = .ok (.ifCond .ne 5, 3) := by decide +kernel
theorem dX7_asks_8 : decode cX7_asks 8 = .ok (.iconst (-1), 1) := by decide +kernel
theorem dX7_asks_9 : decode cX7_asks 9 = .ok (.ireturn, 1) := by decide +kernel
theorem dX7_asks_10 : decode cX7_asks 10 = .ok (.aload_n 0, 1) := by decide +kernel
theorem dX7_asks_11 : decode cX7_asks 11 = .ok (.iload_n 1, 1) := by decide +kernel
theorem dX7_asks_12 : decode cX7_asks 12 = .ok (.invokevirtual 185, 3) := by decide +kernel
theorem dX7_asks_15 : decode cX7_asks 15 = .ok (.iload_n 2, 1) := by decide +kernel
theorem dX7_asks_16 : decode cX7_asks 16 = .ok (.iconst 0, 1) := by decide +kernel
theorem dX7_asks_17 : decode cX7_asks 17 = .ok (.aload_n 0, 1) := by decide +kernel
theorem dX7_asks_18 : decode cX7_asks 18 = .ok (.getfield 170, 3) := by decide +kernel
theorem dX7_asks_21 : decode cX7_asks 21 = .ok (.iconst 1, 1) := by decide +kernel
theorem dX7_asks_22 : decode cX7_asks 22 = .ok (.isub, 1) := by decide +kernel
theorem dX7_asks_23 : decode cX7_asks 23 = .ok (.invokestatic 132, 3) := by decide +kernel
theorem dX7_asks_26 : decode cX7_asks 26 = .ok (.ifCond .eq 12, 3) := by decide +kernel
theorem dX7_asks_29 : decode cX7_asks 29 = .ok (.aload_n 0, 1) := by decide +kernel
theorem dX7_asks_30 : decode cX7_asks 30 = .ok (.getfield 74, 3) := by decide +kernel
theorem dX7_asks_33 : decode cX7_asks 33 = .ok (.iload_n 2, 1) := by decide +kernel
theorem dX7_asks_34 : decode cX7_asks 34 = .ok (.iaload, 1) := by decide +kernel
theorem dX7_asks_35 : decode cX7_asks 35 = .ok (.goto 5, 3) := by decide +kernel
theorem dX7_asks_38 : decode cX7_asks 38 = .ok (.bipush (-6), 2) := by decide +kernel
theorem dX7_asks_40 : decode cX7_asks 40 = .ok (.ireturn, 1) := by decide +kernel
theorem dX7_isRound_0 : decode cX7_isRound 0 = .ok (.iconst 0, 1) := by decide +kernel
theorem dX7_isRound_1 : decode cX7_isRound 1 = .ok (.istore_n 2, 1) := by decide +kernel
theorem dX7_isRound_2 : decode cX7_isRound 2 = .ok (.iload_n 2, 1) := by decide +kernel
theorem dX7_isRound_3 : decode cX7_isRound 3 = .ok (.aload_n 0, 1) := by decide +kernel
theorem dX7_isRound_4 : decode cX7_isRound 4 = .ok (.getfield 128, 3) := by decide +kernel
theorem dX7_isRound_7 : decode cX7_isRound 7 = .ok (.if_icmp .ge 16, 3) := by decide +kernel
theorem dX7_isRound_10 : decode cX7_isRound 10 = .ok (.aload_n 0, 1) := by decide +kernel
theorem dX7_isRound_11 : decode cX7_isRound 11 = .ok (.getfield 77, 3) := by decide +kernel
theorem dX7_isRound_14 : decode cX7_isRound 14 = .ok (.iload_n 2, 1) := by decide +kernel
theorem dX7_isRound_15 : decode cX7_isRound 15 = .ok (.iconst 0, 1) := by decide +kernel
theorem dX7_isRound_16 : decode cX7_isRound 16 = .ok (.bastore, 1) := by decide +kernel
theorem dX7_isRound_17 : decode cX7_isRound 17 = .ok (.iinc 2 1, 3) := by decide +kernel
theorem dX7_isRound_20 : decode cX7_isRound 20 = .ok (.goto (-18), 3) := by decide +kernel
theorem dX7_isRound_23 : decode cX7_isRound 23 = .ok (.iconst 1, 1) := by decide +kernel
theorem dX7_isRound_24 : decode cX7_isRound 24 = .ok (.istore_n 2, 1) := by decide +kernel
theorem dX7_isRound_25 : decode cX7_isRound 25 = .ok (.aload_n 0, 1) := by decide +kernel
theorem dX7_isRound_26 : decode cX7_isRound 26 = .ok (.getfield 80, 3) := by decide +kernel
theorem dX7_isRound_29 : decode cX7_isRound 29 = .ok (.iconst 0, 1) := by decide +kernel
theorem dX7_isRound_30 : decode cX7_isRound 30 = .ok (.iload_n 1, 1) := by decide +kernel
theorem dX7_isRound_31 : decode cX7_isRound 31 = .ok (.iastore, 1) := by decide +kernel
theorem dX7_isRound_32 : decode cX7_isRound 32 = .ok (.iconst 0, 1) := by decide +kernel
theorem dX7_isRound_33 : decode cX7_isRound 33 = .ok (.istore_n 3, 1) := by decide +kernel
theorem dX7_isRound_34 : decode cX7_isRound 34 = .ok (.iload_n 2, 1) := by decide +kernel
theorem dX7_isRound_35 : decode cX7_isRound 35 = .ok (.ifCond .le 102, 3) := by decide +kernel
theorem dX7_isRound_38 : decode cX7_isRound 38 = .ok (.iinc 2 (-1), 3) := by decide +kernel
theorem dX7_isRound_41 : decode cX7_isRound 41 = .ok (.aload_n 0, 1) := by decide +kernel
theorem dX7_isRound_42 : decode cX7_isRound 42 = .ok (.aload_n 0, 1) := by decide +kernel
theorem dX7_isRound_43 : decode cX7_isRound 43 = .ok (.getfield 80, 3) := by decide +kernel
theorem dX7_isRound_46 : decode cX7_isRound 46 = .ok (.iload_n 2, 1) := by decide +kernel
theorem dX7_isRound_47 : decode cX7_isRound 47 = .ok (.iaload, 1) := by decide +kernel
theorem dX7_isRound_48 : decode cX7_isRound 48 = .ok (.invokevirtual 185, 3) := by decide +kernel
theorem dX7_isRound_51 : decode cX7_isRound 51 = .ok (.iconst 0, 1) := by decide +kernel
theorem dX7_isRound_52 : decode cX7_isRound 52 = .ok (.istore 4, 2) := by decide +kernel
theorem dX7_isRound_54 : decode cX7_isRound 54 = .ok (.iload 4, 2) := by decide +kernel
theorem dX7_isRound_56 : decode cX7_isRound 56 = .ok (.aload_n 0, 1) := by decide +kernel
theorem dX7_isRound_57 : decode cX7_isRound 57 = .ok (.getfield 170, 3) := by decide +kernel
theorem dX7_isRound_60 : decode cX7_isRound 60 = .ok (.if_icmp .ge 74, 3) := by decide +kernel
theorem dX7_isRound_63 : decode cX7_isRound 63 = .ok (.iload_n 3, 1) := by decide +kernel
theorem dX7_isRound_64 : decode cX7_isRound 64 = .ok (.ifCond .ne 14, 3) := by decide +kernel
theorem dX7_isRound_67 : decode cX7_isRound 67 = .ok (.aload_n 0, 1) := by decide +kernel
theorem dX7_isRound_68 : decode cX7_isRound 68 = .ok (.getfield 74, 3) := by decide +kernel
theorem dX7_isRound_71 : decode cX7_isRound 71 = .ok (.iload 4, 2) := by decide +kernel
theorem dX7_isRound_73 : decode cX7_isRound 73 = .ok (.iaload, 1) := by decide +kernel
theorem dX7_isRound_74 : decode cX7_isRound 74 = .ok (.iload_n 1, 1) := by decide +kernel
theorem dX7_isRound_75 : decode cX7_isRound 75 = .ok (.if_icmp .ne 7, 3) := by decide +kernel
theorem dX7_isRound_78 : decode cX7_isRound 78 = .ok (.iconst 1, 1) := by decide +kernel
theorem dX7_isRound_79 : decode cX7_isRound 79 = .ok (.goto 4, 3) := by decide +kernel
theorem dX7_isRound_82 : decode cX7_isRound 82 = .ok (.iconst 0, 1) := by decide +kernel
theorem dX7_isRound_83 : decode cX7_isRound 83 = .ok (.istore_n 3, 1) := by decide +kernel
theorem dX7_isRound_84 : decode cX7_isRound 84 = .ok (.aload_n 0, 1) := by decide +kernel
theorem dX7_isRound_85 : decode cX7_isRound 85 = .ok (.getfield 77, 3) := by decide +kernel
theorem dX7_isRound_88 : decode cX7_isRound 88 = .ok (.aload_n 0, 1) := by decide +kernel
theorem dX7_isRound_89 : decode cX7_isRound 89 = .ok (.getfield 74, 3) := by decide +kernel
theorem dX7_isRound_92 : decode cX7_isRound 92 = .ok (.iload 4, 2) := by decide +kernel
theorem dX7_isRound_94 : decode cX7_isRound 94 = .ok (.iaload, 1) := by decide +kernel
theorem dX7_isRound_95 : decode cX7_isRound 95 = .ok (.baload, 1) := by decide +kernel
theorem dX7_isRound_96 : decode cX7_isRound 96 = .ok (.ifCond .ne 32, 3) := by decide +kernel
theorem dX7_isRound_99 : decode cX7_isRound 99 = .ok (.aload_n 0, 1) := by decide +kernel
theorem dX7_isRound_100 : decode cX7_isRound 100 = .ok (.getfield 77, 3) := by decide +kernel
theorem dX7_isRound_103 : decode cX7_isRound 103 = .ok (.aload_n 0, 1) := by decide +kernel
theorem dX7_isRound_104 : decode cX7_isRound 104 = .ok (.getfield 74, 3) := by decide +kernel
theorem dX7_isRound_107 : decode cX7_isRound 107 = .ok (.iload 4, 2) := by decide +kernel
theorem dX7_isRound_109 : decode cX7_isRound 109 = .ok (.iaload, 1) := by decide +kernel
theorem dX7_isRound_110 : decode cX7_isRound 110 = .ok (.iconst 1, 1) := by decide +kernel
theorem dX7_isRound_111 : decode cX7_isRound 111 = .ok (.bastore, 1) := by decide +kernel
theorem dX7_isRound_112 : decode cX7_isRound 112 = .ok (.aload_n 0, 1) := by decide +kernel
theorem dX7_isRound_113 : decode cX7_isRound 113 = .ok (.getfield 80, 3) := by decide +kernel
theorem dX7_isRound_116 : decode cX7_isRound 116 = .ok (.iload_n 2, 1) := by decide +kernel
theorem dX7_isRound_117 : decode cX7_isRound 117 = .ok (.aload_n 0, 1) := by decide +kernel
theorem dX7_isRound_118 : decode cX7_isRound 118 = .ok (.getfield 74, 3) := by decide +kernel
theorem dX7_isRound_121 : decode cX7_isRound 121 = .ok (.iload 4, 2) := by decide +kernel
theorem dX7_isRound_123 : decode cX7_isRound 123 = .ok (.iaload, 1) := by decide +kernel
theorem dX7_isRound_124 : decode cX7_isRound 124 = .ok (.iastore, 1) := by decide +kernel
theorem dX7_isRound_125 : decode cX7_isRound 125 = .ok (.iinc 2 1, 3) := by decide +kernel
theorem dX7_isRound_128 : decode cX7_isRound 128 = .ok (.iinc 4 1, 3) := by decide +kernel
theorem dX7_isRound_131 : decode cX7_isRound 131 = .ok (.goto (-77), 3) := by decide +kernel
theorem dX7_isRound_134 : decode cX7_isRound 134 = .ok (.goto (-100), 3) := by decide +kernel
theorem dX7_isRound_137 : decode cX7_isRound 137 = .ok (.iload_n 3, 1) := by decide +kernel
theorem dX7_isRound_138 : decode cX7_isRound 138 = .ok (.ireturn, 1) := by decide +kernel
theorem dX7_round_0 : decode cX7_round 0 = .ok (.iconst 0, 1) := by decide +kernel
theorem dX7_round_1 : decode cX7_round 1 = .ok (.istore_n 2, 1) := by decide +kernel
theorem dX7_round_2 : decode cX7_round 2 = .ok (.iconst 0, 1) := by decide +kernel
theorem dX7_round_3 : decode cX7_round 3 = .ok (.istore_n 3, 1) := by decide +kernel
theorem dX7_round_4 : decode cX7_round 4 = .ok (.iload_n 3, 1) := by decide +kernel
theorem dX7_round_5 : decode cX7_round 5 = .ok (.aload_n 0, 1) := by decide +kernel
theorem dX7_round_6 : decode cX7_round 6 = .ok (.getfield 128, 3) := by decide +kernel
theorem dX7_round_9 : decode cX7_round 9 = .ok (.if_icmp .ge 27, 3) := by decide +kernel
theorem dX7_round_12 : decode cX7_round 12 = .ok (.aload_n 0, 1) := by decide +kernel
theorem dX7_round_13 : decode cX7_round 13 = .ok (.iload_n 3, 1) := by decide +kernel
theorem dX7_round_14 : decode cX7_round 14 = .ok (.invokevirtual 188, 3) := by decide +kernel
theorem dX7_round_17 : decode cX7_round 17 = .ok (.ifCond .eq 13, 3) := by decide +kernel
theorem dX7_round_20 : decode cX7_round 20 = .ok (.iload_n 2, 1) := by decide +kernel
theorem dX7_round_21 : decode cX7_round 21 = .ok (.iload_n 1, 1) := by decide +kernel
theorem dX7_round_22 : decode cX7_round 22 = .ok (.if_icmp .ne 5, 3) := by decide +kernel
theorem dX7_round_25 : decode cX7_round 25 = .ok (.iload_n 3, 1) := by decide +kernel
theorem dX7_round_26 : decode cX7_round 26 = .ok (.ireturn, 1) := by decide +kernel
theorem dX7_round_27 : decode cX7_round 27 = .ok (.iinc 2 1, 3) := by decide +kernel
theorem dX7_round_30 : decode cX7_round 30 = .ok (.iinc 3 1, 3) := by decide +kernel
theorem dX7_round_33 : decode cX7_round 33 = .ok (.goto (-29), 3) := by decide +kernel
theorem dX7_round_36 : decode cX7_round 36 = .ok (.bipush (-6), 2) := by decide +kernel
theorem dX7_round_38 : decode cX7_round 38 = .ok (.ireturn, 1) := by decide +kernel
theorem dX7_world_0 : decode cX7_world 0 = .ok (.aload_n 0, 1) := by decide +kernel
theorem dX7_world_1 : decode cX7_world 1 = .ok (.getfield 140, 3) := by decide +kernel
theorem dX7_world_4 : decode cX7_world 4 = .ok (.bipush 12, 2) := by decide +kernel
theorem dX7_world_6 : decode cX7_world 6 = .ok (.if_icmp .ne 6, 3) := by decide +kernel
theorem dX7_world_9 : decode cX7_world 9 = .ok (.bipush (-4), 2) := by decide +kernel
theorem dX7_world_11 : decode cX7_world 11 = .ok (.ireturn, 1) := by decide +kernel
theorem dX7_world_12 : decode cX7_world 12 = .ok (.aload_n 0, 1) := by decide +kernel
theorem dX7_world_13 : decode cX7_world 13 = .ok (.getfield 128, 3) := by decide +kernel
theorem dX7_world_16 : decode cX7_world 16 = .ok (.ifCond .ne 6, 3) := by decide +kernel
theorem dX7_world_19 : decode cX7_world 19 = .ok (.bipush (-5), 2) := by decide +kernel
theorem dX7_world_21 : decode cX7_world 21 = .ok (.ireturn, 1) := by decide +kernel
theorem dX7_world_22 : decode cX7_world 22 = .ok (.aload_n 0, 1) := by decide +kernel
theorem dX7_world_23 : decode cX7_world 23 = .ok (.getfield 140, 3) := by decide +kernel
theorem dX7_world_26 : decode cX7_world 26 = .ok (.istore_n 1, 1) := by decide +kernel
theorem dX7_world_27 : decode cX7_world 27 = .ok (.iconst 0, 1) := by decide +kernel
theorem dX7_world_28 : decode cX7_world 28 = .ok (.istore_n 2, 1) := by decide +kernel
theorem dX7_world_29 : decode cX7_world 29 = .ok (.iload_n 2, 1) := by decide +kernel
theorem dX7_world_30 : decode cX7_world 30 = .ok (.bipush 40, 2) := by decide +kernel
theorem dX7_world_32 : decode cX7_world 32 = .ok (.if_icmp .ge 21, 3) := by decide +kernel
theorem dX7_world_35 : decode cX7_world 35 = .ok (.aload_n 0, 1) := by decide +kernel
theorem dX7_world_36 : decode cX7_world 36 = .ok (.getfield 83, 3) := by decide +kernel
theorem dX7_world_39 : decode cX7_world 39 = .ok (.bipush 40, 2) := by decide +kernel
theorem dX7_world_41 : decode cX7_world 41 = .ok (.iload_n 1, 1) := by decide +kernel
theorem dX7_world_42 : decode cX7_world 42 = .ok (.imul, 1) := by decide +kernel
theorem dX7_world_43 : decode cX7_world 43 = .ok (.iload_n 2, 1) := by decide +kernel
theorem dX7_world_44 : decode cX7_world 44 = .ok (.iadd, 1) := by decide +kernel
theorem dX7_world_45 : decode cX7_world 45 = .ok (.iconst 0, 1) := by decide +kernel
theorem dX7_world_46 : decode cX7_world 46 = .ok (.iastore, 1) := by decide +kernel
theorem dX7_world_47 : decode cX7_world 47 = .ok (.iinc 2 1, 3) := by decide +kernel
theorem dX7_world_50 : decode cX7_world 50 = .ok (.goto (-21), 3) := by decide +kernel
theorem dX7_world_53 : decode cX7_world 53 = .ok (.iconst 0, 1) := by decide +kernel
theorem dX7_world_54 : decode cX7_world 54 = .ok (.istore_n 2, 1) := by decide +kernel
theorem dX7_world_55 : decode cX7_world 55 = .ok (.iload_n 2, 1) := by decide +kernel
theorem dX7_world_56 : decode cX7_world 56 = .ok (.sipush 240, 3) := by decide +kernel
theorem dX7_world_59 : decode cX7_world 59 = .ok (.if_icmp .ge 22, 3) := by decide +kernel
theorem dX7_world_62 : decode cX7_world 62 = .ok (.aload_n 0, 1) := by decide +kernel
theorem dX7_world_63 : decode cX7_world 63 = .ok (.getfield 86, 3) := by decide +kernel
theorem dX7_world_66 : decode cX7_world 66 = .ok (.sipush 240, 3) := by decide +kernel
theorem dX7_world_69 : decode cX7_world 69 = .ok (.iload_n 1, 1) := by decide +kernel
theorem dX7_world_70 : decode cX7_world 70 = .ok (.imul, 1) := by decide +kernel
theorem dX7_world_71 : decode cX7_world 71 = .ok (.iload_n 2, 1) := by decide +kernel
theorem dX7_world_72 : decode cX7_world 72 = .ok (.iadd, 1) := by decide +kernel
theorem dX7_world_73 : decode cX7_world 73 = .ok (.iconst 0, 1) := by decide +kernel
theorem dX7_world_74 : decode cX7_world 74 = .ok (.iastore, 1) := by decide +kernel
theorem dX7_world_75 : decode cX7_world 75 = .ok (.iinc 2 1, 3) := by decide +kernel
theorem dX7_world_78 : decode cX7_world 78 = .ok (.goto (-23), 3) := by decide +kernel
theorem dX7_world_81 : decode cX7_world 81 = .ok (.aload_n 0, 1) := by decide +kernel
theorem dX7_world_82 : decode cX7_world 82 = .ok (.getfield 89, 3) := by decide +kernel
theorem dX7_world_85 : decode cX7_world 85 = .ok (.iload_n 1, 1) := by decide +kernel
theorem dX7_world_86 : decode cX7_world 86 = .ok (.iconst 0, 1) := by decide +kernel
theorem dX7_world_87 : decode cX7_world 87 = .ok (.iastore, 1) := by decide +kernel
theorem dX7_world_88 : decode cX7_world 88 = .ok (.aload_n 0, 1) := by decide +kernel
theorem dX7_world_89 : decode cX7_world 89 = .ok (.getfield 95, 3) := by decide +kernel
theorem dX7_world_92 : decode cX7_world 92 = .ok (.iload_n 1, 1) := by decide +kernel
theorem dX7_world_93 : decode cX7_world 93 = .ok (.iconst 0, 1) := by decide +kernel
theorem dX7_world_94 : decode cX7_world 94 = .ok (.iastore, 1) := by decide +kernel
theorem dX7_world_95 : decode cX7_world 95 = .ok (.aload_n 0, 1) := by decide +kernel
theorem dX7_world_96 : decode cX7_world 96 = .ok (.getfield 101, 3) := by decide +kernel
theorem dX7_world_99 : decode cX7_world 99 = .ok (.iload_n 1, 1) := by decide +kernel
theorem dX7_world_100 : decode cX7_world 100 = .ok (.bipush (-6), 2) := by decide +kernel
theorem dX7_world_102 : decode cX7_world 102 = .ok (.iastore, 1) := by decide +kernel
theorem dX7_world_103 : decode cX7_world 103 = .ok (.aload_n 0, 1) := by decide +kernel
theorem dX7_world_104 : decode cX7_world 104 = .ok (.getfield 104, 3) := by decide +kernel
theorem dX7_world_107 : decode cX7_world 107 = .ok (.iload_n 1, 1) := by decide +kernel
theorem dX7_world_108 : decode cX7_world 108 = .ok (.bipush (-6), 2) := by decide +kernel
theorem dX7_world_110 : decode cX7_world 110 = .ok (.iastore, 1) := by decide +kernel
theorem dX7_world_111 : decode cX7_world 111 = .ok (.iconst 0, 1) := by decide +kernel
theorem dX7_world_112 : decode cX7_world 112 = .ok (.istore_n 2, 1) := by decide +kernel
theorem dX7_world_113 : decode cX7_world 113 = .ok (.iload_n 2, 1) := by decide +kernel
theorem dX7_world_114 : decode cX7_world 114 = .ok (.iconst 4, 1) := by decide +kernel
theorem dX7_world_115 : decode cX7_world 115 = .ok (.if_icmp .ge 20, 3) := by decide +kernel
theorem dX7_world_118 : decode cX7_world 118 = .ok (.aload_n 0, 1) := by decide +kernel
theorem dX7_world_119 : decode cX7_world 119 = .ok (.getfield 107, 3) := by decide +kernel
theorem dX7_world_122 : decode cX7_world 122 = .ok (.iconst 4, 1) := by decide +kernel
theorem dX7_world_123 : decode cX7_world 123 = .ok (.iload_n 1, 1) := by decide +kernel
theorem dX7_world_124 : decode cX7_world 124 = .ok (.imul, 1) := by decide +kernel
theorem dX7_world_125 : decode cX7_world 125 = .ok (.iload_n 2, 1) := by decide +kernel
theorem dX7_world_126 : decode cX7_world 126 = .ok (.iadd, 1) := by decide +kernel
theorem dX7_world_127 : decode cX7_world 127 = .ok (.iconst 0, 1) := by decide +kernel
theorem dX7_world_128 : decode cX7_world 128 = .ok (.iastore, 1) := by decide +kernel
theorem dX7_world_129 : decode cX7_world 129 = .ok (.iinc 2 1, 3) := by decide +kernel
theorem dX7_world_132 : decode cX7_world 132 = .ok (.goto (-19), 3) := by decide +kernel
theorem dX7_world_135 : decode cX7_world 135 = .ok (.aload_n 0, 1) := by decide +kernel
theorem dX7_world_136 : decode cX7_world 136 = .ok (.dup, 1) := by decide +kernel
theorem dX7_world_137 : decode cX7_world 137 = .ok (.getfield 140, 3) := by decide +kernel
theorem dX7_world_140 : decode cX7_world 140 = .ok (.iconst 1, 1) := by decide +kernel
theorem dX7_world_141 : decode cX7_world 141 = .ok (.iadd, 1) := by decide +kernel
theorem dX7_world_142 : decode cX7_world 142 = .ok (.putfield 140, 3) := by decide +kernel
theorem dX7_world_145 : decode cX7_world 145 = .ok (.iload_n 1, 1) := by decide +kernel
theorem dX7_world_146 : decode cX7_world 146 = .ok (.ireturn, 1) := by decide +kernel
theorem dX7_gone_0 : decode cX7_gone 0 = .ok (.aload_n 0, 1) := by decide +kernel
theorem dX7_gone_1 : decode cX7_gone 1 = .ok (.getfield 140, 3) := by decide +kernel
theorem dX7_gone_4 : decode cX7_gone 4 = .ok (.istore_n 1, 1) := by decide +kernel
theorem dX7_gone_5 : decode cX7_gone 5 = .ok (.aload_n 0, 1) := by decide +kernel
theorem dX7_gone_6 : decode cX7_gone 6 = .ok (.iconst 0, 1) := by decide +kernel
theorem dX7_gone_7 : decode cX7_gone 7 = .ok (.putfield 140, 3) := by decide +kernel
theorem dX7_gone_10 : decode cX7_gone 10 = .ok (.iload_n 1, 1) := by decide +kernel
theorem dX7_gone_11 : decode cX7_gone 11 = .ok (.ireturn, 1) := by decide +kernel
theorem dX7_isWorld_0 : decode cX7_isWorld 0 = .ok (.iload_n 1, 1) := by decide +kernel
theorem dX7_isWorld_1 : decode cX7_isWorld 1 = .ok (.iconst 0, 1) := by decide +kernel
theorem dX7_isWorld_2 : decode cX7_isWorld 2 = .ok (.aload_n 0, 1) := by decide +kernel
theorem dX7_isWorld_3 : decode cX7_isWorld 3 = .ok (.getfield 140, 3) := by decide +kernel
theorem dX7_isWorld_6 : decode cX7_isWorld 6 = .ok (.iconst 1, 1) := by decide +kernel
theorem dX7_isWorld_7 : decode cX7_isWorld 7 = .ok (.isub, 1) := by decide +kernel
theorem dX7_isWorld_8 : decode cX7_isWorld 8 = .ok (.invokestatic 132, 3) := by decide +kernel
theorem dX7_isWorld_11 : decode cX7_isWorld 11 = .ok (.ireturn, 1) := by decide +kernel
theorem dX7_copy_0 : decode cX7_copy 0 = .ok (.iconst 0, 1) := by decide +kernel
theorem dX7_copy_1 : decode cX7_copy 1 = .ok (.istore_n 3, 1) := by decide +kernel
theorem dX7_copy_2 : decode cX7_copy 2 = .ok (.iload_n 3, 1) := by decide +kernel
theorem dX7_copy_3 : decode cX7_copy 3 = .ok (.bipush 40, 2) := by decide +kernel
theorem dX7_copy_5 : decode cX7_copy 5 = .ok (.if_icmp .ge 53, 3) := by decide +kernel
theorem dX7_copy_8 : decode cX7_copy 8 = .ok (.aload_n 0, 1) := by decide +kernel
theorem dX7_copy_9 : decode cX7_copy 9 = .ok (.getfield 83, 3) := by decide +kernel
theorem dX7_copy_12 : decode cX7_copy 12 = .ok (.bipush 40, 2) := by decide +kernel
theorem dX7_copy_14 : decode cX7_copy 14 = .ok (.iload_n 2, 1) := by decide +kernel
theorem dX7_copy_15 : decode cX7_copy 15 = .ok (.imul, 1) := by decide +kernel
theorem dX7_copy_16 : decode cX7_copy 16 = .ok (.iload_n 3, 1) := by decide +kernel
theorem dX7_copy_17 : decode cX7_copy 17 = .ok (.iadd, 1) := by decide +kernel
theorem dX7_copy_18 : decode cX7_copy 18 = .ok (.aload_n 0, 1) := by decide +kernel
theorem dX7_copy_19 : decode cX7_copy 19 = .ok (.getfield 83, 3) := by decide +kernel
theorem dX7_copy_22 : decode cX7_copy 22 = .ok (.bipush 40, 2) := by decide +kernel
theorem dX7_copy_24 : decode cX7_copy 24 = .ok (.iload_n 1, 1) := by decide +kernel
theorem dX7_copy_25 : decode cX7_copy 25 = .ok (.imul, 1) := by decide +kernel
theorem dX7_copy_26 : decode cX7_copy 26 = .ok (.iload_n 3, 1) := by decide +kernel
theorem dX7_copy_27 : decode cX7_copy 27 = .ok (.iadd, 1) := by decide +kernel
theorem dX7_copy_28 : decode cX7_copy 28 = .ok (.iaload, 1) := by decide +kernel
theorem dX7_copy_29 : decode cX7_copy 29 = .ok (.iastore, 1) := by decide +kernel
theorem dX7_copy_30 : decode cX7_copy 30 = .ok (.aload_n 0, 1) := by decide +kernel
theorem dX7_copy_31 : decode cX7_copy 31 = .ok (.getfield 98, 3) := by decide +kernel
theorem dX7_copy_34 : decode cX7_copy 34 = .ok (.bipush 40, 2) := by decide +kernel
theorem dX7_copy_36 : decode cX7_copy 36 = .ok (.iload_n 2, 1) := by decide +kernel
theorem dX7_copy_37 : decode cX7_copy 37 = .ok (.imul, 1) := by decide +kernel
theorem dX7_copy_38 : decode cX7_copy 38 = .ok (.iload_n 3, 1) := by decide +kernel
theorem dX7_copy_39 : decode cX7_copy 39 = .ok (.iadd, 1) := by decide +kernel
theorem dX7_copy_40 : decode cX7_copy 40 = .ok (.aload_n 0, 1) := by decide +kernel
theorem dX7_copy_41 : decode cX7_copy 41 = .ok (.getfield 98, 3) := by decide +kernel
theorem dX7_copy_44 : decode cX7_copy 44 = .ok (.bipush 40, 2) := by decide +kernel
theorem dX7_copy_46 : decode cX7_copy 46 = .ok (.iload_n 1, 1) := by decide +kernel
theorem dX7_copy_47 : decode cX7_copy 47 = .ok (.imul, 1) := by decide +kernel
theorem dX7_copy_48 : decode cX7_copy 48 = .ok (.iload_n 3, 1) := by decide +kernel
theorem dX7_copy_49 : decode cX7_copy 49 = .ok (.iadd, 1) := by decide +kernel
theorem dX7_copy_50 : decode cX7_copy 50 = .ok (.iaload, 1) := by decide +kernel
theorem dX7_copy_51 : decode cX7_copy 51 = .ok (.iastore, 1) := by decide +kernel
theorem dX7_copy_52 : decode cX7_copy 52 = .ok (.iinc 3 1, 3) := by decide +kernel
theorem dX7_copy_55 : decode cX7_copy 55 = .ok (.goto (-53), 3) := by decide +kernel
theorem dX7_copy_58 : decode cX7_copy 58 = .ok (.iconst 0, 1) := by decide +kernel
theorem dX7_copy_59 : decode cX7_copy 59 = .ok (.istore_n 3, 1) := by decide +kernel
theorem dX7_copy_60 : decode cX7_copy 60 = .ok (.iload_n 3, 1) := by decide +kernel
theorem dX7_copy_61 : decode cX7_copy 61 = .ok (.sipush 240, 3) := by decide +kernel
theorem dX7_copy_64 : decode cX7_copy 64 = .ok (.if_icmp .ge 33, 3) := by decide +kernel
theorem dX7_copy_67 : decode cX7_copy 67 = .ok (.aload_n 0, 1) := by decide +kernel
theorem dX7_copy_68 : decode cX7_copy 68 = .ok (.getfield 86, 3) := by decide +kernel
theorem dX7_copy_71 : decode cX7_copy 71 = .ok (.sipush 240, 3) := by decide +kernel
theorem dX7_copy_74 : decode cX7_copy 74 = .ok (.iload_n 2, 1) := by decide +kernel
theorem dX7_copy_75 : decode cX7_copy 75 = .ok (.imul, 1) := by decide +kernel
theorem dX7_copy_76 : decode cX7_copy 76 = .ok (.iload_n 3, 1) := by decide +kernel
theorem dX7_copy_77 : decode cX7_copy 77 = .ok (.iadd, 1) := by decide +kernel
theorem dX7_copy_78 : decode cX7_copy 78 = .ok (.aload_n 0, 1) := by decide +kernel
theorem dX7_copy_79 : decode cX7_copy 79 = .ok (.getfield 86, 3) := by decide +kernel
theorem dX7_copy_82 : decode cX7_copy 82 = .ok (.sipush 240, 3) := by decide +kernel
theorem dX7_copy_85 : decode cX7_copy 85 = .ok (.iload_n 1, 1) := by decide +kernel
theorem dX7_copy_86 : decode cX7_copy 86 = .ok (.imul, 1) := by decide +kernel
theorem dX7_copy_87 : decode cX7_copy 87 = .ok (.iload_n 3, 1) := by decide +kernel
theorem dX7_copy_88 : decode cX7_copy 88 = .ok (.iadd, 1) := by decide +kernel
theorem dX7_copy_89 : decode cX7_copy 89 = .ok (.iaload, 1) := by decide +kernel
theorem dX7_copy_90 : decode cX7_copy 90 = .ok (.iastore, 1) := by decide +kernel
theorem dX7_copy_91 : decode cX7_copy 91 = .ok (.iinc 3 1, 3) := by decide +kernel
theorem dX7_copy_94 : decode cX7_copy 94 = .ok (.goto (-34), 3) := by decide +kernel
theorem dX7_copy_97 : decode cX7_copy 97 = .ok (.iconst 0, 1) := by decide +kernel
theorem dX7_copy_98 : decode cX7_copy 98 = .ok (.istore_n 3, 1) := by decide +kernel
theorem dX7_copy_99 : decode cX7_copy 99 = .ok (.iload_n 3, 1) := by decide +kernel
theorem dX7_copy_100 : decode cX7_copy 100 = .ok (.sipush 300, 3) := by decide +kernel
theorem dX7_copy_103 : decode cX7_copy 103 = .ok (.if_icmp .ge 33, 3) := by decide +kernel
theorem dX7_copy_106 : decode cX7_copy 106 = .ok (.aload_n 0, 1) := by decide +kernel
theorem dX7_copy_107 : decode cX7_copy 107 = .ok (.getfield 92, 3) := by decide +kernel
theorem dX7_copy_110 : decode cX7_copy 110 = .ok (.sipush 300, 3) := by decide +kernel
theorem dX7_copy_113 : decode cX7_copy 113 = .ok (.iload_n 2, 1) := by decide +kernel
theorem dX7_copy_114 : decode cX7_copy 114 = .ok (.imul, 1) := by decide +kernel
theorem dX7_copy_115 : decode cX7_copy 115 = .ok (.iload_n 3, 1) := by decide +kernel
theorem dX7_copy_116 : decode cX7_copy 116 = .ok (.iadd, 1) := by decide +kernel
theorem dX7_copy_117 : decode cX7_copy 117 = .ok (.aload_n 0, 1) := by decide +kernel
theorem dX7_copy_118 : decode cX7_copy 118 = .ok (.getfield 92, 3) := by decide +kernel
theorem dX7_copy_121 : decode cX7_copy 121 = .ok (.sipush 300, 3) := by decide +kernel
theorem dX7_copy_124 : decode cX7_copy 124 = .ok (.iload_n 1, 1) := by decide +kernel
theorem dX7_copy_125 : decode cX7_copy 125 = .ok (.imul, 1) := by decide +kernel
theorem dX7_copy_126 : decode cX7_copy 126 = .ok (.iload_n 3, 1) := by decide +kernel
theorem dX7_copy_127 : decode cX7_copy 127 = .ok (.iadd, 1) := by decide +kernel
theorem dX7_copy_128 : decode cX7_copy 128 = .ok (.iaload, 1) := by decide +kernel
theorem dX7_copy_129 : decode cX7_copy 129 = .ok (.iastore, 1) := by decide +kernel
theorem dX7_copy_130 : decode cX7_copy 130 = .ok (.iinc 3 1, 3) := by decide +kernel
theorem dX7_copy_133 : decode cX7_copy 133 = .ok (.goto (-34), 3) := by decide +kernel
theorem dX7_copy_136 : decode cX7_copy 136 = .ok (.aload_n 0, 1) := by decide +kernel
theorem dX7_copy_137 : decode cX7_copy 137 = .ok (.getfield 89, 3) := by decide +kernel
theorem dX7_copy_140 : decode cX7_copy 140 = .ok (.iload_n 2, 1) := by decide +kernel
theorem dX7_copy_141 : decode cX7_copy 141 = .ok (.aload_n 0, 1) := by decide +kernel
theorem dX7_copy_142 : decode cX7_copy 142 = .ok (.getfield 89, 3) := by decide +kernel
theorem dX7_copy_145 : decode cX7_copy 145 = .ok (.iload_n 1, 1) := by decide +kernel
theorem dX7_copy_146 : decode cX7_copy 146 = .ok (.iaload, 1) := by decide +kernel
theorem dX7_copy_147 : decode cX7_copy 147 = .ok (.iastore, 1) := by decide +kernel
theorem dX7_copy_148 : decode cX7_copy 148 = .ok (.aload_n 0, 1) := by decide +kernel
theorem dX7_copy_149 : decode cX7_copy 149 = .ok (.getfield 95, 3) := by decide +kernel
theorem dX7_copy_152 : decode cX7_copy 152 = .ok (.iload_n 2, 1) := by decide +kernel
theorem dX7_copy_153 : decode cX7_copy 153 = .ok (.aload_n 0, 1) := by decide +kernel
theorem dX7_copy_154 : decode cX7_copy 154 = .ok (.getfield 95, 3) := by decide +kernel
theorem dX7_copy_157 : decode cX7_copy 157 = .ok (.iload_n 1, 1) := by decide +kernel
theorem dX7_copy_158 : decode cX7_copy 158 = .ok (.iaload, 1) := by decide +kernel
theorem dX7_copy_159 : decode cX7_copy 159 = .ok (.iastore, 1) := by decide +kernel
theorem dX7_copy_160 : decode cX7_copy 160 = .ok (.return_, 1) := by decide +kernel
theorem dX7_onTape_0 : decode cX7_onTape 0 = .ok (.aload_n 0, 1) := by decide +kernel
theorem dX7_onTape_1 : decode cX7_onTape 1 = .ok (.getfield 89, 3) := by decide +kernel
theorem dX7_onTape_4 : decode cX7_onTape 4 = .ok (.aload_n 0, 1) := by decide +kernel
theorem dX7_onTape_5 : decode cX7_onTape 5 = .ok (.getfield 191, 3) := by decide +kernel
theorem dX7_onTape_8 : decode cX7_onTape 8 = .ok (.iaload, 1) := by decide +kernel
theorem dX7_onTape_9 : decode cX7_onTape 9 = .ok (.sipush 300, 3) := by decide +kernel
theorem dX7_onTape_12 : decode cX7_onTape 12 = .ok (.if_icmp .ge 27, 3) := by decide +kernel
theorem dX7_onTape_15 : decode cX7_onTape 15 = .ok (.aload_n 0, 1) := by decide +kernel
theorem dX7_onTape_16 : decode cX7_onTape 16 = .ok (.getfield 92, 3) := by decide +kernel
theorem dX7_onTape_19 : decode cX7_onTape 19 = .ok (.sipush 300, 3) := by decide +kernel
theorem dX7_onTape_22 : decode cX7_onTape 22 = .ok (.aload_n 0, 1) := by decide +kernel
theorem dX7_onTape_23 : decode cX7_onTape 23 = .ok (.getfield 191, 3) := by decide +kernel
theorem dX7_onTape_26 : decode cX7_onTape 26 = .ok (.imul, 1) := by decide +kernel
theorem dX7_onTape_27 : decode cX7_onTape 27 = .ok (.aload_n 0, 1) := by decide +kernel
theorem dX7_onTape_28 : decode cX7_onTape 28 = .ok (.getfield 89, 3) := by decide +kernel
theorem dX7_onTape_31 : decode cX7_onTape 31 = .ok (.aload_n 0, 1) := by decide +kernel
theorem dX7_onTape_32 : decode cX7_onTape 32 = .ok (.getfield 191, 3) := by decide +kernel
theorem dX7_onTape_35 : decode cX7_onTape 35 = .ok (.iaload, 1) := by decide +kernel
theorem dX7_onTape_36 : decode cX7_onTape 36 = .ok (.iadd, 1) := by decide +kernel
theorem dX7_onTape_37 : decode cX7_onTape 37 = .ok (.iload_n 1, 1) := by decide +kernel
theorem dX7_onTape_38 : decode cX7_onTape 38 = .ok (.iastore, 1) := by decide +kernel
theorem dX7_onTape_39 : decode cX7_onTape 39 = .ok (.aload_n 0, 1) := by decide +kernel
theorem dX7_onTape_40 : decode cX7_onTape 40 = .ok (.getfield 89, 3) := by decide +kernel
theorem dX7_onTape_43 : decode cX7_onTape 43 = .ok (.aload_n 0, 1) := by decide +kernel
theorem dX7_onTape_44 : decode cX7_onTape 44 = .ok (.getfield 191, 3) := by decide +kernel
theorem dX7_onTape_47 : decode cX7_onTape 47 = .ok (.dup2, 1) := by decide +kernel
theorem dX7_onTape_48 : decode cX7_onTape 48 = .ok (.iaload, 1) := by decide +kernel
theorem dX7_onTape_49 : decode cX7_onTape 49 = .ok (.iconst 1, 1) := by decide +kernel
theorem dX7_onTape_50 : decode cX7_onTape 50 = .ok (.iadd, 1) := by decide +kernel
theorem dX7_onTape_51 : decode cX7_onTape 51 = .ok (.iastore, 1) := by decide +kernel
theorem dX7_onTape_52 : decode cX7_onTape 52 = .ok (.return_, 1) := by decide +kernel
theorem dX7_fail_0 : decode cX7_fail 0 = .ok (.aload_n 0, 1) := by decide +kernel
theorem dX7_fail_1 : decode cX7_fail 1 = .ok (.getfield 194, 3) := by decide +kernel
theorem dX7_fail_4 : decode cX7_fail 4 = .ok (.bipush 40, 2) := by decide +kernel
theorem dX7_fail_6 : decode cX7_fail 6 = .ok (.if_icmp .ne 9, 3) := by decide +kernel
theorem dX7_fail_9 : decode cX7_fail 9 = .ok (.aload_n 0, 1) := by decide +kernel
theorem dX7_fail_10 : decode cX7_fail 10 = .ok (.iconst 1, 1) := by decide +kernel
theorem dX7_fail_11 : decode cX7_fail 11 = .ok (.putfield 197, 3) := by decide +kernel
theorem dX7_fail_14 : decode cX7_fail 14 = .ok (.return_, 1) := by decide +kernel
theorem dX7_fail_15 : decode cX7_fail 15 = .ok (.aload_n 0, 1) := by decide +kernel
theorem dX7_fail_16 : decode cX7_fail 16 = .ok (.dup, 1) := by decide +kernel
theorem dX7_fail_17 : decode cX7_fail 17 = .ok (.getfield 194, 3) := by decide +kernel
theorem dX7_fail_20 : decode cX7_fail 20 = .ok (.iconst 1, 1) := by decide +kernel
theorem dX7_fail_21 : decode cX7_fail 21 = .ok (.iadd, 1) := by decide +kernel
theorem dX7_fail_22 : decode cX7_fail 22 = .ok (.putfield 194, 3) := by decide +kernel
theorem dX7_fail_25 : decode cX7_fail 25 = .ok (.aload_n 0, 1) := by decide +kernel
theorem dX7_fail_26 : decode cX7_fail 26 = .ok (.iconst 1, 1) := by decide +kernel
theorem dX7_fail_27 : decode cX7_fail 27 = .ok (.putfield 201, 3) := by decide +kernel
theorem dX7_fail_30 : decode cX7_fail 30 = .ok (.aload_n 0, 1) := by decide +kernel
theorem dX7_fail_31 : decode cX7_fail 31 = .ok (.iload_n 1, 1) := by decide +kernel
theorem dX7_fail_32 : decode cX7_fail 32 = .ok (.putfield 204, 3) := by decide +kernel
theorem dX7_fail_35 : decode cX7_fail 35 = .ok (.aload_n 0, 1) := by decide +kernel
theorem dX7_fail_36 : decode cX7_fail 36 = .ok (.iload_n 2, 1) := by decide +kernel
theorem dX7_fail_37 : decode cX7_fail 37 = .ok (.putfield 207, 3) := by decide +kernel
theorem dX7_fail_40 : decode cX7_fail 40 = .ok (.return_, 1) := by decide +kernel
theorem dX7_pushBody_0 : decode cX7_pushBody 0 = .ok (.aload_n 0, 1) := by decide +kernel
theorem dX7_pushBody_1 : decode cX7_pushBody 1 = .ok (.getfield 210, 3) := by decide +kernel
theorem dX7_pushBody_4 : decode cX7_pushBody 4 = .ok (.bipush 30, 2) := by decide +kernel
theorem dX7_pushBody_6 : decode cX7_pushBody 6 = .ok (.if_icmp .ne 9, 3) := by decide +kernel
theorem dX7_pushBody_9 : decode cX7_pushBody 9 = .ok (.aload_n 0, 1) := by decide +kernel
theorem dX7_pushBody_10 : decode cX7_pushBody 10 = .ok (.iconst 1, 1) := by decide +kernel
theorem dX7_pushBody_11 : decode cX7_pushBody 11 = .ok (.putfield 197, 3) := by decide +kernel
theorem dX7_pushBody_14 : decode cX7_pushBody 14 = .ok (.return_, 1) := by decide +kernel
theorem dX7_pushBody_15 : decode cX7_pushBody 15 = .ok (.aload_n 0, 1) := by decide +kernel
theorem dX7_pushBody_16 : decode cX7_pushBody 16 = .ok (.getfield 110, 3) := by decide +kernel
theorem dX7_pushBody_19 : decode cX7_pushBody 19 = .ok (.aload_n 0, 1) := by decide +kernel
theorem dX7_pushBody_20 : decode cX7_pushBody 20 = .ok (.getfield 213, 3) := by decide +kernel
theorem dX7_pushBody_23 : decode cX7_pushBody 23 = .ok (.iconst 0, 1) := by decide +kernel
theorem dX7_pushBody_24 : decode cX7_pushBody 24 = .ok (.bastore, 1) := by decide +kernel
theorem dX7_pushBody_25 : decode cX7_pushBody 25 = .ok (.aload_n 0, 1) := by decide +kernel
theorem dX7_pushBody_26 : decode cX7_pushBody 26 = .ok (.getfield 113, 3) := by decide +kernel
theorem dX7_pushBody_29 : decode cX7_pushBody 29 = .ok (.aload_n 0, 1) := by decide +kernel
theorem dX7_pushBody_30 : decode cX7_pushBody 30 = .ok (.getfield 213, 3) := by decide +kernel
theorem dX7_pushBody_33 : decode cX7_pushBody 33 = .ok (.iload_n 1, 1) := by decide +kernel
theorem dX7_pushBody_34 : decode cX7_pushBody 34 = .ok (.iastore, 1) := by decide +kernel
theorem dX7_pushBody_35 : decode cX7_pushBody 35 = .ok (.aload_n 0, 1) := by decide +kernel
theorem dX7_pushBody_36 : decode cX7_pushBody 36 = .ok (.getfield 116, 3) := by decide +kernel
theorem dX7_pushBody_39 : decode cX7_pushBody 39 = .ok (.aload_n 0, 1) := by decide +kernel
theorem dX7_pushBody_40 : decode cX7_pushBody 40 = .ok (.getfield 213, 3) := by decide +kernel
theorem dX7_pushBody_43 : decode cX7_pushBody 43 = .ok (.iconst 0, 1) := by decide +kernel
theorem dX7_pushBody_44 : decode cX7_pushBody 44 = .ok (.iastore, 1) := by decide +kernel
theorem dX7_pushBody_45 : decode cX7_pushBody 45 = .ok (.aload_n 0, 1) := by decide +kernel
theorem dX7_pushBody_46 : decode cX7_pushBody 46 = .ok (.getfield 119, 3) := by decide +kernel
theorem dX7_pushBody_49 : decode cX7_pushBody 49 = .ok (.aload_n 0, 1) := by decide +kernel
theorem dX7_pushBody_50 : decode cX7_pushBody 50 = .ok (.getfield 213, 3) := by decide +kernel
theorem dX7_pushBody_53 : decode cX7_pushBody 53 = .ok (.bipush (-6), 2) := by decide +kernel
theorem dX7_pushBody_55 : decode cX7_pushBody 55 = .ok (.iastore, 1) := by decide +kernel
theorem dX7_pushBody_56 : decode cX7_pushBody 56 = .ok (.aload_n 0, 1) := by decide +kernel
theorem dX7_pushBody_57 : decode cX7_pushBody 57 = .ok (.getfield 122, 3) := by decide +kernel
theorem dX7_pushBody_60 : decode cX7_pushBody 60 = .ok (.aload_n 0, 1) := by decide +kernel
theorem dX7_pushBody_61 : decode cX7_pushBody 61 = .ok (.getfield 213, 3) := by decide +kernel
theorem dX7_pushBody_64 : decode cX7_pushBody 64 = .ok (.iconst 0, 1) := by decide +kernel
theorem dX7_pushBody_65 : decode cX7_pushBody 65 = .ok (.bastore, 1) := by decide +kernel
theorem dX7_pushBody_66 : decode cX7_pushBody 66 = .ok (.aload_n 0, 1) := by decide +kernel
theorem dX7_pushBody_67 : decode cX7_pushBody 67 = .ok (.getfield 125, 3) := by decide +kernel
theorem dX7_pushBody_70 : decode cX7_pushBody 70 = .ok (.aload_n 0, 1) := by decide +kernel
theorem dX7_pushBody_71 : decode cX7_pushBody 71 = .ok (.getfield 213, 3) := by decide +kernel
theorem dX7_pushBody_74 : decode cX7_pushBody 74 = .ok (.iconst 0, 1) := by decide +kernel
theorem dX7_pushBody_75 : decode cX7_pushBody 75 = .ok (.bastore, 1) := by decide +kernel
theorem dX7_pushBody_76 : decode cX7_pushBody 76 = .ok (.aload_n 0, 1) := by decide +kernel
theorem dX7_pushBody_77 : decode cX7_pushBody 77 = .ok (.dup, 1) := by decide +kernel
theorem dX7_pushBody_78 : decode cX7_pushBody 78 = .ok (.getfield 213, 3) := by decide +kernel
theorem dX7_pushBody_81 : decode cX7_pushBody 81 = .ok (.iconst 1, 1) := by decide +kernel
theorem dX7_pushBody_82 : decode cX7_pushBody 82 = .ok (.iadd, 1) := by decide +kernel
theorem dX7_pushBody_83 : decode cX7_pushBody 83 = .ok (.putfield 213, 3) := by decide +kernel
theorem dX7_pushBody_86 : decode cX7_pushBody 86 = .ok (.aload_n 0, 1) := by decide +kernel
theorem dX7_pushBody_87 : decode cX7_pushBody 87 = .ok (.dup, 1) := by decide +kernel
theorem dX7_pushBody_88 : decode cX7_pushBody 88 = .ok (.getfield 210, 3) := by decide +kernel
theorem dX7_pushBody_91 : decode cX7_pushBody 91 = .ok (.iconst 1, 1) := by decide +kernel
theorem dX7_pushBody_92 : decode cX7_pushBody 92 = .ok (.iadd, 1) := by decide +kernel
theorem dX7_pushBody_93 : decode cX7_pushBody 93 = .ok (.putfield 210, 3) := by decide +kernel
theorem dX7_pushBody_96 : decode cX7_pushBody 96 = .ok (.aload_n 0, 1) := by decide +kernel
theorem dX7_pushBody_97 : decode cX7_pushBody 97 = .ok (.aload_n 0, 1) := by decide +kernel
theorem dX7_pushBody_98 : decode cX7_pushBody 98 = .ok (.getfield 216, 3) := by decide +kernel
theorem dX7_pushBody_101 : decode cX7_pushBody 101 = .ok (.aload_n 0, 1) := by decide +kernel
theorem dX7_pushBody_102 : decode cX7_pushBody 102 = .ok (.getfield 210, 3) := by decide +kernel
theorem dX7_pushBody_105 : decode cX7_pushBody 105 = .ok (.if_icmp .le 10, 3) := by decide +kernel
theorem dX7_pushBody_108 : decode cX7_pushBody 108 = .ok (.aload_n 0, 1) := by decide +kernel
theorem dX7_pushBody_109 : decode cX7_pushBody 109 = .ok (.getfield 216, 3) := by decide +kernel
theorem dX7_pushBody_112 : decode cX7_pushBody 112 = .ok (.goto 7, 3) := by decide +kernel
theorem dX7_pushBody_115 : decode cX7_pushBody 115 = .ok (.aload_n 0, 1) := by decide +kernel
theorem dX7_pushBody_116 : decode cX7_pushBody 116 = .ok (.getfield 210, 3) := by decide +kernel
theorem dX7_pushBody_119 : decode cX7_pushBody 119 = .ok (.putfield 216, 3) := by decide +kernel
theorem dX7_pushBody_122 : decode cX7_pushBody 122 = .ok (.return_, 1) := by decide +kernel
theorem dX7_start_0 : decode cX7_start 0 = .ok (.aload_n 0, 1) := by decide +kernel
theorem dX7_start_1 : decode cX7_start 1 = .ok (.getfield 83, 3) := by decide +kernel
theorem dX7_start_4 : decode cX7_start 4 = .ok (.bipush 40, 2) := by decide +kernel
theorem dX7_start_6 : decode cX7_start 6 = .ok (.aload_n 0, 1) := by decide +kernel
theorem dX7_start_7 : decode cX7_start 7 = .ok (.getfield 191, 3) := by decide +kernel
theorem dX7_start_10 : decode cX7_start 10 = .ok (.imul, 1) := by decide +kernel
theorem dX7_start_11 : decode cX7_start 11 = .ok (.iload_n 1, 1) := by decide +kernel
theorem dX7_start_12 : decode cX7_start 12 = .ok (.iadd, 1) := by decide +kernel
theorem dX7_start_13 : decode cX7_start 13 = .ok (.iaload, 1) := by decide +kernel
theorem dX7_start_14 : decode cX7_start 14 = .ok (.istore_n 2, 1) := by decide +kernel
theorem dX7_start_15 : decode cX7_start 15 = .ok (.iload_n 2, 1) := by decide +kernel
theorem dX7_start_16 : decode cX7_start 16 = .ok (.iconst 3, 1) := by decide +kernel
theorem dX7_start_17 : decode cX7_start 17 = .ok (.if_icmp .ne 13, 3) := by decide +kernel
theorem dX7_start_20 : decode cX7_start 20 = .ok (.aload_n 0, 1) := by decide +kernel
theorem dX7_start_21 : decode cX7_start 21 = .ok (.bipush 21, 2) := by decide +kernel
theorem dX7_start_23 : decode cX7_start 23 = .ok (.iload_n 1, 1) := by decide +kernel
theorem dX7_start_24 : decode cX7_start 24 = .ok (.invokevirtual 219, 3) := by decide +kernel
theorem dX7_start_27 : decode cX7_start 27 = .ok (.goto 62, 3) := by decide +kernel
theorem dX7_start_30 : decode cX7_start 30 = .ok (.iload_n 2, 1) := by decide +kernel
theorem dX7_start_31 : decode cX7_start 31 = .ok (.ifCond .ne 58, 3) := by decide +kernel
theorem dX7_start_34 : decode cX7_start 34 = .ok (.aload_n 0, 1) := by decide +kernel
theorem dX7_start_35 : decode cX7_start 35 = .ok (.getfield 83, 3) := by decide +kernel
theorem dX7_start_38 : decode cX7_start 38 = .ok (.bipush 40, 2) := by decide +kernel
theorem dX7_start_40 : decode cX7_start 40 = .ok (.aload_n 0, 1) := by decide +kernel
theorem dX7_start_41 : decode cX7_start 41 = .ok (.getfield 191, 3) := by decide +kernel
theorem dX7_start_44 : decode cX7_start 44 = .ok (.imul, 1) := by decide +kernel
theorem dX7_start_45 : decode cX7_start 45 = .ok (.iload_n 1, 1) := by decide +kernel
theorem dX7_start_46 : decode cX7_start 46 = .ok (.iadd, 1) := by decide +kernel
theorem dX7_start_47 : decode cX7_start 47 = .ok (.iconst 1, 1) := by decide +kernel
theorem dX7_start_48 : decode cX7_start 48 = .ok (.iastore, 1) := by decide +kernel
theorem dX7_start_49 : decode cX7_start 49 = .ok (.aload_n 0, 1) := by decide +kernel
theorem dX7_start_50 : decode cX7_start 50 = .ok (.getfield 110, 3) := by decide +kernel
theorem dX7_start_53 : decode cX7_start 53 = .ok (.aload_n 0, 1) := by decide +kernel
theorem dX7_start_54 : decode cX7_start 54 = .ok (.getfield 213, 3) := by decide +kernel
theorem dX7_start_57 : decode cX7_start 57 = .ok (.iconst 1, 1) := by decide +kernel
theorem dX7_start_58 : decode cX7_start 58 = .ok (.bastore, 1) := by decide +kernel
theorem dX7_start_59 : decode cX7_start 59 = .ok (.aload_n 0, 1) := by decide +kernel
theorem dX7_start_60 : decode cX7_start 60 = .ok (.getfield 113, 3) := by decide +kernel
theorem dX7_start_63 : decode cX7_start 63 = .ok (.aload_n 0, 1) := by decide +kernel
theorem dX7_start_64 : decode cX7_start 64 = .ok (.getfield 213, 3) := by decide +kernel
theorem dX7_start_67 : decode cX7_start 67 = .ok (.iload_n 1, 1) := by decide +kernel
theorem dX7_start_68 : decode cX7_start 68 = .ok (.iastore, 1) := by decide +kernel
theorem dX7_start_69 : decode cX7_start 69 = .ok (.aload_n 0, 1) := by decide +kernel
theorem dX7_start_70 : decode cX7_start 70 = .ok (.getfield 116, 3) := by decide +kernel
theorem dX7_start_73 : decode cX7_start 73 = .ok (.aload_n 0, 1) := by decide +kernel
theorem dX7_start_74 : decode cX7_start 74 = .ok (.getfield 213, 3) := by decide +kernel
theorem dX7_start_77 : decode cX7_start 77 = .ok (.iconst 0, 1) := by decide +kernel
theorem dX7_start_78 : decode cX7_start 78 = .ok (.iastore, 1) := by decide +kernel
theorem dX7_start_79 : decode cX7_start 79 = .ok (.aload_n 0, 1) := by decide +kernel
theorem dX7_start_80 : decode cX7_start 80 = .ok (.dup, 1) := by decide +kernel
theorem dX7_start_81 : decode cX7_start 81 = .ok (.getfield 213, 3) := by decide +kernel
theorem dX7_start_84 : decode cX7_start 84 = .ok (.iconst 1, 1) := by decide +kernel
theorem dX7_start_85 : decode cX7_start 85 = .ok (.iadd, 1) := by decide +kernel
theorem dX7_start_86 : decode cX7_start 86 = .ok (.putfield 213, 3) := by decide +kernel
theorem dX7_start_89 : decode cX7_start 89 = .ok (.return_, 1) := by decide +kernel
theorem dX7_goOnStart_0 : decode cX7_goOnStart 0 = .ok (.aload_n 0, 1) := by decide +kernel
theorem dX7_goOnStart_1 : decode cX7_goOnStart 1 = .ok (.getfield 213, 3) := by decide +kernel
theorem dX7_goOnStart_4 : decode cX7_goOnStart 4 = .ok (.iconst 1, 1) := by decide +kernel
theorem dX7_goOnStart_5 : decode cX7_goOnStart 5 = .ok (.isub, 1) := by decide +kernel
theorem dX7_goOnStart_6 : decode cX7_goOnStart 6 = .ok (.istore_n 1, 1) := by decide +kernel
theorem dX7_goOnStart_7 : decode cX7_goOnStart 7 = .ok (.aload_n 0, 1) := by decide +kernel
theorem dX7_goOnStart_8 : decode cX7_goOnStart 8 = .ok (.getfield 113, 3) := by decide +kernel
theorem dX7_goOnStart_11 : decode cX7_goOnStart 11 = .ok (.iload_n 1, 1) := by decide +kernel
theorem dX7_goOnStart_12 : decode cX7_goOnStart 12 = .ok (.iaload, 1) := by decide +kernel
theorem dX7_goOnStart_13 : decode cX7_goOnStart 13 = .ok (.istore_n 2, 1) := by decide +kernel
theorem dX7_goOnStart_14 : decode cX7_goOnStart 14 = .ok (.aload_n 0, 1) := by decide +kernel
theorem dX7_goOnStart_15 : decode cX7_goOnStart 15 = .ok (.iload_n 2, 1) := by decide +kernel
theorem dX7_goOnStart_16 : decode cX7_goOnStart 16 = .ok (.invokevirtual 173, 3) := by decide +kernel
theorem dX7_goOnStart_19 : decode cX7_goOnStart 19 = .ok (.aload_n 0, 1) := by decide +kernel
theorem dX7_goOnStart_20 : decode cX7_goOnStart 20 = .ok (.getfield 116, 3) := by decide +kernel
theorem dX7_goOnStart_23 : decode cX7_goOnStart 23 = .ok (.iload_n 1, 1) := by decide +kernel
theorem dX7_goOnStart_24 : decode cX7_goOnStart 24 = .ok (.iaload, 1) := by decide +kernel
theorem dX7_goOnStart_25 : decode cX7_goOnStart 25 = .ok (.istore_n 3, 1) := by decide +kernel
theorem dX7_goOnStart_26 : decode cX7_goOnStart 26 = .ok (.aload_n 0, 1) := by decide +kernel
theorem dX7_goOnStart_27 : decode cX7_goOnStart 27 = .ok (.getfield 116, 3) := by decide +kernel
theorem dX7_goOnStart_30 : decode cX7_goOnStart 30 = .ok (.iload_n 1, 1) := by decide +kernel
theorem dX7_goOnStart_31 : decode cX7_goOnStart 31 = .ok (.dup2, 1) := by decide +kernel
theorem dX7_goOnStart_32 : decode cX7_goOnStart 32 = .ok (.iaload, 1) := by decide +kernel
theorem dX7_goOnStart_33 : decode cX7_goOnStart 33 = .ok (.iconst 1, 1) := by decide +kernel
theorem dX7_goOnStart_34 : decode cX7_goOnStart 34 = .ok (.iadd, 1) := by decide +kernel
theorem dX7_goOnStart_35 : decode cX7_goOnStart 35 = .ok (.iastore, 1) := by decide +kernel
theorem dX7_goOnStart_36 : decode cX7_goOnStart 36 = .ok (.iload_n 3, 1) := by decide +kernel
theorem dX7_goOnStart_37 : decode cX7_goOnStart 37 = .ok (.aload_n 0, 1) := by decide +kernel
theorem dX7_goOnStart_38 : decode cX7_goOnStart 38 = .ok (.getfield 164, 3) := by decide +kernel
theorem dX7_goOnStart_41 : decode cX7_goOnStart 41 = .ok (.if_icmp .ge 16, 3) := by decide +kernel
theorem dX7_goOnStart_44 : decode cX7_goOnStart 44 = .ok (.aload_n 0, 1) := by decide +kernel
theorem dX7_goOnStart_45 : decode cX7_goOnStart 45 = .ok (.aload_n 0, 1) := by decide +kernel
theorem dX7_goOnStart_46 : decode cX7_goOnStart 46 = .ok (.getfield 65, 3) := by decide +kernel
theorem dX7_goOnStart_49 : decode cX7_goOnStart 49 = .ok (.iload_n 3, 1) := by decide +kernel
theorem dX7_goOnStart_50 : decode cX7_goOnStart 50 = .ok (.iaload, 1) := by decide +kernel
theorem dX7_goOnStart_51 : decode cX7_goOnStart 51 = .ok (.invokevirtual 222, 3) := by decide +kernel
theorem dX7_goOnStart_54 : decode cX7_goOnStart 54 = .ok (.goto 107, 3) := by decide +kernel
theorem dX7_goOnStart_57 : decode cX7_goOnStart 57 = .ok (.iload_n 3, 1) := by decide +kernel
theorem dX7_goOnStart_58 : decode cX7_goOnStart 58 = .ok (.aload_n 0, 1) := by decide +kernel
theorem dX7_goOnStart_59 : decode cX7_goOnStart 59 = .ok (.getfield 164, 3) := by decide +kernel
theorem dX7_goOnStart_62 : decode cX7_goOnStart 62 = .ok (.if_icmp .ne 74, 3) := by decide +kernel
theorem dX7_goOnStart_65 : decode cX7_goOnStart 65 = .ok (.aload_n 0, 1) := by decide +kernel
theorem dX7_goOnStart_66 : decode cX7_goOnStart 66 = .ok (.getfield 210, 3) := by decide +kernel
theorem dX7_goOnStart_69 : decode cX7_goOnStart 69 = .ok (.bipush 30, 2) := by decide +kernel
theorem dX7_goOnStart_71 : decode cX7_goOnStart 71 = .ok (.if_icmp .ne 9, 3) := by decide +kernel
theorem dX7_goOnStart_74 : decode cX7_goOnStart 74 = .ok (.aload_n 0, 1) := by decide +kernel
theorem dX7_goOnStart_75 : decode cX7_goOnStart 75 = .ok (.iconst 1, 1) := by decide +kernel
theorem dX7_goOnStart_76 : decode cX7_goOnStart 76 = .ok (.putfield 197, 3) := by decide +kernel
theorem dX7_goOnStart_79 : decode cX7_goOnStart 79 = .ok (.return_, 1) := by decide +kernel
theorem dX7_goOnStart_80 : decode cX7_goOnStart 80 = .ok (.aload_n 0, 1) := by decide +kernel
theorem dX7_goOnStart_81 : decode cX7_goOnStart 81 = .ok (.getfield 98, 3) := by decide +kernel
theorem dX7_goOnStart_84 : decode cX7_goOnStart 84 = .ok (.bipush 40, 2) := by decide +kernel
theorem dX7_goOnStart_86 : decode cX7_goOnStart 86 = .ok (.aload_n 0, 1) := by decide +kernel
theorem dX7_goOnStart_87 : decode cX7_goOnStart 87 = .ok (.getfield 191, 3) := by decide +kernel
theorem dX7_goOnStart_90 : decode cX7_goOnStart 90 = .ok (.imul, 1) := by decide +kernel
theorem dX7_goOnStart_91 : decode cX7_goOnStart 91 = .ok (.aload_n 0, 1) := by decide +kernel
theorem dX7_goOnStart_92 : decode cX7_goOnStart 92 = .ok (.getfield 95, 3) := by decide +kernel
theorem dX7_goOnStart_95 : decode cX7_goOnStart 95 = .ok (.aload_n 0, 1) := by decide +kernel
theorem dX7_goOnStart_96 : decode cX7_goOnStart 96 = .ok (.getfield 191, 3) := by decide +kernel
theorem dX7_goOnStart_99 : decode cX7_goOnStart 99 = .ok (.iaload, 1) := by decide +kernel
theorem dX7_goOnStart_100 : decode cX7_goOnStart 100 = .ok (.iadd, 1) := by decide +kernel
theorem dX7_goOnStart_101 : decode cX7_goOnStart 101 = .ok (.iload_n 2, 1) := by decide +kernel
theorem dX7_goOnStart_102 : decode cX7_goOnStart 102 = .ok (.iastore, 1) := by decide +kernel
theorem dX7_goOnStart_103 : decode cX7_goOnStart 103 = .ok (.aload_n 0, 1) := by decide +kernel
theorem dX7_goOnStart_104 : decode cX7_goOnStart 104 = .ok (.getfield 95, 3) := by decide +kernel
theorem dX7_goOnStart_107 : decode cX7_goOnStart 107 = .ok (.aload_n 0, 1) := by decide +kernel
theorem dX7_goOnStart_108 : decode cX7_goOnStart 108 = .ok (.getfield 191, 3) := by decide +kernel
theorem dX7_goOnStart_111 : decode cX7_goOnStart 111 = .ok (.dup2, 1) := by decide +kernel
theorem dX7_goOnStart_112 : decode cX7_goOnStart 112 = .ok (.iaload, 1) := by decide +kernel
theorem dX7_goOnStart_113 : decode cX7_goOnStart 113 = .ok (.iconst 1, 1) := by decide +kernel
theorem dX7_goOnStart_114 : decode cX7_goOnStart 114 = .ok (.iadd, 1) := by decide +kernel
theorem dX7_goOnStart_115 : decode cX7_goOnStart 115 = .ok (.iastore, 1) := by decide +kernel
theorem dX7_goOnStart_116 : decode cX7_goOnStart 116 = .ok (.aload_n 0, 1) := by decide +kernel
theorem dX7_goOnStart_117 : decode cX7_goOnStart 117 = .ok (.dup, 1) := by decide +kernel
theorem dX7_goOnStart_118 : decode cX7_goOnStart 118 = .ok (.getfield 225, 3) := by decide +kernel
theorem dX7_goOnStart_121 : decode cX7_goOnStart 121 = .ok (.iconst 1, 1) := by decide +kernel
theorem dX7_goOnStart_122 : decode cX7_goOnStart 122 = .ok (.iadd, 1) := by decide +kernel
theorem dX7_goOnStart_123 : decode cX7_goOnStart 123 = .ok (.putfield 225, 3) := by decide +kernel
theorem dX7_goOnStart_126 : decode cX7_goOnStart 126 = .ok (.aload_n 0, 1) := by decide +kernel
theorem dX7_goOnStart_127 : decode cX7_goOnStart 127 = .ok (.iconst 5, 1) := by decide +kernel
theorem dX7_goOnStart_128 : decode cX7_goOnStart 128 = .ok (.iload_n 2, 1) := by decide +kernel
theorem dX7_goOnStart_129 : decode cX7_goOnStart 129 = .ok (.imul, 1) := by decide +kernel
theorem dX7_goOnStart_130 : decode cX7_goOnStart 130 = .ok (.invokevirtual 228, 3) := by decide +kernel
theorem dX7_goOnStart_133 : decode cX7_goOnStart 133 = .ok (.goto 28, 3) := by decide +kernel
theorem dX7_goOnStart_136 : decode cX7_goOnStart 136 = .ok (.aload_n 0, 1) := by decide +kernel
theorem dX7_goOnStart_137 : decode cX7_goOnStart 137 = .ok (.getfield 83, 3) := by decide +kernel
theorem dX7_goOnStart_140 : decode cX7_goOnStart 140 = .ok (.bipush 40, 2) := by decide +kernel
theorem dX7_goOnStart_142 : decode cX7_goOnStart 142 = .ok (.aload_n 0, 1) := by decide +kernel
theorem dX7_goOnStart_143 : decode cX7_goOnStart 143 = .ok (.getfield 191, 3) := by decide +kernel
theorem dX7_goOnStart_146 : decode cX7_goOnStart 146 = .ok (.imul, 1) := by decide +kernel
theorem dX7_goOnStart_147 : decode cX7_goOnStart 147 = .ok (.iload_n 2, 1) := by decide +kernel
theorem dX7_goOnStart_148 : decode cX7_goOnStart 148 = .ok (.iadd, 1) := by decide +kernel
theorem dX7_goOnStart_149 : decode cX7_goOnStart 149 = .ok (.iconst 2, 1) := by decide +kernel
theorem dX7_goOnStart_150 : decode cX7_goOnStart 150 = .ok (.iastore, 1) := by decide +kernel
theorem dX7_goOnStart_151 : decode cX7_goOnStart 151 = .ok (.aload_n 0, 1) := by decide +kernel
theorem dX7_goOnStart_152 : decode cX7_goOnStart 152 = .ok (.dup, 1) := by decide +kernel
theorem dX7_goOnStart_153 : decode cX7_goOnStart 153 = .ok (.getfield 213, 3) := by decide +kernel
theorem dX7_goOnStart_156 : decode cX7_goOnStart 156 = .ok (.iconst 1, 1) := by decide +kernel
theorem dX7_goOnStart_157 : decode cX7_goOnStart 157 = .ok (.isub, 1) := by decide +kernel
theorem dX7_goOnStart_158 : decode cX7_goOnStart 158 = .ok (.putfield 213, 3) := by decide +kernel
theorem dX7_goOnStart_161 : decode cX7_goOnStart 161 = .ok (.return_, 1) := by decide +kernel
theorem dX7_kindAt_0 : decode cX7_kindAt 0 = .ok (.aload_n 0, 1) := by decide +kernel
theorem dX7_kindAt_1 : decode cX7_kindAt 1 = .ok (.getfield 113, 3) := by decide +kernel
theorem dX7_kindAt_4 : decode cX7_kindAt 4 = .ok (.iload_n 1, 1) := by decide +kernel
theorem dX7_kindAt_5 : decode cX7_kindAt 5 = .ok (.iaload, 1) := by decide +kernel
theorem dX7_kindAt_6 : decode cX7_kindAt 6 = .ok (.ifCond .ge 10, 3) := by decide +kernel
theorem dX7_kindAt_9 : decode cX7_kindAt 9 = .ok (.aload_n 0, 1) := by decide +kernel
theorem dX7_kindAt_10 : decode cX7_kindAt 10 = .ok (.getfield 231, 3) := by decide +kernel
theorem dX7_kindAt_13 : decode cX7_kindAt 13 = .ok (.goto 24, 3) := by decide +kernel
theorem dX7_kindAt_16 : decode cX7_kindAt 16 = .ok (.aload_n 0, 1) := by decide +kernel
theorem dX7_kindAt_17 : decode cX7_kindAt 17 = .ok (.getfield 47, 3) := by decide +kernel
theorem dX7_kindAt_20 : decode cX7_kindAt 20 = .ok (.bipush 12, 2) := by decide +kernel
theorem dX7_kindAt_22 : decode cX7_kindAt 22 = .ok (.aload_n 0, 1) := by decide +kernel
theorem dX7_kindAt_23 : decode cX7_kindAt 23 = .ok (.getfield 113, 3) := by decide +kernel
theorem dX7_kindAt_26 : decode cX7_kindAt 26 = .ok (.iload_n 1, 1) := by decide +kernel
theorem dX7_kindAt_27 : decode cX7_kindAt 27 = .ok (.iaload, 1) := by decide +kernel
theorem dX7_kindAt_28 : decode cX7_kindAt 28 = .ok (.imul, 1) := by decide +kernel
theorem dX7_kindAt_29 : decode cX7_kindAt 29 = .ok (.aload_n 0, 1) := by decide +kernel
theorem dX7_kindAt_30 : decode cX7_kindAt 30 = .ok (.getfield 116, 3) := by decide +kernel
theorem dX7_kindAt_33 : decode cX7_kindAt 33 = .ok (.iload_n 1, 1) := by decide +kernel
theorem dX7_kindAt_34 : decode cX7_kindAt 34 = .ok (.iaload, 1) := by decide +kernel
theorem dX7_kindAt_35 : decode cX7_kindAt 35 = .ok (.iadd, 1) := by decide +kernel
theorem dX7_kindAt_36 : decode cX7_kindAt 36 = .ok (.iaload, 1) := by decide +kernel
theorem dX7_kindAt_37 : decode cX7_kindAt 37 = .ok (.ireturn, 1) := by decide +kernel
theorem dX7_typeAt_0 : decode cX7_typeAt 0 = .ok (.aload_n 0, 1) := by decide +kernel
theorem dX7_typeAt_1 : decode cX7_typeAt 1 = .ok (.getfield 113, 3) := by decide +kernel
theorem dX7_typeAt_4 : decode cX7_typeAt 4 = .ok (.iload_n 1, 1) := by decide +kernel
theorem dX7_typeAt_5 : decode cX7_typeAt 5 = .ok (.iaload, 1) := by decide +kernel
theorem dX7_typeAt_6 : decode cX7_typeAt 6 = .ok (.ifCond .ge 10, 3) := by decide +kernel
theorem dX7_typeAt_9 : decode cX7_typeAt 9 = .ok (.aload_n 0, 1) := by decide +kernel
theorem dX7_typeAt_10 : decode cX7_typeAt 10 = .ok (.getfield 234, 3) := by decide +kernel
theorem dX7_typeAt_13 : decode cX7_typeAt 13 = .ok (.goto 24, 3) := by decide +kernel
theorem dX7_typeAt_16 : decode cX7_typeAt 16 = .ok (.aload_n 0, 1) := by decide +kernel
theorem dX7_typeAt_17 : decode cX7_typeAt 17 = .ok (.getfield 50, 3) := by decide +kernel
theorem dX7_typeAt_20 : decode cX7_typeAt 20 = .ok (.bipush 12, 2) := by decide +kernel
theorem dX7_typeAt_22 : decode cX7_typeAt 22 = .ok (.aload_n 0, 1) := by decide +kernel
theorem dX7_typeAt_23 : decode cX7_typeAt 23 = .ok (.getfield 113, 3) := by decide +kernel
theorem dX7_typeAt_26 : decode cX7_typeAt 26 = .ok (.iload_n 1, 1) := by decide +kernel
theorem dX7_typeAt_27 : decode cX7_typeAt 27 = .ok (.iaload, 1) := by decide +kernel
theorem dX7_typeAt_28 : decode cX7_typeAt 28 = .ok (.imul, 1) := by decide +kernel
theorem dX7_typeAt_29 : decode cX7_typeAt 29 = .ok (.aload_n 0, 1) := by decide +kernel
theorem dX7_typeAt_30 : decode cX7_typeAt 30 = .ok (.getfield 116, 3) := by decide +kernel
theorem dX7_typeAt_33 : decode cX7_typeAt 33 = .ok (.iload_n 1, 1) := by decide +kernel
theorem dX7_typeAt_34 : decode cX7_typeAt 34 = .ok (.iaload, 1) := by decide +kernel
theorem dX7_typeAt_35 : decode cX7_typeAt 35 = .ok (.iadd, 1) := by decide +kernel
theorem dX7_typeAt_36 : decode cX7_typeAt 36 = .ok (.iaload, 1) := by decide +kernel
theorem dX7_typeAt_37 : decode cX7_typeAt 37 = .ok (.ireturn, 1) := by decide +kernel
theorem dX7_nameAt_0 : decode cX7_nameAt 0 = .ok (.aload_n 0, 1) := by decide +kernel
theorem dX7_nameAt_1 : decode cX7_nameAt 1 = .ok (.getfield 113, 3) := by decide +kernel
theorem dX7_nameAt_4 : decode cX7_nameAt 4 = .ok (.iload_n 1, 1) := by decide +kernel
theorem dX7_nameAt_5 : decode cX7_nameAt 5 = .ok (.iaload, 1) := by decide +kernel
theorem dX7_nameAt_6 : decode cX7_nameAt 6 = .ok (.ifCond .ge 10, 3) := by decide +kernel
theorem dX7_nameAt_9 : decode cX7_nameAt 9 = .ok (.aload_n 0, 1) := by decide +kernel
theorem dX7_nameAt_10 : decode cX7_nameAt 10 = .ok (.getfield 237, 3) := by decide +kernel
theorem dX7_nameAt_13 : decode cX7_nameAt 13 = .ok (.goto 24, 3) := by decide +kernel
theorem dX7_nameAt_16 : decode cX7_nameAt 16 = .ok (.aload_n 0, 1) := by decide +kernel
theorem dX7_nameAt_17 : decode cX7_nameAt 17 = .ok (.getfield 53, 3) := by decide +kernel
theorem dX7_nameAt_20 : decode cX7_nameAt 20 = .ok (.bipush 12, 2) := by decide +kernel
theorem dX7_nameAt_22 : decode cX7_nameAt 22 = .ok (.aload_n 0, 1) := by decide +kernel
theorem dX7_nameAt_23 : decode cX7_nameAt 23 = .ok (.getfield 113, 3) := by decide +kernel
theorem dX7_nameAt_26 : decode cX7_nameAt 26 = .ok (.iload_n 1, 1) := by decide +kernel
theorem dX7_nameAt_27 : decode cX7_nameAt 27 = .ok (.iaload, 1) := by decide +kernel
theorem dX7_nameAt_28 : decode cX7_nameAt 28 = .ok (.imul, 1) := by decide +kernel
theorem dX7_nameAt_29 : decode cX7_nameAt 29 = .ok (.aload_n 0, 1) := by decide +kernel
theorem dX7_nameAt_30 : decode cX7_nameAt 30 = .ok (.getfield 116, 3) := by decide +kernel
theorem dX7_nameAt_33 : decode cX7_nameAt 33 = .ok (.iload_n 1, 1) := by decide +kernel
theorem dX7_nameAt_34 : decode cX7_nameAt 34 = .ok (.iaload, 1) := by decide +kernel
theorem dX7_nameAt_35 : decode cX7_nameAt 35 = .ok (.iadd, 1) := by decide +kernel
theorem dX7_nameAt_36 : decode cX7_nameAt 36 = .ok (.iaload, 1) := by decide +kernel
theorem dX7_nameAt_37 : decode cX7_nameAt 37 = .ok (.ireturn, 1) := by decide +kernel
theorem dX7_valueAt_0 : decode cX7_valueAt 0 = .ok (.aload_n 0, 1) := by decide +kernel
theorem dX7_valueAt_1 : decode cX7_valueAt 1 = .ok (.getfield 113, 3) := by decide +kernel
theorem dX7_valueAt_4 : decode cX7_valueAt 4 = .ok (.iload_n 1, 1) := by decide +kernel
theorem dX7_valueAt_5 : decode cX7_valueAt 5 = .ok (.iaload, 1) := by decide +kernel
theorem dX7_valueAt_6 : decode cX7_valueAt 6 = .ok (.ifCond .ge 10, 3) := by decide +kernel
theorem dX7_valueAt_9 : decode cX7_valueAt 9 = .ok (.aload_n 0, 1) := by decide +kernel
theorem dX7_valueAt_10 : decode cX7_valueAt 10 = .ok (.getfield 240, 3) := by decide +kernel
theorem dX7_valueAt_13 : decode cX7_valueAt 13 = .ok (.goto 24, 3) := by decide +kernel
theorem dX7_valueAt_16 : decode cX7_valueAt 16 = .ok (.aload_n 0, 1) := by decide +kernel
theorem dX7_valueAt_17 : decode cX7_valueAt 17 = .ok (.getfield 56, 3) := by decide +kernel
theorem dX7_valueAt_20 : decode cX7_valueAt 20 = .ok (.bipush 12, 2) := by decide +kernel
theorem dX7_valueAt_22 : decode cX7_valueAt 22 = .ok (.aload_n 0, 1) := by decide +kernel
theorem dX7_valueAt_23 : decode cX7_valueAt 23 = .ok (.getfield 113, 3) := by decide +kernel
theorem dX7_valueAt_26 : decode cX7_valueAt 26 = .ok (.iload_n 1, 1) := by decide +kernel
theorem dX7_valueAt_27 : decode cX7_valueAt 27 = .ok (.iaload, 1) := by decide +kernel
theorem dX7_valueAt_28 : decode cX7_valueAt 28 = .ok (.imul, 1) := by decide +kernel
theorem dX7_valueAt_29 : decode cX7_valueAt 29 = .ok (.aload_n 0, 1) := by decide +kernel
theorem dX7_valueAt_30 : decode cX7_valueAt 30 = .ok (.getfield 116, 3) := by decide +kernel
theorem dX7_valueAt_33 : decode cX7_valueAt 33 = .ok (.iload_n 1, 1) := by decide +kernel
theorem dX7_valueAt_34 : decode cX7_valueAt 34 = .ok (.iaload, 1) := by decide +kernel
theorem dX7_valueAt_35 : decode cX7_valueAt 35 = .ok (.iadd, 1) := by decide +kernel
theorem dX7_valueAt_36 : decode cX7_valueAt 36 = .ok (.iaload, 1) := by decide +kernel
theorem dX7_valueAt_37 : decode cX7_valueAt 37 = .ok (.ireturn, 1) := by decide +kernel
theorem dX7_sizeOf_0 : decode cX7_sizeOf 0 = .ok (.aload_n 0, 1) := by decide +kernel
theorem dX7_sizeOf_1 : decode cX7_sizeOf 1 = .ok (.getfield 113, 3) := by decide +kernel
theorem dX7_sizeOf_4 : decode cX7_sizeOf 4 = .ok (.iload_n 1, 1) := by decide +kernel
theorem dX7_sizeOf_5 : decode cX7_sizeOf 5 = .ok (.iaload, 1) := by decide +kernel
theorem dX7_sizeOf_6 : decode cX7_sizeOf 6 = .ok (.ifCond .ge 7, 3) := by decide +kernel
theorem dX7_sizeOf_9 : decode cX7_sizeOf 9 = .ok (.iconst 1, 1) := by decide +kernel
theorem dX7_sizeOf_10 : decode cX7_sizeOf 10 = .ok (.goto 14, 3) := by decide +kernel
theorem dX7_sizeOf_13 : decode cX7_sizeOf 13 = .ok (.aload_n 0, 1) := by decide +kernel
theorem dX7_sizeOf_14 : decode cX7_sizeOf 14 = .ok (.getfield 44, 3) := by decide +kernel
theorem dX7_sizeOf_17 : decode cX7_sizeOf 17 = .ok (.aload_n 0, 1) := by decide +kernel
theorem dX7_sizeOf_18 : decode cX7_sizeOf 18 = .ok (.getfield 113, 3) := by decide +kernel
theorem dX7_sizeOf_21 : decode cX7_sizeOf 21 = .ok (.iload_n 1, 1) := by decide +kernel
theorem dX7_sizeOf_22 : decode cX7_sizeOf 22 = .ok (.iaload, 1) := by decide +kernel
theorem dX7_sizeOf_23 : decode cX7_sizeOf 23 = .ok (.iaload, 1) := by decide +kernel
theorem dX7_sizeOf_24 : decode cX7_sizeOf 24 = .ok (.ireturn, 1) := by decide +kernel
theorem dX7_did_0 : decode cX7_did 0 = .ok (.aload_n 0, 1) := by decide +kernel
theorem dX7_did_1 : decode cX7_did 1 = .ok (.getfield 116, 3) := by decide +kernel
theorem dX7_did_4 : decode cX7_did 4 = .ok (.iload_n 1, 1) := by decide +kernel
theorem dX7_did_5 : decode cX7_did 5 = .ok (.dup2, 1) := by decide +kernel
theorem dX7_did_6 : decode cX7_did 6 = .ok (.iaload, 1) := by decide +kernel
theorem dX7_did_7 : decode cX7_did 7 = .ok (.iconst 1, 1) := by decide +kernel
theorem dX7_did_8 : decode cX7_did 8 = .ok (.iadd, 1) := by decide +kernel
theorem dX7_did_9 : decode cX7_did 9 = .ok (.iastore, 1) := by decide +kernel
theorem dX7_did_10 : decode cX7_did 10 = .ok (.aload_n 0, 1) := by decide +kernel
theorem dX7_did_11 : decode cX7_did 11 = .ok (.getfield 119, 3) := by decide +kernel
theorem dX7_did_14 : decode cX7_did 14 = .ok (.iload_n 1, 1) := by decide +kernel
theorem dX7_did_15 : decode cX7_did 15 = .ok (.bipush (-6), 2) := by decide +kernel
theorem dX7_did_17 : decode cX7_did 17 = .ok (.iastore, 1) := by decide +kernel
theorem dX7_did_18 : decode cX7_did 18 = .ok (.aload_n 0, 1) := by decide +kernel
theorem dX7_did_19 : decode cX7_did 19 = .ok (.getfield 122, 3) := by decide +kernel
theorem dX7_did_22 : decode cX7_did 22 = .ok (.iload_n 1, 1) := by decide +kernel
theorem dX7_did_23 : decode cX7_did 23 = .ok (.iconst 0, 1) := by decide +kernel
theorem dX7_did_24 : decode cX7_did 24 = .ok (.bastore, 1) := by decide +kernel
theorem dX7_did_25 : decode cX7_did 25 = .ok (.return_, 1) := by decide +kernel
theorem dX7_goOnBody_0 : decode cX7_goOnBody 0 = .ok (.aload_n 0, 1) := by decide +kernel
theorem dX7_goOnBody_1 : decode cX7_goOnBody 1 = .ok (.getfield 213, 3) := by decide +kernel
theorem dX7_goOnBody_4 : decode cX7_goOnBody 4 = .ok (.iconst 1, 1) := by decide +kernel
theorem dX7_goOnBody_5 : decode cX7_goOnBody 5 = .ok (.isub, 1) := by decide +kernel
theorem dX7_goOnBody_6 : decode cX7_goOnBody 6 = .ok (.istore_n 1, 1) := by decide +kernel
theorem dX7_goOnBody_7 : decode cX7_goOnBody 7 = .ok (.aload_n 0, 1) := by decide +kernel
theorem dX7_goOnBody_8 : decode cX7_goOnBody 8 = .ok (.getfield 122, 3) := by decide +kernel
theorem dX7_goOnBody_11 : decode cX7_goOnBody 11 = .ok (.iload_n 1, 1) := by decide +kernel
theorem dX7_goOnBody_12 : decode cX7_goOnBody 12 = .ok (.baload, 1) := by decide +kernel
theorem dX7_goOnBody_13 : decode cX7_goOnBody 13 = .ok (.ifCond .eq 9, 3) := by decide +kernel
theorem dX7_goOnBody_16 : decode cX7_goOnBody 16 = .ok (.aload_n 0, 1) := by decide +kernel
theorem dX7_goOnBody_17 : decode cX7_goOnBody 17 = .ok (.iload_n 1, 1) := by decide +kernel
theorem dX7_goOnBody_18 : decode cX7_goOnBody 18 = .ok (.invokevirtual 243, 3) := by decide +kernel
theorem dX7_goOnBody_21 : decode cX7_goOnBody 21 = .ok (.return_, 1) := by decide +kernel
theorem dX7_goOnBody_22 : decode cX7_goOnBody 22 = .ok (.aload_n 0, 1) := by decide +kernel
theorem dX7_goOnBody_23 : decode cX7_goOnBody 23 = .ok (.getfield 116, 3) := by decide +kernel
theorem dX7_goOnBody_26 : decode cX7_goOnBody 26 = .ok (.iload_n 1, 1) := by decide +kernel
theorem dX7_goOnBody_27 : decode cX7_goOnBody 27 = .ok (.iaload, 1) := by decide +kernel
theorem dX7_goOnBody_28 : decode cX7_goOnBody 28 = .ok (.aload_n 0, 1) := by decide +kernel
theorem dX7_goOnBody_29 : decode cX7_goOnBody 29 = .ok (.iload_n 1, 1) := by decide +kernel
theorem dX7_goOnBody_30 : decode cX7_goOnBody 30 = .ok (.invokevirtual 246, 3) := by decide +kernel
theorem dX7_goOnBody_33 : decode cX7_goOnBody 33 = .ok (.if_icmp .ne 37, 3) := by decide +kernel
theorem dX7_goOnBody_36 : decode cX7_goOnBody 36 = .ok (.aload_n 0, 1) := by decide +kernel
theorem dX7_goOnBody_37 : decode cX7_goOnBody 37 = .ok (.dup, 1) := by decide +kernel
theorem dX7_goOnBody_38 : decode cX7_goOnBody 38 = .ok (.getfield 210, 3) := by decide +kernel
theorem dX7_goOnBody_41 : decode cX7_goOnBody 41 = .ok (.aload_n 0, 1) := by decide +kernel
theorem dX7_goOnBody_42 : decode cX7_goOnBody 42 = .ok (.getfield 113, 3) := by decide +kernel
theorem dX7_goOnBody_45 : decode cX7_goOnBody 45 = .ok (.iload_n 1, 1) := by decide +kernel
theorem dX7_goOnBody_46 : decode cX7_goOnBody 46 = .ok (.iaload, 1) := by decide +kernel
theorem dX7_goOnBody_47 : decode cX7_goOnBody 47 = .ok (.ifCond .ge 7, 3) := by decide +kernel
theorem dX7_goOnBody_50 : decode cX7_goOnBody 50 = .ok (.iconst 0, 1) := by decide +kernel
theorem dX7_goOnBody_51 : decode cX7_goOnBody 51 = .ok (.goto 4, 3) := by decide +kernel
theorem dX7_goOnBody_54 : decode cX7_goOnBody 54 = .ok (.iconst 1, 1) := by decide +kernel
theorem dX7_goOnBody_55 : decode cX7_goOnBody 55 = .ok (.isub, 1) := by decide +kernel
theorem dX7_goOnBody_56 : decode cX7_goOnBody 56 = .ok (.putfield 210, 3) := by decide +kernel
theorem dX7_goOnBody_59 : decode cX7_goOnBody 59 = .ok (.aload_n 0, 1) := by decide +kernel
theorem dX7_goOnBody_60 : decode cX7_goOnBody 60 = .ok (.dup, 1) := by decide +kernel
theorem dX7_goOnBody_61 : decode cX7_goOnBody 61 = .ok (.getfield 213, 3) := by decide +kernel
theorem dX7_goOnBody_64 : decode cX7_goOnBody 64 = .ok (.iconst 1, 1) := by decide +kernel
theorem dX7_goOnBody_65 : decode cX7_goOnBody 65 = .ok (.isub, 1) := by decide +kernel
theorem dX7_goOnBody_66 : decode cX7_goOnBody 66 = .ok (.putfield 213, 3) := by decide +kernel
theorem dX7_goOnBody_69 : decode cX7_goOnBody 69 = .ok (.return_, 1) := by decide +kernel
theorem dX7_goOnBody_70 : decode cX7_goOnBody 70 = .ok (.aload_n 0, 1) := by decide +kernel
theorem dX7_goOnBody_71 : decode cX7_goOnBody 71 = .ok (.getfield 250, 3) := by decide +kernel
theorem dX7_goOnBody_74 : decode cX7_goOnBody 74 = .ok (.sipush 1000, 3) := by decide +kernel
theorem dX7_goOnBody_77 : decode cX7_goOnBody 77 = .ok (.if_icmp .ne 9, 3) := by decide +kernel
theorem dX7_goOnBody_80 : decode cX7_goOnBody 80 = .ok (.aload_n 0, 1) := by decide +kernel
theorem dX7_goOnBody_81 : decode cX7_goOnBody 81 = .ok (.iconst 1, 1) := by decide +kernel
theorem dX7_goOnBody_82 : decode cX7_goOnBody 82 = .ok (.putfield 197, 3) := by decide +kernel
theorem dX7_goOnBody_85 : decode cX7_goOnBody 85 = .ok (.return_, 1) := by decide +kernel
theorem dX7_goOnBody_86 : decode cX7_goOnBody 86 = .ok (.aload_n 0, 1) := by decide +kernel
theorem dX7_goOnBody_87 : decode cX7_goOnBody 87 = .ok (.dup, 1) := by decide +kernel
theorem dX7_goOnBody_88 : decode cX7_goOnBody 88 = .ok (.getfield 250, 3) := by decide +kernel
theorem dX7_goOnBody_91 : decode cX7_goOnBody 91 = .ok (.iconst 1, 1) := by decide +kernel
theorem dX7_goOnBody_92 : decode cX7_goOnBody 92 = .ok (.iadd, 1) := by decide +kernel
theorem dX7_goOnBody_93 : decode cX7_goOnBody 93 = .ok (.putfield 250, 3) := by decide +kernel
theorem dX7_goOnBody_96 : decode cX7_goOnBody 96 = .ok (.aload_n 0, 1) := by decide +kernel
theorem dX7_goOnBody_97 : decode cX7_goOnBody 97 = .ok (.iload_n 1, 1) := by decide +kernel
theorem dX7_goOnBody_98 : decode cX7_goOnBody 98 = .ok (.invokevirtual 253, 3) := by decide +kernel
theorem dX7_goOnBody_101 : decode cX7_goOnBody 101 = .ok (.istore_n 2, 1) := by decide +kernel
theorem dX7_goOnBody_102 : decode cX7_goOnBody 102 = .ok (.iload_n 2, 1) := by decide +kernel
theorem dX7_goOnBody_103 : decode cX7_goOnBody 103 = .ok (.bipush 8, 2) := by decide +kernel
theorem dX7_goOnBody_105 : decode cX7_goOnBody 105 = .ok (.if_icmp .ne 46, 3) := by decide +kernel
theorem dX7_goOnBody_108 : decode cX7_goOnBody 108 = .ok (.aload_n 0, 1) := by decide +kernel
theorem dX7_goOnBody_109 : decode cX7_goOnBody 109 = .ok (.getfield 119, 3) := by decide +kernel
theorem dX7_goOnBody_112 : decode cX7_goOnBody 112 = .ok (.iload_n 1, 1) := by decide +kernel
theorem dX7_goOnBody_113 : decode cX7_goOnBody 113 = .ok (.aload_n 0, 1) := by decide +kernel
theorem dX7_goOnBody_114 : decode cX7_goOnBody 114 = .ok (.getfield 119, 3) := by decide +kernel
theorem dX7_goOnBody_117 : decode cX7_goOnBody 117 = .ok (.iload_n 1, 1) := by decide +kernel
theorem dX7_goOnBody_118 : decode cX7_goOnBody 118 = .ok (.iaload, 1) := by decide +kernel
theorem dX7_goOnBody_119 : decode cX7_goOnBody 119 = .ok (.bipush (-6), 2) := by decide +kernel
theorem dX7_goOnBody_121 : decode cX7_goOnBody 121 = .ok (.if_icmp .ne 12, 3) := by decide +kernel
theorem dX7_goOnBody_124 : decode cX7_goOnBody 124 = .ok (.aload_n 0, 1) := by decide +kernel
theorem dX7_goOnBody_125 : decode cX7_goOnBody 125 = .ok (.getfield 116, 3) := by decide +kernel
theorem dX7_goOnBody_128 : decode cX7_goOnBody 128 = .ok (.iload_n 1, 1) := by decide +kernel
theorem dX7_goOnBody_129 : decode cX7_goOnBody 129 = .ok (.iaload, 1) := by decide +kernel
theorem dX7_goOnBody_130 : decode cX7_goOnBody 130 = .ok (.goto 9, 3) := by decide +kernel
theorem dX7_goOnBody_133 : decode cX7_goOnBody 133 = .ok (.aload_n 0, 1) := by decide +kernel
theorem dX7_goOnBody_134 : decode cX7_goOnBody 134 = .ok (.getfield 119, 3) := by decide +kernel
theorem dX7_goOnBody_137 : decode cX7_goOnBody 137 = .ok (.iload_n 1, 1) := by decide +kernel
theorem dX7_goOnBody_138 : decode cX7_goOnBody 138 = .ok (.iaload, 1) := by decide +kernel
theorem dX7_goOnBody_139 : decode cX7_goOnBody 139 = .ok (.iastore, 1) := by decide +kernel
theorem dX7_goOnBody_140 : decode cX7_goOnBody 140 = .ok (.aload_n 0, 1) := by decide +kernel
theorem dX7_goOnBody_141 : decode cX7_goOnBody 141 = .ok (.getfield 116, 3) := by decide +kernel
theorem dX7_goOnBody_144 : decode cX7_goOnBody 144 = .ok (.iload_n 1, 1) := by decide +kernel
theorem dX7_goOnBody_145 : decode cX7_goOnBody 145 = .ok (.dup2, 1) := by decide +kernel
theorem dX7_goOnBody_146 : decode cX7_goOnBody 146 = .ok (.iaload, 1) := by decide +kernel
theorem dX7_goOnBody_147 : decode cX7_goOnBody 147 = .ok (.iconst 1, 1) := by decide +kernel
theorem dX7_goOnBody_148 : decode cX7_goOnBody 148 = .ok (.iadd, 1) := by decide +kernel
theorem dX7_goOnBody_149 : decode cX7_goOnBody 149 = .ok (.iastore, 1) := by decide +kernel
theorem dX7_goOnBody_150 : decode cX7_goOnBody 150 = .ok (.return_, 1) := by decide +kernel
theorem dX7_goOnBody_151 : decode cX7_goOnBody 151 = .ok (.aload_n 0, 1) := by decide +kernel
theorem dX7_goOnBody_152 : decode cX7_goOnBody 152 = .ok (.iload_n 2, 1) := by decide +kernel
theorem dX7_goOnBody_153 : decode cX7_goOnBody 153 = .ok (.aload_n 0, 1) := by decide +kernel
theorem dX7_goOnBody_154 : decode cX7_goOnBody 154 = .ok (.iload_n 1, 1) := by decide +kernel
theorem dX7_goOnBody_155 : decode cX7_goOnBody 155 = .ok (.invokevirtual 256, 3) := by decide +kernel
theorem dX7_goOnBody_158 : decode cX7_goOnBody 158 = .ok (.aload_n 0, 1) := by decide +kernel
theorem dX7_goOnBody_159 : decode cX7_goOnBody 159 = .ok (.iload_n 1, 1) := by decide +kernel
theorem dX7_goOnBody_160 : decode cX7_goOnBody 160 = .ok (.invokevirtual 259, 3) := by decide +kernel
theorem dX7_goOnBody_163 : decode cX7_goOnBody 163 = .ok (.invokevirtual 167, 3) := by decide +kernel
theorem dX7_goOnBody_166 : decode cX7_goOnBody 166 = .ok (.ifCond .eq 12, 3) := by decide +kernel
theorem dX7_goOnBody_169 : decode cX7_goOnBody 169 = .ok (.aload_n 0, 1) := by decide +kernel
theorem dX7_goOnBody_170 : decode cX7_goOnBody 170 = .ok (.bipush 22, 2) := by decide +kernel
theorem dX7_goOnBody_172 : decode cX7_goOnBody 172 = .ok (.bipush (-6), 2) := by decide +kernel
theorem dX7_goOnBody_174 : decode cX7_goOnBody 174 = .ok (.invokevirtual 219, 3) := by decide +kernel
theorem dX7_goOnBody_177 : decode cX7_goOnBody 177 = .ok (.return_, 1) := by decide +kernel
theorem dX7_goOnBody_178 : decode cX7_goOnBody 178 = .ok (.aload_n 0, 1) := by decide +kernel
theorem dX7_goOnBody_179 : decode cX7_goOnBody 179 = .ok (.iload_n 2, 1) := by decide +kernel
theorem dX7_goOnBody_180 : decode cX7_goOnBody 180 = .ok (.aload_n 0, 1) := by decide +kernel
theorem dX7_goOnBody_181 : decode cX7_goOnBody 181 = .ok (.iload_n 1, 1) := by decide +kernel
theorem dX7_goOnBody_182 : decode cX7_goOnBody 182 = .ok (.invokevirtual 256, 3) := by decide +kernel
theorem dX7_goOnBody_185 : decode cX7_goOnBody 185 = .ok (.aload_n 0, 1) := by decide +kernel
theorem dX7_goOnBody_186 : decode cX7_goOnBody 186 = .ok (.iload_n 1, 1) := by decide +kernel
theorem dX7_goOnBody_187 : decode cX7_goOnBody 187 = .ok (.invokevirtual 259, 3) := by decide +kernel
theorem dX7_goOnBody_190 : decode cX7_goOnBody 190 = .ok (.invokevirtual 181, 3) := by decide +kernel
theorem dX7_goOnBody_193 : decode cX7_goOnBody 193 = .ok (.istore_n 3, 1) := by decide +kernel
theorem dX7_goOnBody_194 : decode cX7_goOnBody 194 = .ok (.aload_n 0, 1) := by decide +kernel
theorem dX7_goOnBody_195 : decode cX7_goOnBody 195 = .ok (.getfield 122, 3) := by decide +kernel
theorem dX7_goOnBody_198 : decode cX7_goOnBody 198 = .ok (.iload_n 1, 1) := by decide +kernel
theorem dX7_goOnBody_199 : decode cX7_goOnBody 199 = .ok (.iconst 1, 1) := by decide +kernel
theorem dX7_goOnBody_200 : decode cX7_goOnBody 200 = .ok (.bastore, 1) := by decide +kernel
theorem dX7_goOnBody_201 : decode cX7_goOnBody 201 = .ok (.iload_n 3, 1) := by decide +kernel
theorem dX7_goOnBody_202 : decode cX7_goOnBody 202 = .ok (.ifCond .lt 8, 3) := by decide +kernel
theorem dX7_goOnBody_205 : decode cX7_goOnBody 205 = .ok (.aload_n 0, 1) := by decide +kernel
theorem dX7_goOnBody_206 : decode cX7_goOnBody 206 = .ok (.iload_n 3, 1) := by decide +kernel
theorem dX7_goOnBody_207 : decode cX7_goOnBody 207 = .ok (.invokevirtual 222, 3) := by decide +kernel
theorem dX7_goOnBody_210 : decode cX7_goOnBody 210 = .ok (.return_, 1) := by decide +kernel
theorem dX7_goBehind_0 : decode cX7_goBehind 0 = .ok (.aload_n 0, 1) := by decide +kernel
theorem dX7_goBehind_1 : decode cX7_goBehind 1 = .ok (.iload_n 1, 1) := by decide +kernel
theorem dX7_goBehind_2 : decode cX7_goBehind 2 = .ok (.invokevirtual 256, 3) := by decide +kernel
theorem dX7_goBehind_5 : decode cX7_goBehind 5 = .ok (.istore_n 2, 1) := by decide +kernel
theorem dX7_goBehind_6 : decode cX7_goBehind 6 = .ok (.aload_n 0, 1) := by decide +kernel
theorem dX7_goBehind_7 : decode cX7_goBehind 7 = .ok (.iload_n 1, 1) := by decide +kernel
theorem dX7_goBehind_8 : decode cX7_goBehind 8 = .ok (.invokevirtual 259, 3) := by decide +kernel
theorem dX7_goBehind_11 : decode cX7_goBehind 11 = .ok (.istore_n 3, 1) := by decide +kernel
theorem dX7_goBehind_12 : decode cX7_goBehind 12 = .ok (.aload_n 0, 1) := by decide +kernel
theorem dX7_goBehind_13 : decode cX7_goBehind 13 = .ok (.iload_n 1, 1) := by decide +kernel
theorem dX7_goBehind_14 : decode cX7_goBehind 14 = .ok (.invokevirtual 262, 3) := by decide +kernel
theorem dX7_goBehind_17 : decode cX7_goBehind 17 = .ok (.istore 4, 2) := by decide +kernel
theorem dX7_goBehind_19 : decode cX7_goBehind 19 = .ok (.aload_n 0, 1) := by decide +kernel
theorem dX7_goBehind_20 : decode cX7_goBehind 20 = .ok (.iload_n 1, 1) := by decide +kernel
theorem dX7_goBehind_21 : decode cX7_goBehind 21 = .ok (.invokevirtual 253, 3) := by decide +kernel
theorem dX7_goBehind_24 : decode cX7_goBehind 24 = .ok (.tableswitch 203 0 7 #[48, 62, 118, 148, 203, 203, 203, 192], 48) := by decide +kernel
theorem dX7_goBehind_72 : decode cX7_goBehind 72 = .ok (.aload_n 0, 1) := by decide +kernel
theorem dX7_goBehind_73 : decode cX7_goBehind 73 = .ok (.iload_n 1, 1) := by decide +kernel
theorem dX7_goBehind_74 : decode cX7_goBehind 74 = .ok (.invokevirtual 265, 3) := by decide +kernel
theorem dX7_goBehind_77 : decode cX7_goBehind 77 = .ok (.aload_n 0, 1) := by decide +kernel
theorem dX7_goBehind_78 : decode cX7_goBehind 78 = .ok (.iload 4, 2) := by decide +kernel
theorem dX7_goBehind_80 : decode cX7_goBehind 80 = .ok (.invokevirtual 268, 3) := by decide +kernel
theorem dX7_goBehind_83 : decode cX7_goBehind 83 = .ok (.goto 149, 3) := by decide +kernel
theorem dX7_goBehind_86 : decode cX7_goBehind 86 = .ok (.aload_n 0, 1) := by decide +kernel
theorem dX7_goBehind_87 : decode cX7_goBehind 87 = .ok (.iload_n 2, 1) := by decide +kernel
theorem dX7_goBehind_88 : decode cX7_goBehind 88 = .ok (.iload_n 3, 1) := by decide +kernel
theorem dX7_goBehind_89 : decode cX7_goBehind 89 = .ok (.invokevirtual 161, 3) := by decide +kernel
theorem dX7_goBehind_92 : decode cX7_goBehind 92 = .ok (.istore 5, 2) := by decide +kernel
theorem dX7_goBehind_94 : decode cX7_goBehind 94 = .ok (.aload_n 0, 1) := by decide +kernel
theorem dX7_goBehind_95 : decode cX7_goBehind 95 = .ok (.iload_n 1, 1) := by decide +kernel
theorem dX7_goBehind_96 : decode cX7_goBehind 96 = .ok (.invokevirtual 265, 3) := by decide +kernel
theorem dX7_goBehind_99 : decode cX7_goBehind 99 = .ok (.aload_n 0, 1) := by decide +kernel
theorem dX7_goBehind_100 : decode cX7_goBehind 100 = .ok (.aload_n 0, 1) := by decide +kernel
theorem dX7_goBehind_101 : decode cX7_goBehind 101 = .ok (.getfield 32, 3) := by decide +kernel
theorem dX7_goBehind_104 : decode cX7_goBehind 104 = .ok (.iload 5, 2) := by decide +kernel
theorem dX7_goBehind_106 : decode cX7_goBehind 106 = .ok (.baload, 1) := by decide +kernel
theorem dX7_goBehind_107 : decode cX7_goBehind 107 = .ok (.ifCond .eq 13, 3) := by decide +kernel
theorem dX7_goBehind_110 : decode cX7_goBehind 110 = .ok (.aload_n 0, 1) := by decide +kernel
theorem dX7_goBehind_111 : decode cX7_goBehind 111 = .ok (.getfield 35, 3) := by decide +kernel
theorem dX7_goBehind_114 : decode cX7_goBehind 114 = .ok (.iload 5, 2) := by decide +kernel
theorem dX7_goBehind_116 : decode cX7_goBehind 116 = .ok (.iaload, 1) := by decide +kernel
theorem dX7_goBehind_117 : decode cX7_goBehind 117 = .ok (.goto 19, 3) := by decide +kernel
theorem dX7_goBehind_120 : decode cX7_goBehind 120 = .ok (.aload_n 0, 1) := by decide +kernel
theorem dX7_goBehind_121 : decode cX7_goBehind 121 = .ok (.getfield 86, 3) := by decide +kernel
theorem dX7_goBehind_124 : decode cX7_goBehind 124 = .ok (.sipush 240, 3) := by decide +kernel
theorem dX7_goBehind_127 : decode cX7_goBehind 127 = .ok (.aload_n 0, 1) := by decide +kernel
theorem dX7_goBehind_128 : decode cX7_goBehind 128 = .ok (.getfield 191, 3) := by decide +kernel
theorem dX7_goBehind_131 : decode cX7_goBehind 131 = .ok (.imul, 1) := by decide +kernel
theorem dX7_goBehind_132 : decode cX7_goBehind 132 = .ok (.iload 5, 2) := by decide +kernel
theorem dX7_goBehind_134 : decode cX7_goBehind 134 = .ok (.iadd, 1) := by decide +kernel
theorem dX7_goBehind_135 : decode cX7_goBehind 135 = .ok (.iaload, 1) := by decide +kernel
theorem dX7_goBehind_136 : decode cX7_goBehind 136 = .ok (.invokevirtual 268, 3) := by decide +kernel
theorem dX7_goBehind_139 : decode cX7_goBehind 139 = .ok (.goto 93, 3) := by decide +kernel
theorem dX7_goBehind_142 : decode cX7_goBehind 142 = .ok (.aload_n 0, 1) := by decide +kernel
theorem dX7_goBehind_143 : decode cX7_goBehind 143 = .ok (.getfield 86, 3) := by decide +kernel
theorem dX7_goBehind_146 : decode cX7_goBehind 146 = .ok (.sipush 240, 3) := by decide +kernel
theorem dX7_goBehind_149 : decode cX7_goBehind 149 = .ok (.aload_n 0, 1) := by decide +kernel
theorem dX7_goBehind_150 : decode cX7_goBehind 150 = .ok (.getfield 191, 3) := by decide +kernel
theorem dX7_goBehind_153 : decode cX7_goBehind 153 = .ok (.imul, 1) := by decide +kernel
theorem dX7_goBehind_154 : decode cX7_goBehind 154 = .ok (.aload_n 0, 1) := by decide +kernel
theorem dX7_goBehind_155 : decode cX7_goBehind 155 = .ok (.iload_n 2, 1) := by decide +kernel
theorem dX7_goBehind_156 : decode cX7_goBehind 156 = .ok (.iload_n 3, 1) := by decide +kernel
theorem dX7_goBehind_157 : decode cX7_goBehind 157 = .ok (.invokevirtual 161, 3) := by decide +kernel
theorem dX7_goBehind_160 : decode cX7_goBehind 160 = .ok (.iadd, 1) := by decide +kernel
theorem dX7_goBehind_161 : decode cX7_goBehind 161 = .ok (.iload 4, 2) := by decide +kernel
theorem dX7_goBehind_163 : decode cX7_goBehind 163 = .ok (.iastore, 1) := by decide +kernel
theorem dX7_goBehind_164 : decode cX7_goBehind 164 = .ok (.aload_n 0, 1) := by decide +kernel
theorem dX7_goBehind_165 : decode cX7_goBehind 165 = .ok (.iload_n 1, 1) := by decide +kernel
theorem dX7_goBehind_166 : decode cX7_goBehind 166 = .ok (.invokevirtual 265, 3) := by decide +kernel
theorem dX7_goBehind_169 : decode cX7_goBehind 169 = .ok (.goto 63, 3) := by decide +kernel
theorem dX7_goBehind_172 : decode cX7_goBehind 172 = .ok (.aload_n 0, 1) := by decide +kernel
theorem dX7_goBehind_173 : decode cX7_goBehind 173 = .ok (.getfield 125, 3) := by decide +kernel
theorem dX7_goBehind_176 : decode cX7_goBehind 176 = .ok (.iload_n 1, 1) := by decide +kernel
theorem dX7_goBehind_177 : decode cX7_goBehind 177 = .ok (.baload, 1) := by decide +kernel
theorem dX7_goBehind_178 : decode cX7_goBehind 178 = .ok (.ifCond .eq 18, 3) := by decide +kernel
theorem dX7_goBehind_181 : decode cX7_goBehind 181 = .ok (.aload_n 0, 1) := by decide +kernel
theorem dX7_goBehind_182 : decode cX7_goBehind 182 = .ok (.getfield 125, 3) := by decide +kernel
theorem dX7_goBehind_185 : decode cX7_goBehind 185 = .ok (.iload_n 1, 1) := by decide +kernel
theorem dX7_goBehind_186 : decode cX7_goBehind 186 = .ok (.iconst 0, 1) := by decide +kernel
theorem dX7_goBehind_187 : decode cX7_goBehind 187 = .ok (.bastore, 1) := by decide +kernel
theorem dX7_goBehind_188 : decode cX7_goBehind 188 = .ok (.aload_n 0, 1) := by decide +kernel
theorem dX7_goBehind_189 : decode cX7_goBehind 189 = .ok (.iload_n 1, 1) := by decide +kernel
theorem dX7_goBehind_190 : decode cX7_goBehind 190 = .ok (.invokevirtual 265, 3) := by decide +kernel
theorem dX7_goBehind_193 : decode cX7_goBehind 193 = .ok (.goto 39, 3) := by decide +kernel
theorem dX7_goBehind_196 : decode cX7_goBehind 196 = .ok (.aload_n 0, 1) := by decide +kernel
theorem dX7_goBehind_197 : decode cX7_goBehind 197 = .ok (.getfield 125, 3) := by decide +kernel
theorem dX7_goBehind_200 : decode cX7_goBehind 200 = .ok (.iload_n 1, 1) := by decide +kernel
theorem dX7_goBehind_201 : decode cX7_goBehind 201 = .ok (.iconst 1, 1) := by decide +kernel
theorem dX7_goBehind_202 : decode cX7_goBehind 202 = .ok (.bastore, 1) := by decide +kernel
theorem dX7_goBehind_203 : decode cX7_goBehind 203 = .ok (.aload_n 0, 1) := by decide +kernel
theorem dX7_goBehind_204 : decode cX7_goBehind 204 = .ok (.aload_n 0, 1) := by decide +kernel
theorem dX7_goBehind_205 : decode cX7_goBehind 205 = .ok (.iload_n 2, 1) := by decide +kernel
theorem dX7_goBehind_206 : decode cX7_goBehind 206 = .ok (.iload_n 3, 1) := by decide +kernel
theorem dX7_goBehind_207 : decode cX7_goBehind 207 = .ok (.invokevirtual 158, 3) := by decide +kernel
theorem dX7_goBehind_210 : decode cX7_goBehind 210 = .ok (.invokevirtual 228, 3) := by decide +kernel
theorem dX7_goBehind_213 : decode cX7_goBehind 213 = .ok (.goto 19, 3) := by decide +kernel
theorem dX7_goBehind_216 : decode cX7_goBehind 216 = .ok (.aload_n 0, 1) := by decide +kernel
theorem dX7_goBehind_217 : decode cX7_goBehind 217 = .ok (.iload 4, 2) := by decide +kernel
theorem dX7_goBehind_219 : decode cX7_goBehind 219 = .ok (.bipush (-6), 2) := by decide +kernel
theorem dX7_goBehind_221 : decode cX7_goBehind 221 = .ok (.invokevirtual 219, 3) := by decide +kernel
theorem dX7_goBehind_224 : decode cX7_goBehind 224 = .ok (.goto 8, 3) := by decide +kernel
theorem dX7_goBehind_227 : decode cX7_goBehind 227 = .ok (.aload_n 0, 1) := by decide +kernel
theorem dX7_goBehind_228 : decode cX7_goBehind 228 = .ok (.iload_n 1, 1) := by decide +kernel
theorem dX7_goBehind_229 : decode cX7_goBehind 229 = .ok (.invokevirtual 265, 3) := by decide +kernel
theorem dX7_goBehind_232 : decode cX7_goBehind 232 = .ok (.return_, 1) := by decide +kernel
theorem dX7_goDown_0 : decode cX7_goDown 0 = .ok (.aload_n 0, 1) := by decide +kernel
theorem dX7_goDown_1 : decode cX7_goDown 1 = .ok (.getfield 213, 3) := by decide +kernel
theorem dX7_goDown_4 : decode cX7_goDown 4 = .ok (.iconst 1, 1) := by decide +kernel
theorem dX7_goDown_5 : decode cX7_goDown 5 = .ok (.isub, 1) := by decide +kernel
theorem dX7_goDown_6 : decode cX7_goDown 6 = .ok (.istore_n 1, 1) := by decide +kernel
theorem dX7_goDown_7 : decode cX7_goDown 7 = .ok (.aload_n 0, 1) := by decide +kernel
theorem dX7_goDown_8 : decode cX7_goDown 8 = .ok (.getfield 125, 3) := by decide +kernel
theorem dX7_goDown_11 : decode cX7_goDown 11 = .ok (.iload_n 1, 1) := by decide +kernel
theorem dX7_goDown_12 : decode cX7_goDown 12 = .ok (.iconst 0, 1) := by decide +kernel
theorem dX7_goDown_13 : decode cX7_goDown 13 = .ok (.bastore, 1) := by decide +kernel
theorem dX7_goDown_14 : decode cX7_goDown 14 = .ok (.aload_n 0, 1) := by decide +kernel
theorem dX7_goDown_15 : decode cX7_goDown 15 = .ok (.getfield 110, 3) := by decide +kernel
theorem dX7_goDown_18 : decode cX7_goDown 18 = .ok (.iload_n 1, 1) := by decide +kernel
theorem dX7_goDown_19 : decode cX7_goDown 19 = .ok (.baload, 1) := by decide +kernel
theorem dX7_goDown_20 : decode cX7_goDown 20 = .ok (.ifCond .eq 88, 3) := by decide +kernel
theorem dX7_goDown_23 : decode cX7_goDown 23 = .ok (.aload_n 0, 1) := by decide +kernel
theorem dX7_goDown_24 : decode cX7_goDown 24 = .ok (.getfield 83, 3) := by decide +kernel
theorem dX7_goDown_27 : decode cX7_goDown 27 = .ok (.bipush 40, 2) := by decide +kernel
theorem dX7_goDown_29 : decode cX7_goDown 29 = .ok (.aload_n 0, 1) := by decide +kernel
theorem dX7_goDown_30 : decode cX7_goDown 30 = .ok (.getfield 191, 3) := by decide +kernel
theorem dX7_goDown_33 : decode cX7_goDown 33 = .ok (.imul, 1) := by decide +kernel
theorem dX7_goDown_34 : decode cX7_goDown 34 = .ok (.aload_n 0, 1) := by decide +kernel
theorem dX7_goDown_35 : decode cX7_goDown 35 = .ok (.getfield 113, 3) := by decide +kernel
theorem dX7_goDown_38 : decode cX7_goDown 38 = .ok (.iload_n 1, 1) := by decide +kernel
theorem dX7_goDown_39 : decode cX7_goDown 39 = .ok (.iaload, 1) := by decide +kernel
theorem dX7_goDown_40 : decode cX7_goDown 40 = .ok (.iadd, 1) := by decide +kernel
theorem dX7_goDown_41 : decode cX7_goDown 41 = .ok (.iconst 3, 1) := by decide +kernel
theorem dX7_goDown_42 : decode cX7_goDown 42 = .ok (.iastore, 1) := by decide +kernel
theorem dX7_goDown_43 : decode cX7_goDown 43 = .ok (.aload_n 0, 1) := by decide +kernel
theorem dX7_goDown_44 : decode cX7_goDown 44 = .ok (.aload_n 0, 1) := by decide +kernel
theorem dX7_goDown_45 : decode cX7_goDown 45 = .ok (.getfield 113, 3) := by decide +kernel
theorem dX7_goDown_48 : decode cX7_goDown 48 = .ok (.iload_n 1, 1) := by decide +kernel
theorem dX7_goDown_49 : decode cX7_goDown 49 = .ok (.iaload, 1) := by decide +kernel
theorem dX7_goDown_50 : decode cX7_goDown 50 = .ok (.invokevirtual 173, 3) := by decide +kernel
theorem dX7_goDown_53 : decode cX7_goDown 53 = .ok (.aload_n 0, 1) := by decide +kernel
theorem dX7_goDown_54 : decode cX7_goDown 54 = .ok (.getfield 116, 3) := by decide +kernel
theorem dX7_goDown_57 : decode cX7_goDown 57 = .ok (.iload_n 1, 1) := by decide +kernel
theorem dX7_goDown_58 : decode cX7_goDown 58 = .ok (.iaload, 1) := by decide +kernel
theorem dX7_goDown_59 : decode cX7_goDown 59 = .ok (.aload_n 0, 1) := by decide +kernel
theorem dX7_goDown_60 : decode cX7_goDown 60 = .ok (.getfield 164, 3) := by decide +kernel
theorem dX7_goDown_63 : decode cX7_goDown 63 = .ok (.iconst 1, 1) := by decide +kernel
theorem dX7_goDown_64 : decode cX7_goDown 64 = .ok (.iadd, 1) := by decide +kernel
theorem dX7_goDown_65 : decode cX7_goDown 65 = .ok (.if_icmp .ne 7, 3) := by decide +kernel
theorem dX7_goDown_68 : decode cX7_goDown 68 = .ok (.iconst 1, 1) := by decide +kernel
theorem dX7_goDown_69 : decode cX7_goDown 69 = .ok (.goto 4, 3) := by decide +kernel
theorem dX7_goDown_72 : decode cX7_goDown 72 = .ok (.iconst 0, 1) := by decide +kernel
theorem dX7_goDown_73 : decode cX7_goDown 73 = .ok (.istore_n 2, 1) := by decide +kernel
theorem dX7_goDown_74 : decode cX7_goDown 74 = .ok (.aload_n 0, 1) := by decide +kernel
theorem dX7_goDown_75 : decode cX7_goDown 75 = .ok (.dup, 1) := by decide +kernel
theorem dX7_goDown_76 : decode cX7_goDown 76 = .ok (.getfield 213, 3) := by decide +kernel
theorem dX7_goDown_79 : decode cX7_goDown 79 = .ok (.iconst 1, 1) := by decide +kernel
theorem dX7_goDown_80 : decode cX7_goDown 80 = .ok (.isub, 1) := by decide +kernel
theorem dX7_goDown_81 : decode cX7_goDown 81 = .ok (.putfield 213, 3) := by decide +kernel
theorem dX7_goDown_84 : decode cX7_goDown 84 = .ok (.iload_n 2, 1) := by decide +kernel
theorem dX7_goDown_85 : decode cX7_goDown 85 = .ok (.ifCond .eq 22, 3) := by decide +kernel
theorem dX7_goDown_88 : decode cX7_goDown 88 = .ok (.aload_n 0, 1) := by decide +kernel
theorem dX7_goDown_89 : decode cX7_goDown 89 = .ok (.getfield 204, 3) := by decide +kernel
theorem dX7_goDown_92 : decode cX7_goDown 92 = .ok (.bipush 20, 2) := by decide +kernel
theorem dX7_goDown_94 : decode cX7_goDown 94 = .ok (.if_icmp .ge 13, 3) := by decide +kernel
theorem dX7_goDown_97 : decode cX7_goDown 97 = .ok (.aload_n 0, 1) := by decide +kernel
theorem dX7_goDown_98 : decode cX7_goDown 98 = .ok (.bipush 20, 2) := by decide +kernel
theorem dX7_goDown_100 : decode cX7_goDown 100 = .ok (.aload_n 0, 1) := by decide +kernel
theorem dX7_goDown_101 : decode cX7_goDown 101 = .ok (.getfield 204, 3) := by decide +kernel
theorem dX7_goDown_104 : decode cX7_goDown 104 = .ok (.invokevirtual 219, 3) := by decide +kernel
theorem dX7_goDown_107 : decode cX7_goDown 107 = .ok (.return_, 1) := by decide +kernel
theorem dX7_goDown_108 : decode cX7_goDown 108 = .ok (.aload_n 0, 1) := by decide +kernel
theorem dX7_goDown_109 : decode cX7_goDown 109 = .ok (.getfield 113, 3) := by decide +kernel
theorem dX7_goDown_112 : decode cX7_goDown 112 = .ok (.iload_n 1, 1) := by decide +kernel
theorem dX7_goDown_113 : decode cX7_goDown 113 = .ok (.iaload, 1) := by decide +kernel
theorem dX7_goDown_114 : decode cX7_goDown 114 = .ok (.ifCond .lt 102, 3) := by decide +kernel
theorem dX7_goDown_117 : decode cX7_goDown 117 = .ok (.aload_n 0, 1) := by decide +kernel
theorem dX7_goDown_118 : decode cX7_goDown 118 = .ok (.getfield 116, 3) := by decide +kernel
theorem dX7_goDown_121 : decode cX7_goDown 121 = .ok (.iload_n 1, 1) := by decide +kernel
theorem dX7_goDown_122 : decode cX7_goDown 122 = .ok (.iaload, 1) := by decide +kernel
theorem dX7_goDown_123 : decode cX7_goDown 123 = .ok (.iconst 1, 1) := by decide +kernel
theorem dX7_goDown_124 : decode cX7_goDown 124 = .ok (.isub, 1) := by decide +kernel
theorem dX7_goDown_125 : decode cX7_goDown 125 = .ok (.istore_n 2, 1) := by decide +kernel
theorem dX7_goDown_126 : decode cX7_goDown 126 = .ok (.aload_n 0, 1) := by decide +kernel
theorem dX7_goDown_127 : decode cX7_goDown 127 = .ok (.getfield 119, 3) := by decide +kernel
theorem dX7_goDown_130 : decode cX7_goDown 130 = .ok (.iload_n 1, 1) := by decide +kernel
theorem dX7_goDown_131 : decode cX7_goDown 131 = .ok (.iaload, 1) := by decide +kernel
theorem dX7_goDown_132 : decode cX7_goDown 132 = .ok (.bipush (-6), 2) := by decide +kernel
theorem dX7_goDown_134 : decode cX7_goDown 134 = .ok (.if_icmp .eq 72, 3) := by decide +kernel
theorem dX7_goDown_137 : decode cX7_goDown 137 = .ok (.iload_n 2, 1) := by decide +kernel
theorem dX7_goDown_138 : decode cX7_goDown 138 = .ok (.aload_n 0, 1) := by decide +kernel
theorem dX7_goDown_139 : decode cX7_goDown 139 = .ok (.getfield 119, 3) := by decide +kernel
theorem dX7_goDown_142 : decode cX7_goDown 142 = .ok (.iload_n 1, 1) := by decide +kernel
theorem dX7_goDown_143 : decode cX7_goDown 143 = .ok (.iaload, 1) := by decide +kernel
theorem dX7_goDown_144 : decode cX7_goDown 144 = .ok (.if_icmp .lt 62, 3) := by decide +kernel
theorem dX7_goDown_147 : decode cX7_goDown 147 = .ok (.aload_n 0, 1) := by decide +kernel
theorem dX7_goDown_148 : decode cX7_goDown 148 = .ok (.getfield 56, 3) := by decide +kernel
theorem dX7_goDown_151 : decode cX7_goDown 151 = .ok (.bipush 12, 2) := by decide +kernel
theorem dX7_goDown_153 : decode cX7_goDown 153 = .ok (.aload_n 0, 1) := by decide +kernel
theorem dX7_goDown_154 : decode cX7_goDown 154 = .ok (.getfield 113, 3) := by decide +kernel
theorem dX7_goDown_157 : decode cX7_goDown 157 = .ok (.iload_n 1, 1) := by decide +kernel
theorem dX7_goDown_158 : decode cX7_goDown 158 = .ok (.iaload, 1) := by decide +kernel
theorem dX7_goDown_159 : decode cX7_goDown 159 = .ok (.imul, 1) := by decide +kernel
theorem dX7_goDown_160 : decode cX7_goDown 160 = .ok (.iload_n 2, 1) := by decide +kernel
theorem dX7_goDown_161 : decode cX7_goDown 161 = .ok (.iadd, 1) := by decide +kernel
theorem dX7_goDown_162 : decode cX7_goDown 162 = .ok (.iaload, 1) := by decide +kernel
theorem dX7_goDown_163 : decode cX7_goDown 163 = .ok (.istore_n 3, 1) := by decide +kernel
theorem dX7_goDown_164 : decode cX7_goDown 164 = .ok (.iload_n 3, 1) := by decide +kernel
theorem dX7_goDown_165 : decode cX7_goDown 165 = .ok (.iconst (-1), 1) := by decide +kernel
theorem dX7_goDown_166 : decode cX7_goDown 166 = .ok (.if_icmp .eq 11, 3) := by decide +kernel
theorem dX7_goDown_169 : decode cX7_goDown 169 = .ok (.iload_n 3, 1) := by decide +kernel
theorem dX7_goDown_170 : decode cX7_goDown 170 = .ok (.aload_n 0, 1) := by decide +kernel
theorem dX7_goDown_171 : decode cX7_goDown 171 = .ok (.getfield 204, 3) := by decide +kernel
theorem dX7_goDown_174 : decode cX7_goDown 174 = .ok (.if_icmp .ne 26, 3) := by decide +kernel
theorem dX7_goDown_177 : decode cX7_goDown 177 = .ok (.aload_n 0, 1) := by decide +kernel
theorem dX7_goDown_178 : decode cX7_goDown 178 = .ok (.iconst 0, 1) := by decide +kernel
theorem dX7_goDown_179 : decode cX7_goDown 179 = .ok (.putfield 201, 3) := by decide +kernel
theorem dX7_goDown_182 : decode cX7_goDown 182 = .ok (.aload_n 0, 1) := by decide +kernel
theorem dX7_goDown_183 : decode cX7_goDown 183 = .ok (.sipush 1000, 3) := by decide +kernel
theorem dX7_goDown_186 : decode cX7_goDown 186 = .ok (.aload_n 0, 1) := by decide +kernel
theorem dX7_goDown_187 : decode cX7_goDown 187 = .ok (.getfield 204, 3) := by decide +kernel
theorem dX7_goDown_190 : decode cX7_goDown 190 = .ok (.iadd, 1) := by decide +kernel
theorem dX7_goDown_191 : decode cX7_goDown 191 = .ok (.invokevirtual 268, 3) := by decide +kernel
theorem dX7_goDown_194 : decode cX7_goDown 194 = .ok (.aload_n 0, 1) := by decide +kernel
theorem dX7_goDown_195 : decode cX7_goDown 195 = .ok (.iload_n 1, 1) := by decide +kernel
theorem dX7_goDown_196 : decode cX7_goDown 196 = .ok (.invokevirtual 265, 3) := by decide +kernel
theorem dX7_goDown_199 : decode cX7_goDown 199 = .ok (.return_, 1) := by decide +kernel
theorem dX7_goDown_200 : decode cX7_goDown 200 = .ok (.iinc 2 (-1), 3) := by decide +kernel
theorem dX7_goDown_203 : decode cX7_goDown 203 = .ok (.goto (-77), 3) := by decide +kernel
theorem dX7_goDown_206 : decode cX7_goDown 206 = .ok (.aload_n 0, 1) := by decide +kernel
theorem dX7_goDown_207 : decode cX7_goDown 207 = .ok (.dup, 1) := by decide +kernel
theorem dX7_goDown_208 : decode cX7_goDown 208 = .ok (.getfield 210, 3) := by decide +kernel
theorem dX7_goDown_211 : decode cX7_goDown 211 = .ok (.iconst 1, 1) := by decide +kernel
theorem dX7_goDown_212 : decode cX7_goDown 212 = .ok (.isub, 1) := by decide +kernel
theorem dX7_goDown_213 : decode cX7_goDown 213 = .ok (.putfield 210, 3) := by decide +kernel
theorem dX7_goDown_216 : decode cX7_goDown 216 = .ok (.aload_n 0, 1) := by decide +kernel
theorem dX7_goDown_217 : decode cX7_goDown 217 = .ok (.dup, 1) := by decide +kernel
theorem dX7_goDown_218 : decode cX7_goDown 218 = .ok (.getfield 213, 3) := by decide +kernel
theorem dX7_goDown_221 : decode cX7_goDown 221 = .ok (.iconst 1, 1) := by decide +kernel
theorem dX7_goDown_222 : decode cX7_goDown 222 = .ok (.isub, 1) := by decide +kernel
theorem dX7_goDown_223 : decode cX7_goDown 223 = .ok (.putfield 213, 3) := by decide +kernel
theorem dX7_goDown_226 : decode cX7_goDown 226 = .ok (.return_, 1) := by decide +kernel
theorem dX7_go_0 : decode cX7_go 0 = .ok (.aload_n 0, 1) := by decide +kernel
theorem dX7_go_1 : decode cX7_go 1 = .ok (.iload_n 1, 1) := by decide +kernel
theorem dX7_go_2 : decode cX7_go 2 = .ok (.putfield 191, 3) := by decide +kernel
theorem dX7_go_5 : decode cX7_go 5 = .ok (.aload_n 0, 1) := by decide +kernel
theorem dX7_go_6 : decode cX7_go 6 = .ok (.iconst 0, 1) := by decide +kernel
theorem dX7_go_7 : decode cX7_go 7 = .ok (.putfield 213, 3) := by decide +kernel
theorem dX7_go_10 : decode cX7_go 10 = .ok (.aload_n 0, 1) := by decide +kernel
theorem dX7_go_11 : decode cX7_go 11 = .ok (.iconst 0, 1) := by decide +kernel
theorem dX7_go_12 : decode cX7_go 12 = .ok (.putfield 210, 3) := by decide +kernel
theorem dX7_go_15 : decode cX7_go 15 = .ok (.aload_n 0, 1) := by decide +kernel
theorem dX7_go_16 : decode cX7_go 16 = .ok (.iconst 0, 1) := by decide +kernel
theorem dX7_go_17 : decode cX7_go 17 = .ok (.putfield 250, 3) := by decide +kernel
theorem dX7_go_20 : decode cX7_go 20 = .ok (.aload_n 0, 1) := by decide +kernel
theorem dX7_go_21 : decode cX7_go 21 = .ok (.iconst 0, 1) := by decide +kernel
theorem dX7_go_22 : decode cX7_go 22 = .ok (.putfield 216, 3) := by decide +kernel
theorem dX7_go_25 : decode cX7_go 25 = .ok (.aload_n 0, 1) := by decide +kernel
theorem dX7_go_26 : decode cX7_go 26 = .ok (.iconst 0, 1) := by decide +kernel
theorem dX7_go_27 : decode cX7_go 27 = .ok (.putfield 194, 3) := by decide +kernel
theorem dX7_go_30 : decode cX7_go 30 = .ok (.aload_n 0, 1) := by decide +kernel
theorem dX7_go_31 : decode cX7_go 31 = .ok (.iconst 0, 1) := by decide +kernel
theorem dX7_go_32 : decode cX7_go 32 = .ok (.putfield 225, 3) := by decide +kernel
theorem dX7_go_35 : decode cX7_go 35 = .ok (.aload_n 0, 1) := by decide +kernel
theorem dX7_go_36 : decode cX7_go 36 = .ok (.iconst 0, 1) := by decide +kernel
theorem dX7_go_37 : decode cX7_go 37 = .ok (.putfield 197, 3) := by decide +kernel
theorem dX7_go_40 : decode cX7_go 40 = .ok (.aload_n 0, 1) := by decide +kernel
theorem dX7_go_41 : decode cX7_go 41 = .ok (.iconst 0, 1) := by decide +kernel
theorem dX7_go_42 : decode cX7_go 42 = .ok (.putfield 201, 3) := by decide +kernel
theorem dX7_go_45 : decode cX7_go 45 = .ok (.aload_n 0, 1) := by decide +kernel
theorem dX7_go_46 : decode cX7_go 46 = .ok (.iload_n 2, 1) := by decide +kernel
theorem dX7_go_47 : decode cX7_go 47 = .ok (.putfield 231, 3) := by decide +kernel
theorem dX7_go_50 : decode cX7_go 50 = .ok (.aload_n 0, 1) := by decide +kernel
theorem dX7_go_51 : decode cX7_go 51 = .ok (.iload_n 3, 1) := by decide +kernel
theorem dX7_go_52 : decode cX7_go 52 = .ok (.putfield 234, 3) := by decide +kernel
theorem dX7_go_55 : decode cX7_go 55 = .ok (.aload_n 0, 1) := by decide +kernel
theorem dX7_go_56 : decode cX7_go 56 = .ok (.iload 4, 2) := by decide +kernel
theorem dX7_go_58 : decode cX7_go 58 = .ok (.putfield 237, 3) := by decide +kernel
theorem dX7_go_61 : decode cX7_go 61 = .ok (.aload_n 0, 1) := by decide +kernel
theorem dX7_go_62 : decode cX7_go 62 = .ok (.iload 5, 2) := by decide +kernel
theorem dX7_go_64 : decode cX7_go 64 = .ok (.putfield 240, 3) := by decide +kernel
theorem dX7_go_67 : decode cX7_go 67 = .ok (.aload_n 0, 1) := by decide +kernel
theorem dX7_go_68 : decode cX7_go 68 = .ok (.getfield 110, 3) := by decide +kernel
theorem dX7_go_71 : decode cX7_go 71 = .ok (.iconst 0, 1) := by decide +kernel
theorem dX7_go_72 : decode cX7_go 72 = .ok (.iconst 0, 1) := by decide +kernel
theorem dX7_go_73 : decode cX7_go 73 = .ok (.bastore, 1) := by decide +kernel
theorem dX7_go_74 : decode cX7_go 74 = .ok (.aload_n 0, 1) := by decide +kernel
theorem dX7_go_75 : decode cX7_go 75 = .ok (.getfield 113, 3) := by decide +kernel
theorem dX7_go_78 : decode cX7_go 78 = .ok (.iconst 0, 1) := by decide +kernel
theorem dX7_go_79 : decode cX7_go 79 = .ok (.iconst (-1), 1) := by decide +kernel
theorem dX7_go_80 : decode cX7_go 80 = .ok (.iastore, 1) := by decide +kernel
theorem dX7_go_81 : decode cX7_go 81 = .ok (.aload_n 0, 1) := by decide +kernel
theorem dX7_go_82 : decode cX7_go 82 = .ok (.getfield 116, 3) := by decide +kernel
theorem dX7_go_85 : decode cX7_go 85 = .ok (.iconst 0, 1) := by decide +kernel
theorem dX7_go_86 : decode cX7_go 86 = .ok (.iconst 0, 1) := by decide +kernel
theorem dX7_go_87 : decode cX7_go 87 = .ok (.iastore, 1) := by decide +kernel
theorem dX7_go_88 : decode cX7_go 88 = .ok (.aload_n 0, 1) := by decide +kernel
theorem dX7_go_89 : decode cX7_go 89 = .ok (.getfield 119, 3) := by decide +kernel
theorem dX7_go_92 : decode cX7_go 92 = .ok (.iconst 0, 1) := by decide +kernel
theorem dX7_go_93 : decode cX7_go 93 = .ok (.bipush (-6), 2) := by decide +kernel
theorem dX7_go_95 : decode cX7_go 95 = .ok (.iastore, 1) := by decide +kernel
theorem dX7_go_96 : decode cX7_go 96 = .ok (.aload_n 0, 1) := by decide +kernel
theorem dX7_go_97 : decode cX7_go 97 = .ok (.getfield 122, 3) := by decide +kernel
theorem dX7_go_100 : decode cX7_go 100 = .ok (.iconst 0, 1) := by decide +kernel
theorem dX7_go_101 : decode cX7_go 101 = .ok (.iconst 0, 1) := by decide +kernel
theorem dX7_go_102 : decode cX7_go 102 = .ok (.bastore, 1) := by decide +kernel
theorem dX7_go_103 : decode cX7_go 103 = .ok (.aload_n 0, 1) := by decide +kernel
theorem dX7_go_104 : decode cX7_go 104 = .ok (.getfield 125, 3) := by decide +kernel
theorem dX7_go_107 : decode cX7_go 107 = .ok (.iconst 0, 1) := by decide +kernel
theorem dX7_go_108 : decode cX7_go 108 = .ok (.iconst 0, 1) := by decide +kernel
theorem dX7_go_109 : decode cX7_go 109 = .ok (.bastore, 1) := by decide +kernel
theorem dX7_go_110 : decode cX7_go 110 = .ok (.aload_n 0, 1) := by decide +kernel
theorem dX7_go_111 : decode cX7_go 111 = .ok (.iconst 1, 1) := by decide +kernel
theorem dX7_go_112 : decode cX7_go 112 = .ok (.putfield 213, 3) := by decide +kernel
theorem dX7_go_115 : decode cX7_go 115 = .ok (.aload_n 0, 1) := by decide +kernel
theorem dX7_go_116 : decode cX7_go 116 = .ok (.getfield 213, 3) := by decide +kernel
theorem dX7_go_119 : decode cX7_go 119 = .ok (.ifCond .le 52, 3) := by decide +kernel
theorem dX7_go_122 : decode cX7_go 122 = .ok (.aload_n 0, 1) := by decide +kernel
theorem dX7_go_123 : decode cX7_go 123 = .ok (.getfield 197, 3) := by decide +kernel
theorem dX7_go_126 : decode cX7_go 126 = .ok (.ifCond .ne 45, 3) := by decide +kernel
theorem dX7_go_129 : decode cX7_go 129 = .ok (.aload_n 0, 1) := by decide +kernel
theorem dX7_go_130 : decode cX7_go 130 = .ok (.getfield 201, 3) := by decide +kernel
theorem dX7_go_133 : decode cX7_go 133 = .ok (.ifCond .eq 10, 3) := by decide +kernel
theorem dX7_go_136 : decode cX7_go 136 = .ok (.aload_n 0, 1) := by decide +kernel
theorem dX7_go_137 : decode cX7_go 137 = .ok (.invokevirtual 271, 3) := by decide +kernel
theorem dX7_go_140 : decode cX7_go 140 = .ok (.goto (-25), 3) := by decide +kernel
theorem dX7_go_143 : decode cX7_go 143 = .ok (.aload_n 0, 1) := by decide +kernel
theorem dX7_go_144 : decode cX7_go 144 = .ok (.getfield 110, 3) := by decide +kernel
theorem dX7_go_147 : decode cX7_go 147 = .ok (.aload_n 0, 1) := by decide +kernel
theorem dX7_go_148 : decode cX7_go 148 = .ok (.getfield 213, 3) := by decide +kernel
theorem dX7_go_151 : decode cX7_go 151 = .ok (.iconst 1, 1) := by decide +kernel
theorem dX7_go_152 : decode cX7_go 152 = .ok (.isub, 1) := by decide +kernel
theorem dX7_go_153 : decode cX7_go 153 = .ok (.baload, 1) := by decide +kernel
theorem dX7_go_154 : decode cX7_go 154 = .ok (.ifCond .eq 10, 3) := by decide +kernel
theorem dX7_go_157 : decode cX7_go 157 = .ok (.aload_n 0, 1) := by decide +kernel
theorem dX7_go_158 : decode cX7_go 158 = .ok (.invokevirtual 274, 3) := by decide +kernel
theorem dX7_go_161 : decode cX7_go 161 = .ok (.goto (-46), 3) := by decide +kernel
theorem dX7_go_164 : decode cX7_go 164 = .ok (.aload_n 0, 1) := by decide +kernel
theorem dX7_go_165 : decode cX7_go 165 = .ok (.invokevirtual 277, 3) := by decide +kernel
theorem dX7_go_168 : decode cX7_go 168 = .ok (.goto (-53), 3) := by decide +kernel
theorem dX7_go_171 : decode cX7_go 171 = .ok (.return_, 1) := by decide +kernel
theorem dX7_cameTo_0 : decode cX7_cameTo 0 = .ok (.aload_n 0, 1) := by decide +kernel
theorem dX7_cameTo_1 : decode cX7_cameTo 1 = .ok (.getfield 197, 3) := by decide +kernel
theorem dX7_cameTo_4 : decode cX7_cameTo 4 = .ok (.ifCond .eq 7, 3) := by decide +kernel
theorem dX7_cameTo_7 : decode cX7_cameTo 7 = .ok (.iconst 5, 1) := by decide +kernel
theorem dX7_cameTo_8 : decode cX7_cameTo 8 = .ok (.goto 54, 3) := by decide +kernel
theorem dX7_cameTo_11 : decode cX7_cameTo 11 = .ok (.aload_n 0, 1) := by decide +kernel
theorem dX7_cameTo_12 : decode cX7_cameTo 12 = .ok (.getfield 201, 3) := by decide +kernel
theorem dX7_cameTo_15 : decode cX7_cameTo 15 = .ok (.ifCond .ne 7, 3) := by decide +kernel
theorem dX7_cameTo_18 : decode cX7_cameTo 18 = .ok (.iconst 0, 1) := by decide +kernel
theorem dX7_cameTo_19 : decode cX7_cameTo 19 = .ok (.goto 43, 3) := by decide +kernel
theorem dX7_cameTo_22 : decode cX7_cameTo 22 = .ok (.aload_n 0, 1) := by decide +kernel
theorem dX7_cameTo_23 : decode cX7_cameTo 23 = .ok (.getfield 204, 3) := by decide +kernel
theorem dX7_cameTo_26 : decode cX7_cameTo 26 = .ok (.bipush 20, 2) := by decide +kernel
theorem dX7_cameTo_28 : decode cX7_cameTo 28 = .ok (.if_icmp .ne 7, 3) := by decide +kernel
theorem dX7_cameTo_31 : decode cX7_cameTo 31 = .ok (.iconst 1, 1) := by decide +kernel
theorem dX7_cameTo_32 : decode cX7_cameTo 32 = .ok (.goto 30, 3) := by decide +kernel
theorem dX7_cameTo_35 : decode cX7_cameTo 35 = .ok (.aload_n 0, 1) := by decide +kernel
theorem dX7_cameTo_36 : decode cX7_cameTo 36 = .ok (.getfield 204, 3) := by decide +kernel
theorem dX7_cameTo_39 : decode cX7_cameTo 39 = .ok (.bipush 21, 2) := by decide +kernel
theorem dX7_cameTo_41 : decode cX7_cameTo 41 = .ok (.if_icmp .ne 7, 3) := by decide +kernel
theorem dX7_cameTo_44 : decode cX7_cameTo 44 = .ok (.iconst 2, 1) := by decide +kernel
theorem dX7_cameTo_45 : decode cX7_cameTo 45 = .ok (.goto 17, 3) := by decide +kernel
theorem dX7_cameTo_48 : decode cX7_cameTo 48 = .ok (.aload_n 0, 1) := by decide +kernel
theorem dX7_cameTo_49 : decode cX7_cameTo 49 = .ok (.getfield 204, 3) := by decide +kernel
theorem dX7_cameTo_52 : decode cX7_cameTo 52 = .ok (.bipush 22, 2) := by decide +kernel
theorem dX7_cameTo_54 : decode cX7_cameTo 54 = .ok (.if_icmp .ne 7, 3) := by decide +kernel
theorem dX7_cameTo_57 : decode cX7_cameTo 57 = .ok (.iconst 3, 1) := by decide +kernel
theorem dX7_cameTo_58 : decode cX7_cameTo 58 = .ok (.goto 4, 3) := by decide +kernel
theorem dX7_cameTo_61 : decode cX7_cameTo 61 = .ok (.iconst 4, 1) := by decide +kernel
theorem dX7_cameTo_62 : decode cX7_cameTo 62 = .ok (.ireturn, 1) := by decide +kernel
theorem dX7_refusal_0 : decode cX7_refusal 0 = .ok (.aload_n 0, 1) := by decide +kernel
theorem dX7_refusal_1 : decode cX7_refusal 1 = .ok (.iload_n 1, 1) := by decide +kernel
theorem dX7_refusal_2 : decode cX7_refusal 2 = .ok (.invokevirtual 280, 3) := by decide +kernel
theorem dX7_refusal_5 : decode cX7_refusal 5 = .ok (.ifCond .eq 11, 3) := by decide +kernel
theorem dX7_refusal_8 : decode cX7_refusal 8 = .ok (.aload_n 0, 1) := by decide +kernel
theorem dX7_refusal_9 : decode cX7_refusal 9 = .ok (.iload_n 3, 1) := by decide +kernel
theorem dX7_refusal_10 : decode cX7_refusal 10 = .ok (.invokevirtual 136, 3) := by decide +kernel
theorem dX7_refusal_13 : decode cX7_refusal 13 = .ok (.ifCond .ne 5, 3) := by decide +kernel
theorem dX7_refusal_16 : decode cX7_refusal 16 = .ok (.iconst (-1), 1) := by decide +kernel
theorem dX7_refusal_17 : decode cX7_refusal 17 = .ok (.ireturn, 1) := by decide +kernel
theorem dX7_refusal_18 : decode cX7_refusal 18 = .ok (.iload_n 2, 1) := by decide +kernel
theorem dX7_refusal_19 : decode cX7_refusal 19 = .ok (.iconst 1, 1) := by decide +kernel
theorem dX7_refusal_20 : decode cX7_refusal 20 = .ok (.bipush 6, 2) := by decide +kernel
theorem dX7_refusal_22 : decode cX7_refusal 22 = .ok (.invokestatic 132, 3) := by decide +kernel
theorem dX7_refusal_25 : decode cX7_refusal 25 = .ok (.ifCond .eq 23, 3) := by decide +kernel
theorem dX7_refusal_28 : decode cX7_refusal 28 = .ok (.iload_n 2, 1) := by decide +kernel
theorem dX7_refusal_29 : decode cX7_refusal 29 = .ok (.iconst 3, 1) := by decide +kernel
theorem dX7_refusal_30 : decode cX7_refusal 30 = .ok (.if_icmp .gt 14, 3) := by decide +kernel
theorem dX7_refusal_33 : decode cX7_refusal 33 = .ok (.iload 4, 2) := by decide +kernel
theorem dX7_refusal_35 : decode cX7_refusal 35 = .ok (.iconst 0, 1) := by decide +kernel
theorem dX7_refusal_36 : decode cX7_refusal 36 = .ok (.bipush 9, 2) := by decide +kernel
theorem dX7_refusal_38 : decode cX7_refusal 38 = .ok (.invokestatic 132, 3) := by decide +kernel
theorem dX7_refusal_41 : decode cX7_refusal 41 = .ok (.ifCond .eq 7, 3) := by decide +kernel
theorem dX7_refusal_44 : decode cX7_refusal 44 = .ok (.iconst 0, 1) := by decide +kernel
theorem dX7_refusal_45 : decode cX7_refusal 45 = .ok (.goto 5, 3) := by decide +kernel
theorem dX7_refusal_48 : decode cX7_refusal 48 = .ok (.bipush (-2), 2) := by decide +kernel
theorem dX7_refusal_50 : decode cX7_refusal 50 = .ok (.ireturn, 1) := by decide +kernel
theorem dX7_touch_0 : decode cX7_touch 0 = .ok (.aload_n 0, 1) := by decide +kernel
theorem dX7_touch_1 : decode cX7_touch 1 = .ok (.iload_n 1, 1) := by decide +kernel
theorem dX7_touch_2 : decode cX7_touch 2 = .ok (.iload_n 2, 1) := by decide +kernel
theorem dX7_touch_3 : decode cX7_touch 3 = .ok (.iload_n 3, 1) := by decide +kernel
theorem dX7_touch_4 : decode cX7_touch 4 = .ok (.iload 4, 2) := by decide +kernel
theorem dX7_touch_6 : decode cX7_touch 6 = .ok (.invokevirtual 283, 3) := by decide +kernel
theorem dX7_touch_9 : decode cX7_touch 9 = .ok (.istore 6, 2) := by decide +kernel
theorem dX7_touch_11 : decode cX7_touch 11 = .ok (.iload 6, 2) := by decide +kernel
theorem dX7_touch_13 : decode cX7_touch 13 = .ok (.ifCond .ge 6, 3) := by decide +kernel
theorem dX7_touch_16 : decode cX7_touch 16 = .ok (.iload 6, 2) := by decide +kernel
theorem dX7_touch_18 : decode cX7_touch 18 = .ok (.ireturn, 1) := by decide +kernel
theorem dX7_touch_19 : decode cX7_touch 19 = .ok (.aload_n 0, 1) := by decide +kernel
theorem dX7_touch_20 : decode cX7_touch 20 = .ok (.iload_n 1, 1) := by decide +kernel
theorem dX7_touch_21 : decode cX7_touch 21 = .ok (.bipush 12, 2) := by decide +kernel
theorem dX7_touch_23 : decode cX7_touch 23 = .ok (.invokevirtual 287, 3) := by decide +kernel
theorem dX7_touch_26 : decode cX7_touch 26 = .ok (.aload_n 0, 1) := by decide +kernel
theorem dX7_touch_27 : decode cX7_touch 27 = .ok (.iload_n 1, 1) := by decide +kernel
theorem dX7_touch_28 : decode cX7_touch 28 = .ok (.iload_n 2, 1) := by decide +kernel
theorem dX7_touch_29 : decode cX7_touch 29 = .ok (.iload_n 3, 1) := by decide +kernel
theorem dX7_touch_30 : decode cX7_touch 30 = .ok (.iload 4, 2) := by decide +kernel
theorem dX7_touch_32 : decode cX7_touch 32 = .ok (.iload 5, 2) := by decide +kernel
theorem dX7_touch_34 : decode cX7_touch 34 = .ok (.invokevirtual 290, 3) := by decide +kernel
theorem dX7_touch_37 : decode cX7_touch 37 = .ok (.aload_n 0, 1) := by decide +kernel
theorem dX7_touch_38 : decode cX7_touch 38 = .ok (.invokevirtual 294, 3) := by decide +kernel
theorem dX7_touch_41 : decode cX7_touch 41 = .ok (.istore 7, 2) := by decide +kernel
theorem dX7_touch_43 : decode cX7_touch 43 = .ok (.iload 7, 2) := by decide +kernel
theorem dX7_touch_45 : decode cX7_touch 45 = .ok (.iconst 5, 1) := by decide +kernel
theorem dX7_touch_46 : decode cX7_touch 46 = .ok (.if_icmp .ne 10, 3) := by decide +kernel
theorem dX7_touch_49 : decode cX7_touch 49 = .ok (.aload_n 0, 1) := by decide +kernel
theorem dX7_touch_50 : decode cX7_touch 50 = .ok (.bipush 12, 2) := by decide +kernel
theorem dX7_touch_52 : decode cX7_touch 52 = .ok (.iload_n 1, 1) := by decide +kernel
theorem dX7_touch_53 : decode cX7_touch 53 = .ok (.invokevirtual 287, 3) := by decide +kernel
theorem dX7_touch_56 : decode cX7_touch 56 = .ok (.aload_n 0, 1) := by decide +kernel
theorem dX7_touch_57 : decode cX7_touch 57 = .ok (.getfield 101, 3) := by decide +kernel
theorem dX7_touch_60 : decode cX7_touch 60 = .ok (.iload_n 1, 1) := by decide +kernel
theorem dX7_touch_61 : decode cX7_touch 61 = .ok (.iload 7, 2) := by decide +kernel
theorem dX7_touch_63 : decode cX7_touch 63 = .ok (.ifCond .eq 9, 3) := by decide +kernel
theorem dX7_touch_66 : decode cX7_touch 66 = .ok (.iload 7, 2) := by decide +kernel
theorem dX7_touch_68 : decode cX7_touch 68 = .ok (.iconst 5, 1) := by decide +kernel
theorem dX7_touch_69 : decode cX7_touch 69 = .ok (.if_icmp .ne 8, 3) := by decide +kernel
theorem dX7_touch_72 : decode cX7_touch 72 = .ok (.bipush (-6), 2) := by decide +kernel
theorem dX7_touch_74 : decode cX7_touch 74 = .ok (.goto 7, 3) := by decide +kernel
theorem dX7_touch_77 : decode cX7_touch 77 = .ok (.aload_n 0, 1) := by decide +kernel
theorem dX7_touch_78 : decode cX7_touch 78 = .ok (.getfield 204, 3) := by decide +kernel
theorem dX7_touch_81 : decode cX7_touch 81 = .ok (.iastore, 1) := by decide +kernel
theorem dX7_touch_82 : decode cX7_touch 82 = .ok (.aload_n 0, 1) := by decide +kernel
theorem dX7_touch_83 : decode cX7_touch 83 = .ok (.getfield 104, 3) := by decide +kernel
theorem dX7_touch_86 : decode cX7_touch 86 = .ok (.iload_n 1, 1) := by decide +kernel
theorem dX7_touch_87 : decode cX7_touch 87 = .ok (.iload 7, 2) := by decide +kernel
theorem dX7_touch_89 : decode cX7_touch 89 = .ok (.iconst 1, 1) := by decide +kernel
theorem dX7_touch_90 : decode cX7_touch 90 = .ok (.if_icmp .eq 9, 3) := by decide +kernel
theorem dX7_touch_93 : decode cX7_touch 93 = .ok (.iload 7, 2) := by decide +kernel
theorem dX7_touch_95 : decode cX7_touch 95 = .ok (.iconst 2, 1) := by decide +kernel
theorem dX7_touch_96 : decode cX7_touch 96 = .ok (.if_icmp .ne 10, 3) := by decide +kernel
theorem dX7_touch_99 : decode cX7_touch 99 = .ok (.aload_n 0, 1) := by decide +kernel
theorem dX7_touch_100 : decode cX7_touch 100 = .ok (.getfield 207, 3) := by decide +kernel
theorem dX7_touch_103 : decode cX7_touch 103 = .ok (.goto 5, 3) := by decide +kernel
theorem dX7_touch_106 : decode cX7_touch 106 = .ok (.bipush (-6), 2) := by decide +kernel
theorem dX7_touch_108 : decode cX7_touch 108 = .ok (.iastore, 1) := by decide +kernel
theorem dX7_touch_109 : decode cX7_touch 109 = .ok (.aload_n 0, 1) := by decide +kernel
theorem dX7_touch_110 : decode cX7_touch 110 = .ok (.getfield 107, 3) := by decide +kernel
theorem dX7_touch_113 : decode cX7_touch 113 = .ok (.iconst 4, 1) := by decide +kernel
theorem dX7_touch_114 : decode cX7_touch 114 = .ok (.iload_n 1, 1) := by decide +kernel
theorem dX7_touch_115 : decode cX7_touch 115 = .ok (.imul, 1) := by decide +kernel
theorem dX7_touch_116 : decode cX7_touch 116 = .ok (.aload_n 0, 1) := by decide +kernel
theorem dX7_touch_117 : decode cX7_touch 117 = .ok (.getfield 250, 3) := by decide +kernel
theorem dX7_touch_120 : decode cX7_touch 120 = .ok (.iastore, 1) := by decide +kernel
theorem dX7_touch_121 : decode cX7_touch 121 = .ok (.aload_n 0, 1) := by decide +kernel
theorem dX7_touch_122 : decode cX7_touch 122 = .ok (.getfield 107, 3) := by decide +kernel
theorem dX7_touch_125 : decode cX7_touch 125 = .ok (.iconst 4, 1) := by decide +kernel
theorem dX7_touch_126 : decode cX7_touch 126 = .ok (.iload_n 1, 1) := by decide +kernel
theorem dX7_touch_127 : decode cX7_touch 127 = .ok (.imul, 1) := by decide +kernel
theorem dX7_touch_128 : decode cX7_touch 128 = .ok (.iconst 1, 1) := by decide +kernel
theorem dX7_touch_129 : decode cX7_touch 129 = .ok (.iadd, 1) := by decide +kernel
theorem dX7_touch_130 : decode cX7_touch 130 = .ok (.aload_n 0, 1) := by decide +kernel
theorem dX7_touch_131 : decode cX7_touch 131 = .ok (.getfield 216, 3) := by decide +kernel
theorem dX7_touch_134 : decode cX7_touch 134 = .ok (.iastore, 1) := by decide +kernel
theorem dX7_touch_135 : decode cX7_touch 135 = .ok (.aload_n 0, 1) := by decide +kernel
theorem dX7_touch_136 : decode cX7_touch 136 = .ok (.getfield 107, 3) := by decide +kernel
theorem dX7_touch_139 : decode cX7_touch 139 = .ok (.iconst 4, 1) := by decide +kernel
theorem dX7_touch_140 : decode cX7_touch 140 = .ok (.iload_n 1, 1) := by decide +kernel
theorem dX7_touch_141 : decode cX7_touch 141 = .ok (.imul, 1) := by decide +kernel
theorem dX7_touch_142 : decode cX7_touch 142 = .ok (.iconst 2, 1) := by decide +kernel
theorem dX7_touch_143 : decode cX7_touch 143 = .ok (.iadd, 1) := by decide +kernel
theorem dX7_touch_144 : decode cX7_touch 144 = .ok (.aload_n 0, 1) := by decide +kernel
theorem dX7_touch_145 : decode cX7_touch 145 = .ok (.getfield 194, 3) := by decide +kernel
theorem dX7_touch_148 : decode cX7_touch 148 = .ok (.iastore, 1) := by decide +kernel
theorem dX7_touch_149 : decode cX7_touch 149 = .ok (.aload_n 0, 1) := by decide +kernel
theorem dX7_touch_150 : decode cX7_touch 150 = .ok (.getfield 107, 3) := by decide +kernel
theorem dX7_touch_153 : decode cX7_touch 153 = .ok (.iconst 4, 1) := by decide +kernel
theorem dX7_touch_154 : decode cX7_touch 154 = .ok (.iload_n 1, 1) := by decide +kernel
theorem dX7_touch_155 : decode cX7_touch 155 = .ok (.imul, 1) := by decide +kernel
theorem dX7_touch_156 : decode cX7_touch 156 = .ok (.iconst 3, 1) := by decide +kernel
theorem dX7_touch_157 : decode cX7_touch 157 = .ok (.iadd, 1) := by decide +kernel
theorem dX7_touch_158 : decode cX7_touch 158 = .ok (.aload_n 0, 1) := by decide +kernel
theorem dX7_touch_159 : decode cX7_touch 159 = .ok (.getfield 225, 3) := by decide +kernel
theorem dX7_touch_162 : decode cX7_touch 162 = .ok (.iastore, 1) := by decide +kernel
theorem dX7_touch_163 : decode cX7_touch 163 = .ok (.iload 7, 2) := by decide +kernel
theorem dX7_touch_165 : decode cX7_touch 165 = .ok (.ireturn, 1) := by decide +kernel
theorem dX7_foretell_0 : decode cX7_foretell 0 = .ok (.aload_n 0, 1) := by decide +kernel
theorem dX7_foretell_1 : decode cX7_foretell 1 = .ok (.iload_n 1, 1) := by decide +kernel
theorem dX7_foretell_2 : decode cX7_foretell 2 = .ok (.iload_n 2, 1) := by decide +kernel
theorem dX7_foretell_3 : decode cX7_foretell 3 = .ok (.iload_n 3, 1) := by decide +kernel
theorem dX7_foretell_4 : decode cX7_foretell 4 = .ok (.iload 4, 2) := by decide +kernel
theorem dX7_foretell_6 : decode cX7_foretell 6 = .ok (.invokevirtual 283, 3) := by decide +kernel
theorem dX7_foretell_9 : decode cX7_foretell 9 = .ok (.istore 6, 2) := by decide +kernel
theorem dX7_foretell_11 : decode cX7_foretell 11 = .ok (.iload 6, 2) := by decide +kernel
theorem dX7_foretell_13 : decode cX7_foretell 13 = .ok (.ifCond .ge 6, 3) := by decide +kernel
theorem dX7_foretell_16 : decode cX7_foretell 16 = .ok (.iload 6, 2) := by decide +kernel
theorem dX7_foretell_18 : decode cX7_foretell 18 = .ok (.ireturn, 1) := by decide +kernel
theorem dX7_foretell_19 : decode cX7_foretell 19 = .ok (.aload_n 0, 1) := by decide +kernel
theorem dX7_foretell_20 : decode cX7_foretell 20 = .ok (.iload_n 1, 1) := by decide +kernel
theorem dX7_foretell_21 : decode cX7_foretell 21 = .ok (.bipush 12, 2) := by decide +kernel
theorem dX7_foretell_23 : decode cX7_foretell 23 = .ok (.invokevirtual 287, 3) := by decide +kernel
theorem dX7_foretell_26 : decode cX7_foretell 26 = .ok (.aload_n 0, 1) := by decide +kernel
theorem dX7_foretell_27 : decode cX7_foretell 27 = .ok (.iload_n 1, 1) := by decide +kernel
theorem dX7_foretell_28 : decode cX7_foretell 28 = .ok (.iload_n 2, 1) := by decide +kernel
theorem dX7_foretell_29 : decode cX7_foretell 29 = .ok (.iload_n 3, 1) := by decide +kernel
theorem dX7_foretell_30 : decode cX7_foretell 30 = .ok (.iload 4, 2) := by decide +kernel
theorem dX7_foretell_32 : decode cX7_foretell 32 = .ok (.iload 5, 2) := by decide +kernel
theorem dX7_foretell_34 : decode cX7_foretell 34 = .ok (.invokevirtual 290, 3) := by decide +kernel
theorem dX7_foretell_37 : decode cX7_foretell 37 = .ok (.aload_n 0, 1) := by decide +kernel
theorem dX7_foretell_38 : decode cX7_foretell 38 = .ok (.bipush 12, 2) := by decide +kernel
theorem dX7_foretell_40 : decode cX7_foretell 40 = .ok (.iload_n 1, 1) := by decide +kernel
theorem dX7_foretell_41 : decode cX7_foretell 41 = .ok (.invokevirtual 287, 3) := by decide +kernel
theorem dX7_foretell_44 : decode cX7_foretell 44 = .ok (.aload_n 0, 1) := by decide +kernel
theorem dX7_foretell_45 : decode cX7_foretell 45 = .ok (.invokevirtual 294, 3) := by decide +kernel
theorem dX7_foretell_48 : decode cX7_foretell 48 = .ok (.ireturn, 1) := by decide +kernel
theorem dX7_state_0 : decode cX7_state 0 = .ok (.aload_n 0, 1) := by decide +kernel
theorem dX7_state_1 : decode cX7_state 1 = .ok (.iload_n 1, 1) := by decide +kernel
theorem dX7_state_2 : decode cX7_state 2 = .ok (.invokevirtual 280, 3) := by decide +kernel
theorem dX7_state_5 : decode cX7_state 5 = .ok (.ifCond .eq 25, 3) := by decide +kernel
theorem dX7_state_8 : decode cX7_state 8 = .ok (.aload_n 0, 1) := by decide +kernel
theorem dX7_state_9 : decode cX7_state 9 = .ok (.iload_n 2, 1) := by decide +kernel
theorem dX7_state_10 : decode cX7_state 10 = .ok (.invokevirtual 136, 3) := by decide +kernel
theorem dX7_state_13 : decode cX7_state 13 = .ok (.ifCond .eq 17, 3) := by decide +kernel
theorem dX7_state_16 : decode cX7_state 16 = .ok (.aload_n 0, 1) := by decide +kernel
theorem dX7_state_17 : decode cX7_state 17 = .ok (.getfield 83, 3) := by decide +kernel
theorem dX7_state_20 : decode cX7_state 20 = .ok (.bipush 40, 2) := by decide +kernel
theorem dX7_state_22 : decode cX7_state 22 = .ok (.iload_n 1, 1) := by decide +kernel
theorem dX7_state_23 : decode cX7_state 23 = .ok (.imul, 1) := by decide +kernel
theorem dX7_state_24 : decode cX7_state 24 = .ok (.iload_n 2, 1) := by decide +kernel
theorem dX7_state_25 : decode cX7_state 25 = .ok (.iadd, 1) := by decide +kernel
theorem dX7_state_26 : decode cX7_state 26 = .ok (.iaload, 1) := by decide +kernel
theorem dX7_state_27 : decode cX7_state 27 = .ok (.goto 4, 3) := by decide +kernel
theorem dX7_state_30 : decode cX7_state 30 = .ok (.iconst (-1), 1) := by decide +kernel
theorem dX7_state_31 : decode cX7_state 31 = .ok (.ireturn, 1) := by decide +kernel
theorem dX7_began_0 : decode cX7_began 0 = .ok (.aload_n 0, 1) := by decide +kernel
theorem dX7_began_1 : decode cX7_began 1 = .ok (.iload_n 1, 1) := by decide +kernel
theorem dX7_began_2 : decode cX7_began 2 = .ok (.invokevirtual 280, 3) := by decide +kernel
theorem dX7_began_5 : decode cX7_began 5 = .ok (.ifCond .ne 7, 3) := by decide +kernel
theorem dX7_began_8 : decode cX7_began 8 = .ok (.iconst (-1), 1) := by decide +kernel
theorem dX7_began_9 : decode cX7_began 9 = .ok (.goto 49, 3) := by decide +kernel
theorem dX7_began_12 : decode cX7_began 12 = .ok (.iload_n 2, 1) := by decide +kernel
theorem dX7_began_13 : decode cX7_began 13 = .ok (.iconst (-1), 1) := by decide +kernel
theorem dX7_began_14 : decode cX7_began 14 = .ok (.if_icmp .ne 12, 3) := by decide +kernel
theorem dX7_began_17 : decode cX7_began 17 = .ok (.aload_n 0, 1) := by decide +kernel
theorem dX7_began_18 : decode cX7_began 18 = .ok (.getfield 95, 3) := by decide +kernel
theorem dX7_began_21 : decode cX7_began 21 = .ok (.iload_n 1, 1) := by decide +kernel
theorem dX7_began_22 : decode cX7_began 22 = .ok (.iaload, 1) := by decide +kernel
theorem dX7_began_23 : decode cX7_began 23 = .ok (.goto 35, 3) := by decide +kernel
theorem dX7_began_26 : decode cX7_began 26 = .ok (.iload_n 2, 1) := by decide +kernel
theorem dX7_began_27 : decode cX7_began 27 = .ok (.iconst 0, 1) := by decide +kernel
theorem dX7_began_28 : decode cX7_began 28 = .ok (.aload_n 0, 1) := by decide +kernel
theorem dX7_began_29 : decode cX7_began 29 = .ok (.getfield 95, 3) := by decide +kernel
theorem dX7_began_32 : decode cX7_began 32 = .ok (.iload_n 1, 1) := by decide +kernel
theorem dX7_began_33 : decode cX7_began 33 = .ok (.iaload, 1) := by decide +kernel
theorem dX7_began_34 : decode cX7_began 34 = .ok (.iconst 1, 1) := by decide +kernel
theorem dX7_began_35 : decode cX7_began 35 = .ok (.isub, 1) := by decide +kernel
theorem dX7_began_36 : decode cX7_began 36 = .ok (.invokestatic 132, 3) := by decide +kernel
theorem dX7_began_39 : decode cX7_began 39 = .ok (.ifCond .eq 17, 3) := by decide +kernel
theorem dX7_began_42 : decode cX7_began 42 = .ok (.aload_n 0, 1) := by decide +kernel
theorem dX7_began_43 : decode cX7_began 43 = .ok (.getfield 98, 3) := by decide +kernel
theorem dX7_began_46 : decode cX7_began 46 = .ok (.bipush 40, 2) := by decide +kernel
theorem dX7_began_48 : decode cX7_began 48 = .ok (.iload_n 1, 1) := by decide +kernel
theorem dX7_began_49 : decode cX7_began 49 = .ok (.imul, 1) := by decide +kernel
theorem dX7_began_50 : decode cX7_began 50 = .ok (.iload_n 2, 1) := by decide +kernel
theorem dX7_began_51 : decode cX7_began 51 = .ok (.iadd, 1) := by decide +kernel
theorem dX7_began_52 : decode cX7_began 52 = .ok (.iaload, 1) := by decide +kernel
theorem dX7_began_53 : decode cX7_began 53 = .ok (.goto 5, 3) := by decide +kernel
theorem dX7_began_56 : decode cX7_began 56 = .ok (.bipush (-6), 2) := by decide +kernel
theorem dX7_began_58 : decode cX7_began 58 = .ok (.ireturn, 1) := by decide +kernel
theorem dX7_tape_0 : decode cX7_tape 0 = .ok (.aload_n 0, 1) := by decide +kernel
theorem dX7_tape_1 : decode cX7_tape 1 = .ok (.iload_n 1, 1) := by decide +kernel
theorem dX7_tape_2 : decode cX7_tape 2 = .ok (.invokevirtual 280, 3) := by decide +kernel
theorem dX7_tape_5 : decode cX7_tape 5 = .ok (.ifCond .ne 7, 3) := by decide +kernel
theorem dX7_tape_8 : decode cX7_tape 8 = .ok (.iconst 0, 1) := by decide +kernel
theorem dX7_tape_9 : decode cX7_tape 9 = .ok (.goto 56, 3) := by decide +kernel
theorem dX7_tape_12 : decode cX7_tape 12 = .ok (.iload_n 2, 1) := by decide +kernel
theorem dX7_tape_13 : decode cX7_tape 13 = .ok (.iconst (-1), 1) := by decide +kernel
theorem dX7_tape_14 : decode cX7_tape 14 = .ok (.if_icmp .ne 12, 3) := by decide +kernel
theorem dX7_tape_17 : decode cX7_tape 17 = .ok (.aload_n 0, 1) := by decide +kernel
theorem dX7_tape_18 : decode cX7_tape 18 = .ok (.getfield 89, 3) := by decide +kernel
theorem dX7_tape_21 : decode cX7_tape 21 = .ok (.iload_n 1, 1) := by decide +kernel
theorem dX7_tape_22 : decode cX7_tape 22 = .ok (.iaload, 1) := by decide +kernel
theorem dX7_tape_23 : decode cX7_tape 23 = .ok (.goto 42, 3) := by decide +kernel
theorem dX7_tape_26 : decode cX7_tape 26 = .ok (.iload_n 2, 1) := by decide +kernel
theorem dX7_tape_27 : decode cX7_tape 27 = .ok (.iconst 0, 1) := by decide +kernel
theorem dX7_tape_28 : decode cX7_tape 28 = .ok (.aload_n 0, 1) := by decide +kernel
theorem dX7_tape_29 : decode cX7_tape 29 = .ok (.getfield 89, 3) := by decide +kernel
theorem dX7_tape_32 : decode cX7_tape 32 = .ok (.iload_n 1, 1) := by decide +kernel
theorem dX7_tape_33 : decode cX7_tape 33 = .ok (.iaload, 1) := by decide +kernel
theorem dX7_tape_34 : decode cX7_tape 34 = .ok (.iconst 1, 1) := by decide +kernel
theorem dX7_tape_35 : decode cX7_tape 35 = .ok (.isub, 1) := by decide +kernel
theorem dX7_tape_36 : decode cX7_tape 36 = .ok (.invokestatic 132, 3) := by decide +kernel
theorem dX7_tape_39 : decode cX7_tape 39 = .ok (.ifCond .eq 25, 3) := by decide +kernel
theorem dX7_tape_42 : decode cX7_tape 42 = .ok (.iload_n 2, 1) := by decide +kernel
theorem dX7_tape_43 : decode cX7_tape 43 = .ok (.sipush 300, 3) := by decide +kernel
theorem dX7_tape_46 : decode cX7_tape 46 = .ok (.if_icmp .ge 18, 3) := by decide +kernel
theorem dX7_tape_49 : decode cX7_tape 49 = .ok (.aload_n 0, 1) := by decide +kernel
theorem dX7_tape_50 : decode cX7_tape 50 = .ok (.getfield 92, 3) := by decide +kernel
theorem dX7_tape_53 : decode cX7_tape 53 = .ok (.sipush 300, 3) := by decide +kernel
theorem dX7_tape_56 : decode cX7_tape 56 = .ok (.iload_n 1, 1) := by decide +kernel
theorem dX7_tape_57 : decode cX7_tape 57 = .ok (.imul, 1) := by decide +kernel
theorem dX7_tape_58 : decode cX7_tape 58 = .ok (.iload_n 2, 1) := by decide +kernel
theorem dX7_tape_59 : decode cX7_tape 59 = .ok (.iadd, 1) := by decide +kernel
theorem dX7_tape_60 : decode cX7_tape 60 = .ok (.iaload, 1) := by decide +kernel
theorem dX7_tape_61 : decode cX7_tape 61 = .ok (.goto 4, 3) := by decide +kernel
theorem dX7_tape_64 : decode cX7_tape 64 = .ok (.iconst 0, 1) := by decide +kernel
theorem dX7_tape_65 : decode cX7_tape 65 = .ok (.ireturn, 1) := by decide +kernel
theorem dX7_value_0 : decode cX7_value 0 = .ok (.aload_n 0, 1) := by decide +kernel
theorem dX7_value_1 : decode cX7_value 1 = .ok (.iload_n 1, 1) := by decide +kernel
theorem dX7_value_2 : decode cX7_value 2 = .ok (.invokevirtual 280, 3) := by decide +kernel
theorem dX7_value_5 : decode cX7_value 5 = .ok (.ifCond .eq 21, 3) := by decide +kernel
theorem dX7_value_8 : decode cX7_value 8 = .ok (.aload_n 0, 1) := by decide +kernel
theorem dX7_value_9 : decode cX7_value 9 = .ok (.iload_n 2, 1) := by decide +kernel
theorem dX7_value_10 : decode cX7_value 10 = .ok (.invokevirtual 136, 3) := by decide +kernel
theorem dX7_value_13 : decode cX7_value 13 = .ok (.ifCond .eq 13, 3) := by decide +kernel
theorem dX7_value_16 : decode cX7_value 16 = .ok (.iload_n 3, 1) := by decide +kernel
theorem dX7_value_17 : decode cX7_value 17 = .ok (.iconst 0, 1) := by decide +kernel
theorem dX7_value_18 : decode cX7_value 18 = .ok (.bipush 9, 2) := by decide +kernel
theorem dX7_value_20 : decode cX7_value 20 = .ok (.invokestatic 132, 3) := by decide +kernel
theorem dX7_value_23 : decode cX7_value 23 = .ok (.ifCond .ne 5, 3) := by decide +kernel
theorem dX7_value_26 : decode cX7_value 26 = .ok (.iconst 0, 1) := by decide +kernel
theorem dX7_value_27 : decode cX7_value 27 = .ok (.ireturn, 1) := by decide +kernel
theorem dX7_value_28 : decode cX7_value 28 = .ok (.aload_n 0, 1) := by decide +kernel
theorem dX7_value_29 : decode cX7_value 29 = .ok (.iload_n 2, 1) := by decide +kernel
theorem dX7_value_30 : decode cX7_value 30 = .ok (.iload_n 3, 1) := by decide +kernel
theorem dX7_value_31 : decode cX7_value 31 = .ok (.invokevirtual 161, 3) := by decide +kernel
theorem dX7_value_34 : decode cX7_value 34 = .ok (.istore 4, 2) := by decide +kernel
theorem dX7_value_36 : decode cX7_value 36 = .ok (.iload 4, 2) := by decide +kernel
theorem dX7_value_38 : decode cX7_value 38 = .ok (.ifCond .ge 7, 3) := by decide +kernel
theorem dX7_value_41 : decode cX7_value 41 = .ok (.iconst 0, 1) := by decide +kernel
theorem dX7_value_42 : decode cX7_value 42 = .ok (.goto 36, 3) := by decide +kernel
theorem dX7_value_45 : decode cX7_value 45 = .ok (.aload_n 0, 1) := by decide +kernel
theorem dX7_value_46 : decode cX7_value 46 = .ok (.getfield 32, 3) := by decide +kernel
theorem dX7_value_49 : decode cX7_value 49 = .ok (.iload 4, 2) := by decide +kernel
theorem dX7_value_51 : decode cX7_value 51 = .ok (.baload, 1) := by decide +kernel
theorem dX7_value_52 : decode cX7_value 52 = .ok (.ifCond .eq 13, 3) := by decide +kernel
theorem dX7_value_55 : decode cX7_value 55 = .ok (.aload_n 0, 1) := by decide +kernel
theorem dX7_value_56 : decode cX7_value 56 = .ok (.getfield 35, 3) := by decide +kernel
theorem dX7_value_59 : decode cX7_value 59 = .ok (.iload 4, 2) := by decide +kernel
theorem dX7_value_61 : decode cX7_value 61 = .ok (.iaload, 1) := by decide +kernel
theorem dX7_value_62 : decode cX7_value 62 = .ok (.goto 16, 3) := by decide +kernel
theorem dX7_value_65 : decode cX7_value 65 = .ok (.aload_n 0, 1) := by decide +kernel
theorem dX7_value_66 : decode cX7_value 66 = .ok (.getfield 86, 3) := by decide +kernel
theorem dX7_value_69 : decode cX7_value 69 = .ok (.sipush 240, 3) := by decide +kernel
theorem dX7_value_72 : decode cX7_value 72 = .ok (.iload_n 1, 1) := by decide +kernel
theorem dX7_value_73 : decode cX7_value 73 = .ok (.imul, 1) := by decide +kernel
theorem dX7_value_74 : decode cX7_value 74 = .ok (.iload 4, 2) := by decide +kernel
theorem dX7_value_76 : decode cX7_value 76 = .ok (.iadd, 1) := by decide +kernel
theorem dX7_value_77 : decode cX7_value 77 = .ok (.iaload, 1) := by decide +kernel
theorem dX7_value_78 : decode cX7_value 78 = .ok (.ireturn, 1) := by decide +kernel
theorem dX7_failed_0 : decode cX7_failed 0 = .ok (.aload_n 0, 1) := by decide +kernel
theorem dX7_failed_1 : decode cX7_failed 1 = .ok (.iload_n 1, 1) := by decide +kernel
theorem dX7_failed_2 : decode cX7_failed 2 = .ok (.invokevirtual 280, 3) := by decide +kernel
theorem dX7_failed_5 : decode cX7_failed 5 = .ok (.ifCond .ne 7, 3) := by decide +kernel
theorem dX7_failed_8 : decode cX7_failed 8 = .ok (.iconst (-1), 1) := by decide +kernel
theorem dX7_failed_9 : decode cX7_failed 9 = .ok (.goto 32, 3) := by decide +kernel
theorem dX7_failed_12 : decode cX7_failed 12 = .ok (.iload_n 2, 1) := by decide +kernel
theorem dX7_failed_13 : decode cX7_failed 13 = .ok (.ifCond .ne 12, 3) := by decide +kernel
theorem dX7_failed_16 : decode cX7_failed 16 = .ok (.aload_n 0, 1) := by decide +kernel
theorem dX7_failed_17 : decode cX7_failed 17 = .ok (.getfield 101, 3) := by decide +kernel
theorem dX7_failed_20 : decode cX7_failed 20 = .ok (.iload_n 1, 1) := by decide +kernel
theorem dX7_failed_21 : decode cX7_failed 21 = .ok (.iaload, 1) := by decide +kernel
theorem dX7_failed_22 : decode cX7_failed 22 = .ok (.goto 19, 3) := by decide +kernel
theorem dX7_failed_25 : decode cX7_failed 25 = .ok (.iload_n 2, 1) := by decide +kernel
theorem dX7_failed_26 : decode cX7_failed 26 = .ok (.iconst 1, 1) := by decide +kernel
theorem dX7_failed_27 : decode cX7_failed 27 = .ok (.if_icmp .ne 12, 3) := by decide +kernel
theorem dX7_failed_30 : decode cX7_failed 30 = .ok (.aload_n 0, 1) := by decide +kernel
theorem dX7_failed_31 : decode cX7_failed 31 = .ok (.getfield 104, 3) := by decide +kernel
theorem dX7_failed_34 : decode cX7_failed 34 = .ok (.iload_n 1, 1) := by decide +kernel
theorem dX7_failed_35 : decode cX7_failed 35 = .ok (.iaload, 1) := by decide +kernel
theorem dX7_failed_36 : decode cX7_failed 36 = .ok (.goto 5, 3) := by decide +kernel
theorem dX7_failed_39 : decode cX7_failed 39 = .ok (.bipush (-2), 2) := by decide +kernel
theorem dX7_failed_41 : decode cX7_failed 41 = .ok (.ireturn, 1) := by decide +kernel
theorem dX7_spent_0 : decode cX7_spent 0 = .ok (.aload_n 0, 1) := by decide +kernel
theorem dX7_spent_1 : decode cX7_spent 1 = .ok (.iload_n 1, 1) := by decide +kernel
theorem dX7_spent_2 : decode cX7_spent 2 = .ok (.invokevirtual 280, 3) := by decide +kernel
theorem dX7_spent_5 : decode cX7_spent 5 = .ok (.ifCond .ne 7, 3) := by decide +kernel
theorem dX7_spent_8 : decode cX7_spent 8 = .ok (.iconst (-1), 1) := by decide +kernel
theorem dX7_spent_9 : decode cX7_spent 9 = .ok (.goto 27, 3) := by decide +kernel
theorem dX7_spent_12 : decode cX7_spent 12 = .ok (.iload_n 2, 1) := by decide +kernel
theorem dX7_spent_13 : decode cX7_spent 13 = .ok (.iconst 0, 1) := by decide +kernel
theorem dX7_spent_14 : decode cX7_spent 14 = .ok (.iconst 3, 1) := by decide +kernel
theorem dX7_spent_15 : decode cX7_spent 15 = .ok (.invokestatic 132, 3) := by decide +kernel
theorem dX7_spent_18 : decode cX7_spent 18 = .ok (.ifCond .eq 16, 3) := by decide +kernel
theorem dX7_spent_21 : decode cX7_spent 21 = .ok (.aload_n 0, 1) := by decide +kernel
theorem dX7_spent_22 : decode cX7_spent 22 = .ok (.getfield 107, 3) := by decide +kernel
theorem dX7_spent_25 : decode cX7_spent 25 = .ok (.iconst 4, 1) := by decide +kernel
theorem dX7_spent_26 : decode cX7_spent 26 = .ok (.iload_n 1, 1) := by decide +kernel
theorem dX7_spent_27 : decode cX7_spent 27 = .ok (.imul, 1) := by decide +kernel
theorem dX7_spent_28 : decode cX7_spent 28 = .ok (.iload_n 2, 1) := by decide +kernel
theorem dX7_spent_29 : decode cX7_spent 29 = .ok (.iadd, 1) := by decide +kernel
theorem dX7_spent_30 : decode cX7_spent 30 = .ok (.iaload, 1) := by decide +kernel
theorem dX7_spent_31 : decode cX7_spent 31 = .ok (.goto 5, 3) := by decide +kernel
theorem dX7_spent_34 : decode cX7_spent 34 = .ok (.bipush (-2), 2) := by decide +kernel
theorem dX7_spent_36 : decode cX7_spent 36 = .ok (.ireturn, 1) := by decide +kernel
theorem dX7_many_0 : decode cX7_many 0 = .ok (.aload_n 0, 1) := by decide +kernel
theorem dX7_many_1 : decode cX7_many 1 = .ok (.iload_n 1, 1) := by decide +kernel
theorem dX7_many_2 : decode cX7_many 2 = .ok (.invokevirtual 280, 3) := by decide +kernel
theorem dX7_many_5 : decode cX7_many 5 = .ok (.ifCond .ne 5, 3) := by decide +kernel
theorem dX7_many_8 : decode cX7_many 8 = .ok (.iconst (-1), 1) := by decide +kernel
theorem dX7_many_9 : decode cX7_many 9 = .ok (.ireturn, 1) := by decide +kernel
theorem dX7_many_10 : decode cX7_many 10 = .ok (.iload_n 2, 1) := by decide +kernel
theorem dX7_many_11 : decode cX7_many 11 = .ok (.iconst 0, 1) := by decide +kernel
theorem dX7_many_12 : decode cX7_many 12 = .ok (.iconst 3, 1) := by decide +kernel
theorem dX7_many_13 : decode cX7_many 13 = .ok (.invokestatic 132, 3) := by decide +kernel
theorem dX7_many_16 : decode cX7_many 16 = .ok (.ifCond .ne 6, 3) := by decide +kernel
theorem dX7_many_19 : decode cX7_many 19 = .ok (.bipush (-2), 2) := by decide +kernel
theorem dX7_many_21 : decode cX7_many 21 = .ok (.ireturn, 1) := by decide +kernel
theorem dX7_many_22 : decode cX7_many 22 = .ok (.iconst 0, 1) := by decide +kernel
theorem dX7_many_23 : decode cX7_many 23 = .ok (.istore_n 3, 1) := by decide +kernel
theorem dX7_many_24 : decode cX7_many 24 = .ok (.iconst 0, 1) := by decide +kernel
theorem dX7_many_25 : decode cX7_many 25 = .ok (.istore 4, 2) := by decide +kernel
theorem dX7_many_27 : decode cX7_many 27 = .ok (.iload 4, 2) := by decide +kernel
theorem dX7_many_29 : decode cX7_many 29 = .ok (.aload_n 0, 1) := by decide +kernel
theorem dX7_many_30 : decode cX7_many 30 = .ok (.getfield 128, 3) := by decide +kernel
theorem dX7_many_33 : decode cX7_many 33 = .ok (.if_icmp .ge 33, 3) := by decide +kernel
theorem dX7_many_36 : decode cX7_many 36 = .ok (.iload_n 3, 1) := by decide +kernel
theorem dX7_many_37 : decode cX7_many 37 = .ok (.aload_n 0, 1) := by decide +kernel
theorem dX7_many_38 : decode cX7_many 38 = .ok (.getfield 83, 3) := by decide +kernel
theorem dX7_many_41 : decode cX7_many 41 = .ok (.bipush 40, 2) := by decide +kernel
theorem dX7_many_43 : decode cX7_many 43 = .ok (.iload_n 1, 1) := by decide +kernel
theorem dX7_many_44 : decode cX7_many 44 = .ok (.imul, 1) := by decide +kernel
theorem dX7_many_45 : decode cX7_many 45 = .ok (.iload 4, 2) := by decide +kernel
theorem dX7_many_47 : decode cX7_many 47 = .ok (.iadd, 1) := by decide +kernel
theorem dX7_many_48 : decode cX7_many 48 = .ok (.iaload, 1) := by decide +kernel
theorem dX7_many_49 : decode cX7_many 49 = .ok (.iload_n 2, 1) := by decide +kernel
theorem dX7_many_50 : decode cX7_many 50 = .ok (.if_icmp .ne 7, 3) := by decide +kernel
theorem dX7_many_53 : decode cX7_many 53 = .ok (.iconst 1, 1) := by decide +kernel
theorem dX7_many_54 : decode cX7_many 54 = .ok (.goto 4, 3) := by decide +kernel
theorem dX7_many_57 : decode cX7_many 57 = .ok (.iconst 0, 1) := by decide +kernel
theorem dX7_many_58 : decode cX7_many 58 = .ok (.iadd, 1) := by decide +kernel
theorem dX7_many_59 : decode cX7_many 59 = .ok (.istore_n 3, 1) := by decide +kernel
theorem dX7_many_60 : decode cX7_many 60 = .ok (.iinc 4 1, 3) := by decide +kernel
theorem dX7_many_63 : decode cX7_many 63 = .ok (.goto (-36), 3) := by decide +kernel
theorem dX7_many_66 : decode cX7_many 66 = .ok (.iload_n 3, 1) := by decide +kernel
theorem dX7_many_67 : decode cX7_many 67 = .ok (.ireturn, 1) := by decide +kernel
theorem dX7_differs_0 : decode cX7_differs 0 = .ok (.aload_n 0, 1) := by decide +kernel
theorem dX7_differs_1 : decode cX7_differs 1 = .ok (.iload_n 1, 1) := by decide +kernel
theorem dX7_differs_2 : decode cX7_differs 2 = .ok (.invokevirtual 280, 3) := by decide +kernel
theorem dX7_differs_5 : decode cX7_differs 5 = .ok (.ifCond .eq 11, 3) := by decide +kernel
theorem dX7_differs_8 : decode cX7_differs 8 = .ok (.aload_n 0, 1) := by decide +kernel
theorem dX7_differs_9 : decode cX7_differs 9 = .ok (.iload_n 2, 1) := by decide +kernel
theorem dX7_differs_10 : decode cX7_differs 10 = .ok (.invokevirtual 280, 3) := by decide +kernel
theorem dX7_differs_13 : decode cX7_differs 13 = .ok (.ifCond .ne 5, 3) := by decide +kernel
theorem dX7_differs_16 : decode cX7_differs 16 = .ok (.iconst (-1), 1) := by decide +kernel
theorem dX7_differs_17 : decode cX7_differs 17 = .ok (.ireturn, 1) := by decide +kernel
theorem dX7_differs_18 : decode cX7_differs 18 = .ok (.iconst 0, 1) := by decide +kernel
theorem dX7_differs_19 : decode cX7_differs 19 = .ok (.istore_n 3, 1) := by decide +kernel
theorem dX7_differs_20 : decode cX7_differs 20 = .ok (.iload_n 3, 1) := by decide +kernel
theorem dX7_differs_21 : decode cX7_differs 21 = .ok (.aload_n 0, 1) := by decide +kernel
theorem dX7_differs_22 : decode cX7_differs 22 = .ok (.getfield 128, 3) := by decide +kernel
theorem dX7_differs_25 : decode cX7_differs 25 = .ok (.if_icmp .ge 117, 3) := by decide +kernel
theorem dX7_differs_28 : decode cX7_differs 28 = .ok (.aload_n 0, 1) := by decide +kernel
theorem dX7_differs_29 : decode cX7_differs 29 = .ok (.getfield 83, 3) := by decide +kernel
theorem dX7_differs_32 : decode cX7_differs 32 = .ok (.bipush 40, 2) := by decide +kernel
theorem dX7_differs_34 : decode cX7_differs 34 = .ok (.iload_n 1, 1) := by decide +kernel
theorem dX7_differs_35 : decode cX7_differs 35 = .ok (.imul, 1) := by decide +kernel
theorem dX7_differs_36 : decode cX7_differs 36 = .ok (.iload_n 3, 1) := by decide +kernel
theorem dX7_differs_37 : decode cX7_differs 37 = .ok (.iadd, 1) := by decide +kernel
theorem dX7_differs_38 : decode cX7_differs 38 = .ok (.iaload, 1) := by decide +kernel
theorem dX7_differs_39 : decode cX7_differs 39 = .ok (.aload_n 0, 1) := by decide +kernel
theorem dX7_differs_40 : decode cX7_differs 40 = .ok (.getfield 83, 3) := by decide +kernel
theorem dX7_differs_43 : decode cX7_differs 43 = .ok (.bipush 40, 2) := by decide +kernel
theorem dX7_differs_45 : decode cX7_differs 45 = .ok (.iload_n 2, 1) := by decide +kernel
theorem dX7_differs_46 : decode cX7_differs 46 = .ok (.imul, 1) := by decide +kernel
theorem dX7_differs_47 : decode cX7_differs 47 = .ok (.iload_n 3, 1) := by decide +kernel
theorem dX7_differs_48 : decode cX7_differs 48 = .ok (.iadd, 1) := by decide +kernel
theorem dX7_differs_49 : decode cX7_differs 49 = .ok (.iaload, 1) := by decide +kernel
theorem dX7_differs_50 : decode cX7_differs 50 = .ok (.if_icmp .ne 7, 3) := by decide +kernel
theorem dX7_differs_53 : decode cX7_differs 53 = .ok (.iconst 1, 1) := by decide +kernel
theorem dX7_differs_54 : decode cX7_differs 54 = .ok (.goto 4, 3) := by decide +kernel
theorem dX7_differs_57 : decode cX7_differs 57 = .ok (.iconst 0, 1) := by decide +kernel
theorem dX7_differs_58 : decode cX7_differs 58 = .ok (.istore 4, 2) := by decide +kernel
theorem dX7_differs_60 : decode cX7_differs 60 = .ok (.bipush 6, 2) := by decide +kernel
theorem dX7_differs_62 : decode cX7_differs 62 = .ok (.iload_n 3, 1) := by decide +kernel
theorem dX7_differs_63 : decode cX7_differs 63 = .ok (.imul, 1) := by decide +kernel
theorem dX7_differs_64 : decode cX7_differs 64 = .ok (.istore 5, 2) := by decide +kernel
theorem dX7_differs_66 : decode cX7_differs 66 = .ok (.iload 5, 2) := by decide +kernel
theorem dX7_differs_68 : decode cX7_differs 68 = .ok (.bipush 6, 2) := by decide +kernel
theorem dX7_differs_70 : decode cX7_differs 70 = .ok (.iload_n 3, 1) := by decide +kernel
theorem dX7_differs_71 : decode cX7_differs 71 = .ok (.imul, 1) := by decide +kernel
theorem dX7_differs_72 : decode cX7_differs 72 = .ok (.aload_n 0, 1) := by decide +kernel
theorem dX7_differs_73 : decode cX7_differs 73 = .ok (.getfield 26, 3) := by decide +kernel
theorem dX7_differs_76 : decode cX7_differs 76 = .ok (.iload_n 3, 1) := by decide +kernel
theorem dX7_differs_77 : decode cX7_differs 77 = .ok (.iaload, 1) := by decide +kernel
theorem dX7_differs_78 : decode cX7_differs 78 = .ok (.iadd, 1) := by decide +kernel
theorem dX7_differs_79 : decode cX7_differs 79 = .ok (.if_icmp .ge 50, 3) := by decide +kernel
theorem dX7_differs_82 : decode cX7_differs 82 = .ok (.iload 4, 2) := by decide +kernel
theorem dX7_differs_84 : decode cX7_differs 84 = .ok (.ifCond .eq 36, 3) := by decide +kernel
theorem dX7_differs_87 : decode cX7_differs 87 = .ok (.aload_n 0, 1) := by decide +kernel
theorem dX7_differs_88 : decode cX7_differs 88 = .ok (.getfield 86, 3) := by decide +kernel
theorem dX7_differs_91 : decode cX7_differs 91 = .ok (.sipush 240, 3) := by decide +kernel
theorem dX7_differs_94 : decode cX7_differs 94 = .ok (.iload_n 1, 1) := by decide +kernel
theorem dX7_differs_95 : decode cX7_differs 95 = .ok (.imul, 1) := by decide +kernel
theorem dX7_differs_96 : decode cX7_differs 96 = .ok (.iload 5, 2) := by decide +kernel
theorem dX7_differs_98 : decode cX7_differs 98 = .ok (.iadd, 1) := by decide +kernel
theorem dX7_differs_99 : decode cX7_differs 99 = .ok (.iaload, 1) := by decide +kernel
theorem dX7_differs_100 : decode cX7_differs 100 = .ok (.aload_n 0, 1) := by decide +kernel
theorem dX7_differs_101 : decode cX7_differs 101 = .ok (.getfield 86, 3) := by decide +kernel
theorem dX7_differs_104 : decode cX7_differs 104 = .ok (.sipush 240, 3) := by decide +kernel
theorem dX7_differs_107 : decode cX7_differs 107 = .ok (.iload_n 2, 1) := by decide +kernel
theorem dX7_differs_108 : decode cX7_differs 108 = .ok (.imul, 1) := by decide +kernel
theorem dX7_differs_109 : decode cX7_differs 109 = .ok (.iload 5, 2) := by decide +kernel
theorem dX7_differs_111 : decode cX7_differs 111 = .ok (.iadd, 1) := by decide +kernel
theorem dX7_differs_112 : decode cX7_differs 112 = .ok (.iaload, 1) := by decide +kernel
theorem dX7_differs_113 : decode cX7_differs 113 = .ok (.if_icmp .ne 7, 3) := by decide +kernel
theorem dX7_differs_116 : decode cX7_differs 116 = .ok (.iconst 1, 1) := by decide +kernel
theorem dX7_differs_117 : decode cX7_differs 117 = .ok (.goto 4, 3) := by decide +kernel
theorem dX7_differs_120 : decode cX7_differs 120 = .ok (.iconst 0, 1) := by decide +kernel
theorem dX7_differs_121 : decode cX7_differs 121 = .ok (.istore 4, 2) := by decide +kernel
theorem dX7_differs_123 : decode cX7_differs 123 = .ok (.iinc 5 1, 3) := by decide +kernel
theorem dX7_differs_126 : decode cX7_differs 126 = .ok (.goto (-60), 3) := by decide +kernel
theorem dX7_differs_129 : decode cX7_differs 129 = .ok (.iload 4, 2) := by decide +kernel
theorem dX7_differs_131 : decode cX7_differs 131 = .ok (.ifCond .ne 5, 3) := by decide +kernel
theorem dX7_differs_134 : decode cX7_differs 134 = .ok (.iload_n 3, 1) := by decide +kernel
theorem dX7_differs_135 : decode cX7_differs 135 = .ok (.ireturn, 1) := by decide +kernel
theorem dX7_differs_136 : decode cX7_differs 136 = .ok (.iinc 3 1, 3) := by decide +kernel
theorem dX7_differs_139 : decode cX7_differs 139 = .ok (.goto (-119), 3) := by decide +kernel
theorem dX7_differs_142 : decode cX7_differs 142 = .ok (.bipush (-6), 2) := by decide +kernel
theorem dX7_differs_144 : decode cX7_differs 144 = .ok (.ireturn, 1) := by decide +kernel
end
section
/-! THE FOUNDATION: cells by tokens, values by whole numbers; a judgement V over them, a contract MT of a method; rows of V for each instruction -/
abbrev GC : Type := Launch × Nat × (Nat → ClassId) × (Nat → Nat → Nat) × (Nat → ClassId)
abbrev AV : Type := Nat × Int
abbrev Sh : Type := Int → Nat × Nat
abbrev Mem : Type := Int → Int → Int
abbrev Ad : Type := Int → Nat
def g_l (Γ : GC) : Launch := Γ.1
def g_b (Γ : GC) : Nat := Γ.2.1
def g_D (Γ : GC) : va_G := (Γ.2.2.1, Γ.2.2.2.1)
def g_A (Γ : GC) : Nat → ClassId := Γ.2.2.2.2
def tyA : Nat → FieldType := fun t => match t with
  | 20 => .int
  | 21 => .boolean
  | 22 => .long
  | 23 => .object RX4
  | 24 => .object RX1
  | 25 => .object RX0
  | _ => .object RX5
def g_ty (Γ : GC) : List (ClassId × FieldType) := [(g_A Γ 20, tyA 20), (g_A Γ 21, tyA 21), (g_A Γ 22, tyA 22), (g_A Γ 23, tyA 23), (g_A Γ 24, tyA 24), (g_A Γ 25, tyA 25), (g_A Γ 26, tyA 26)]
/-- the value of a kind (0 int, 1 boolean, 2 long, 3 reference by token, below 0: null) -/
def cv (ad : Ad) (k : Nat) (x : Int) : Value := match k with
  | 0 => .int (Int32.ofInt x)
  | 1 => .int (Int32.ofInt x)
  | 2 => .long (Int64.ofInt x)
  | 3 => if x < 0 then .null else .ref (ad x)
  | _ => .null
def cav (ad : Ad) (v : AV) : Value := cv ad v.1 v.2
abbrev inI (x : Int) : Prop := -2147483648 ≤ x ∧ x < 2147483648
abbrev inL (x : Int) : Prop := -9223372036854775808 ≤ x ∧ x < 9223372036854775808
def okx (α : Sh) (k : Nat) (x : Int) : Prop := match k with
  | 0 => inI x
  | 1 => 0 ≤ x ∧ x ≤ 1
  | 2 => inL x
  | 3 => x < 0 ∨ (α x).1 ≠ 0
  | _ => True
def okv (α : Sh) (v : AV) : Prop := okx α v.1 v.2
/-- the kind of a cell's slot, by the cell's tag (1 to 8: classes; 20 int[], 21 boolean[], 22 long[], 23 .. arrays of references) -/
def ek (tag i : Nat) : Nat := if tag < 20 then cK (tag - 1) i else if tag = 20 then 0 else if tag = 21 then 1 else if tag = 22 then 2 else 3
def WFm (α : Sh) (μ : Mem) : Prop := ∀ (t : Int) (i : Nat), (α t).1 ≠ 0 → okx α (ek (α t).1 i) (μ t i)
def ec (Γ : GC) (ad : Ad) (sh : Nat × Nat) (f : Int → Int) : va_E :=
  if sh.1 < 20 then .inr (sh.1 - 1, (List.range (cN (sh.1 - 1))).map fun k => cv ad (cK (sh.1 - 1) k) (f k))
  else if sh.1 < 22 then .inl (g_A Γ sh.1, sh.2, .inl fun i => Int32.ofInt (f i))
  else if sh.1 = 22 then .inl (g_A Γ sh.1, sh.2, .inr (.inl fun i => Int64.ofInt (f i)))
  else .inl (g_A Γ sh.1, sh.2, .inr (.inr (.inr (.inr fun i => if f i < 0 then none else some (ad (f i))))))
def hws (Γ : GC) (ad : Ad) (α : Sh) (μ : Mem) (L : List Int) : va_W := L.map fun t => (ad t, ec Γ ad (α t) (μ t))
def HR (Γ : GC) (α : Sh) (μ : Mem) (ad : Ad) (H : Heap) : Prop :=
  (∃ L : List Int, L.Nodup ∧ (∀ t, t ∈ L ↔ (α t).1 ≠ 0) ∧ va_P (g_D Γ) CL (hws Γ ad α μ L) H ∧ va_D (fun q => g_b Γ ≤ q) (hws Γ ad α μ L)) ∧ WFm α μ
def KF (Γ : GC) (U : State) : Prop := va_K (g_D Γ) CL (g_ty Γ) U ∧ (va_AO RX4 U ∧ va_AO RX1 U ∧ va_AO RX0 U ∧ va_AO RX5 U) ∧
  (∀ own idx y h, Cond.methodLinkNest own idx y h ∈ lw_tbl → va_Nw (.methodLinkNest own idx y h) U)
theorem KF.warm {Γ : GC} {s U : State} (hW : s.WarmedH U.vm) (h : KF Γ s) : KF Γ U :=
  ⟨va_K.moved hW.alike h.1, ⟨va_AO.moved hW.alike h.2.1.1, va_AO.moved hW.alike h.2.1.2.1, va_AO.moved hW.alike h.2.1.2.2.1, va_AO.moved hW.alike h.2.1.2.2.2⟩, fun o i y hh hm => va_Nw.warmM hW (h.2.2 o i y hh hm)⟩
theorem KF.same {Γ : GC} {s U : State} (hv : s.vm = U.vm) (h : KF Γ s) : KF Γ U :=
  ⟨va_K.moved (hv ▸ Vm.Alike.refl s.vm) h.1, ⟨va_AO.moved (hv ▸ Vm.Alike.refl s.vm) h.2.1.1, va_AO.moved (hv ▸ Vm.Alike.refl s.vm) h.2.1.2.1, va_AO.moved (hv ▸ Vm.Alike.refl s.vm) h.2.1.2.2.1, va_AO.moved (hv ▸ Vm.Alike.refl s.vm) h.2.1.2.2.2⟩, fun o i y hh hm => va_Nw.same rfl hv (h.2.2 o i y hh hm)⟩
/-- what stays fixed in a method's walk -/
def FX (Γ : GC) (p : Program) (s : State) (m : MethodId) (args : Array Value) (meth : Method) (c : Code) (own : String) (cc : ByteArray) (nL : Nat) (ret : Option FieldType) (nm : String) : Prop :=
  (p.tables.exec = Jvm.exec ∧ c.code = cc) ∧ c.maxLocals = nL ∧ s.vm.findClass own = some m.cls ∧ (∀ w ∈ lw_good, w.before args s = true) ∧ meth.sig.returnType = ret ∧ meth.locks = false ∧ (nm = "<init>" → meth.name = nm) ∧ KF Γ s ∧ g_b Γ ≤ s.heap.size
def asc (ad : Ad) : Nat → List AV → List (Nat × Value)
  | _, [] => []
  | i, v :: r => if v.1 = 9 then asc ad (i + 1) r else (i, cav ad v) :: asc ad (i + 1) r
def okl (α : Sh) (l : List AV) : Prop := ∀ v ∈ l, okv α v
abbrev ZT : Type := State → Array Value → List Frame → State → Prop
def EX (α0 : Sh) (ad0 : Ad) (α : Sh) (ad : Ad) : Prop := ∀ t, (α0 t).1 ≠ 0 → α t = α0 t ∧ ad t = ad0 t
def V (Γ : GC) (α0 : Sh) (ad0 : Ad) (Z : ZT) (R : Room) (own : String) (cc : ByteArray) (nL : Nat) (ret : Option FieldType) (nm : String) (pc : Nat) (st lv : List AV) (α : Sh) (μ : Mem) (cs sl : Nat) : Prop :=
  ∀ (p : Program) (e : Env) (s : State) (m : MethodId) (args : Array Value) (below : List Frame) (meth : Method) (c : Code) (ad : Ad) (H : Heap) (ls : Array Slot) (locs : List Loc),
    FX Γ p s m args meth c own cc nL ret nm → HR Γ α μ ad H → EX α0 ad0 α ad → okl α st → okl α lv → lv_has ls nL (asc ad 0 lv) → va_S (fun q => g_b Γ ≤ q) s.heap H locs →
    W p (g_l Γ) e R s m args below meth c H locs cs sl (Z s args below) (F0 m pc ls (st.map (cav ad)))
def RM (d mc ms : Nat) : Room := { frames := d, cells := mc, slots := ms, locals := 64 * d }
def QC (Γ : GC) (α0 : Sh) (ad0 : Ad) (Q : Option AV → Sh → Mem → Prop) : Array Value → State → Outcome → State → Prop := fun _ st o t =>
  (∃ (r : Option AV) (α1 : Sh) (μ1 : Mem) (ad1 : Ad), o = .returned (r.map (cav ad1)) ∧ HR Γ α1 μ1 ad1 t.heap ∧ EX α0 ad0 α1 ad1 ∧ (∀ v ∈ r, okv α1 v) ∧ Q r α1 μ1) ∧ va_F (fun q => g_b Γ ≤ q) st t
def ZM (Γ : GC) (α0 : Sh) (ad0 : Ad) (Q : Option AV → Sh → Mem → Prop) (mc ms : Nat) : ZT := fun s args below => MQ below (QC Γ α0 ad0 Q) args s mc ms (fun q => g_b Γ ≤ q)
def wsOf (y : MethodName) (cc : ByteArray) (maxL : Nat) (ret : Option FieldType) : List Cond := .code y cc maxL ret :: lw_good
/-- the contract of a method at given arguments and cells: it returns, and Q holds of the answer and the cells -/
def MT (Γ : GC) (y : MethodName) (cc : ByteArray) (maxL : Nat) (ret : Option FieldType) (d mc ms : Nat) (args : List AV) (α : Sh) (μ : Mem) (Q : Option AV → Sh → Mem → Prop) : Prop :=
  okl α args → ∀ ad : Ad, Met (g_l Γ) y (wsOf y cc maxL ret) (RM d mc ms) (va_Pc (args.map (cav ad)) (fun U => (KF Γ U ∧ g_b Γ ≤ U.heap.size) ∧ HR Γ α μ ad U.heap)) (QC Γ α ad Q) mc ms (fun q => g_b Γ ≤ q)
-- locals
theorem asc_mem {ad : Ad} : ∀ (lv : List AV) (n i : Nat) (v : AV), lv[i]? = some v → v.1 ≠ 9 → (n + i, cav ad v) ∈ asc ad n lv := by
  intro lv
  induction lv with
  | nil => intro n i v h; simp at h
  | cons a r ih =>
    intro n i v h hv
    unfold asc
    cases i with
    | zero =>
      simp at h; subst h
      rw [if_neg hv]; exact List.mem_cons_self
    | succ j =>
      have h1 := ih (n + 1) j v (by simpa using h) hv
      rw [show n + 1 + j = n + (j + 1) by omega] at h1
      split
      · exact h1
      · exact List.mem_cons_of_mem _ h1
theorem asc_of {ad : Ad} : ∀ (lv : List AV) (n : Nat) (q : Nat × Value), q ∈ asc ad n lv → ∃ i v, lv[i]? = some v ∧ v.1 ≠ 9 ∧ q = (n + i, cav ad v) := by
  intro lv
  induction lv with
  | nil => intro n q h; simp [asc] at h
  | cons a r ih =>
    intro n q h
    unfold asc at h
    have tl : q ∈ asc ad (n + 1) r → ∃ i v, (a :: r)[i]? = some v ∧ v.1 ≠ 9 ∧ q = (n + i, cav ad v) := by
      intro h1
      obtain ⟨i, v, e1, e2, e3⟩ := ih (n + 1) q h1
      exact ⟨i + 1, v, by simpa using e1, e2, by rw [e3, show n + 1 + i = n + (i + 1) by omega]⟩
    split at h
    · exact tl h
    · rcases List.mem_cons.mp h with h1 | h1
      · exact ⟨0, a, rfl, by assumption, h1⟩
      · exact tl h1
theorem asc_at {ad : Ad} {ls : Array Slot} {nL i : Nat} {lv : List AV} {v : AV} (h : lv_has ls nL (asc ad 0 lv)) (hv : lv[i]? = some v) (h9 : v.1 ≠ 9) : ls[i]? = some (.val (cav ad v)) := by
  have h1 := asc_mem (ad := ad) lv 0 i v hv h9
  rw [Nat.zero_add] at h1
  exact h.2.2 _ h1
def okst (lv : List AV) (i : Nat) : Bool := match i with
  | 0 => true
  | j + 1 => match lv[j]? with
    | some v => v.1 != 2
    | none => true
theorem cav_cat {ad : Ad} {v : AV} (h : v.1 ≠ 2) : (cav ad v).category ≠ 2 := by
  obtain ⟨k, x⟩ := v
  match k with
  | 0 => exact (show (1 : Nat) ≠ 2 by decide)
  | 1 => exact (show (1 : Nat) ≠ 2 by decide)
  | 2 => exact absurd rfl h
  | 3 =>
    show (if x < 0 then Value.null else Value.ref (ad x)).category ≠ 2
    split
    · exact (show (1 : Nat) ≠ 2 by decide)
    · exact (show (1 : Nat) ≠ 2 by decide)
  | k + 4 => exact (show (1 : Nat) ≠ 2 by decide)
theorem okst_at {lv : List AV} {j : Nat} {w : AV} (h : okst lv (j + 1) = true) (hw : lv[j]? = some w) : w.1 ≠ 2 := by
  intro h2
  simp [okst, hw, h2] at h
theorem asc_set {ad : Ad} {ls : Array Slot} {nL i : Nat} {lv : List AV} {v : AV} (hs : okst lv i = true)
    (h : lv_has ls nL ((i, cav ad v) :: (asc ad 0 lv).filter (fun q => !(q.1 == i) && !(q.1 + 1 == i && q.2.category == 2)))) : lv_has ls nL (asc ad 0 (lv.set i v)) := by
  refine ⟨h.1, h.2.1, fun q hq => h.2.2 q ?_⟩
  obtain ⟨j, w, e1, e2, rfl⟩ := asc_of _ _ _ hq
  rw [Nat.zero_add]
  by_cases hj : j = i
  · subst hj
    rw [List.getElem?_set] at e1
    simp only [if_true] at e1
    split at e1
    · cases e1; exact List.mem_cons_self
    · cases e1
  · refine List.mem_cons_of_mem _ (List.mem_filter.mpr ⟨?_, ?_⟩)
    · have e3 : lv[j]? = some w := by
        rw [List.getElem?_set_ne (Ne.symm hj)] at e1; exact e1
      have := asc_mem (ad := ad) lv 0 j w e3 e2
      rwa [Nat.zero_add] at this
    · have e3 : lv[j]? = some w := by
        rw [List.getElem?_set_ne (Ne.symm hj)] at e1; exact e1
      by_cases h1 : j + 1 = i
      · subst h1
        have := cav_cat (ad := ad) (okst_at hs e3)
        simp [hj, this]
      · simp [hj, h1]
theorem asc_set2 {ad : Ad} {ls : Array Slot} {nL i : Nat} {lv : List AV} {v : AV} (hs : okst lv i = true)
    (h : lv_has ls nL ((i, cav ad v) :: (asc ad 0 lv).filter (fun q => !(q.1 == i) && (!(q.1 == i + 1) && !(q.1 + 1 == i && q.2.category == 2))))) : lv_has ls nL (asc ad 0 ((lv.set i v).set (i + 1) (9, 0))) := by
  refine ⟨h.1, h.2.1, fun q hq => h.2.2 q ?_⟩
  obtain ⟨j, w, e1, e2, rfl⟩ := asc_of _ _ _ hq
  rw [Nat.zero_add]
  by_cases hj1 : j = i + 1
  · subst hj1
    rw [List.getElem?_set] at e1
    simp only [if_true] at e1
    split at e1
    · cases e1; exact absurd rfl e2
    · cases e1
  rw [List.getElem?_set_ne (Ne.symm hj1)] at e1
  by_cases hj : j = i
  · subst hj
    rw [List.getElem?_set] at e1
    simp only [if_true] at e1
    split at e1
    · cases e1; exact List.mem_cons_self
    · cases e1
  · have e3 : lv[j]? = some w := by
      rw [List.getElem?_set_ne (Ne.symm hj)] at e1; exact e1
    refine List.mem_cons_of_mem _ (List.mem_filter.mpr ⟨?_, ?_⟩)
    · have := asc_mem (ad := ad) lv 0 j w e3 e2
      rwa [Nat.zero_add] at this
    · by_cases h1 : j + 1 = i
      · subst h1
        have := cav_cat (ad := ad) (okst_at hs e3)
        simp [hj, hj1, this]
      · simp [hj, hj1, h1]
theorem okl_cons {α : Sh} {v : AV} {l : List AV} (h1 : okv α v) (h2 : okl α l) : okl α (v :: l) := fun w hw => (List.mem_cons.mp hw).elim (fun e => e ▸ h1) (h2 w)
theorem okl_hd {α : Sh} {v : AV} {l : List AV} (h : okl α (v :: l)) : okv α v := h v List.mem_cons_self
theorem okl_tl {α : Sh} {v : AV} {l : List AV} (h : okl α (v :: l)) : okl α l := fun w hw => h w (List.mem_cons_of_mem _ hw)
theorem okl_nil {α : Sh} : okl α [] := fun _ h => absurd h List.not_mem_nil
theorem okl_set {α : Sh} {v : AV} {l : List AV} {i : Nat} (h1 : okv α v) (h2 : okl α l) : okl α (l.set i v) := fun w hw => (List.mem_or_eq_of_mem_set hw).elim (h2 w) (fun e => e ▸ h1)
theorem okl_at {α : Sh} {v : AV} {l : List AV} {i : Nat} (h2 : okl α l) (h : l[i]? = some v) : okv α v := h2 v (List.mem_of_getElem? h)
theorem okl_app {α : Sh} {a b : List AV} (h1 : okl α a) (h2 : okl α b) : okl α (a ++ b) := fun w hw => (List.mem_append.mp hw).elim (h1 w) (h2 w)
theorem okv_9 {α : Sh} : okv α (9, 0) := trivial
-- the entry
def ent : List AV → List AV := fun l => l.flatMap fun v => if v.1 = 2 then [v, (9, 0)] else [v]
theorem ent_sl {ad : Ad} : ∀ (args : List AV), (lg_sl (args.map (cav ad))).length = (ent args).length := by
  intro args
  induction args with
  | nil => rfl
  | cons a r ih =>
    simp only [lg_sl, ent, List.map_cons, List.flatMap_cons, List.length_append] at ih ⊢
    rw [ih]
    congr 1
    by_cases h : a.1 = 2
    · rw [if_pos h]
      obtain ⟨k, x⟩ := a
      cases h
      rfl
    · rw [if_neg h, if_neg (cav_cat h)]; rfl
theorem ent_args {ad : Ad} (k : Nat) : ∀ (args : List AV) (n : Nat) (q : Nat × Value), q ∈ asc ad n (ent args ++ List.replicate k (9, 0)) → q ∈ lv_args n (args.map (cav ad)) := by
  intro args
  induction args with
  | nil =>
    intro n q h
    obtain ⟨i, v, e1, e2, -⟩ := asc_of _ _ _ h
    simp [ent, List.getElem?_replicate] at e1
    exact absurd (by rw [← e1.2]) e2
  | cons a r ih =>
    intro n q h
    by_cases ha : a.1 = 2
    · have he : ent (a :: r) = a :: (9, 0) :: ent r := by simp [ent, ha]
      rw [he] at h
      have hc : (cav ad a).category = 2 := by
        obtain ⟨k, x⟩ := a
        cases ha
        rfl
      simp only [List.map_cons, lv_args, hc, if_true]
      simp only [List.cons_append, asc, ha, if_neg (show ¬ (2 = 9) by decide), if_true] at h
      rcases List.mem_cons.mp h with h | h
      · rw [h]; exact List.mem_cons_self
      · exact List.mem_cons_of_mem _ (ih (n + 2) q h)
    · have he : ent (a :: r) = a :: ent r := by simp [ent, ha]
      rw [he] at h
      simp only [List.map_cons, lv_args, if_neg (cav_cat ha)]
      simp only [List.cons_append, asc] at h
      split at h
      · exact List.mem_cons_of_mem _ (ih (n + 1) q h)
      · rcases List.mem_cons.mp h with h | h
        · rw [h]; exact List.mem_cons_self
        · exact List.mem_cons_of_mem _ (ih (n + 1) q h)
theorem okl_ent {α : Sh} {args : List AV} {k : Nat} (h : okl α args) : okl α (ent args ++ List.replicate k (9, 0)) := by
  refine okl_app ?_ (fun w hw => by rw [(List.mem_replicate.mp hw).2]; exact okv_9)
  intro w hw
  obtain ⟨a, h1, h2⟩ := List.mem_flatMap.mp hw
  split at h2
  · rcases List.mem_cons.mp h2 with h3 | h3
    · exact h3 ▸ h a h1
    · rw [List.mem_singleton.mp h3]; exact okv_9
  · rw [List.mem_singleton.mp h2]; exact h a h1
theorem EX.rf {α : Sh} {ad : Ad} : EX α ad α ad := fun _ _ => ⟨rfl, rfl⟩
set_option maxHeartbeats 4000000 in
theorem MT_of {Γ : GC} {y : MethodName} {cc : ByteArray} {maxL k : Nat} {ret : Option FieldType} {d mc ms : Nat} {args : List AV} {α : Sh} {μ : Mem} {Q : Option AV → Sh → Mem → Prop} (lv : List AV) (hy : plainName y.cls = true) (hlv : lv = ent args ++ List.replicate k (9, 0)) (hle : (ent args).length + k = maxL)
    (body : ∀ ad0, V Γ α ad0 (ZM Γ α ad0 Q mc ms) (RM d mc ms) y.cls cc maxL ret y.name 0 [] lv α μ 0 0) : MT Γ y cc maxL ret d mc ms args α μ Q := by
  intro hok ad
  subst hlv
  refine Met.ofW (cc := cc) (maxL := maxL) (ret := ret) hy rfl ?_
  intro p e s m ar below meth c s₁ B hml hv
  obtain ⟨rfl, ⟨hK, hbs⟩, hH⟩ := hv
  have hts : ∀ w ∈ lw_good, w.before ((args.map (cav ad)).toArray) s = true := fun w hw => atoms_spec (ws := wsOf y cc maxL ret) B.pre w (List.mem_cons_of_mem _ hw)
  have hlen : (lg_sl (args.map (cav ad))).length ≤ maxL := by rw [ent_sl]; omega
  have hl0 := lv_entry (args.map (cav ad)) (n := maxL) hlen
  rw [lg_entry_eq]
  refine body ad p e s m _ below meth c ad s.heap _ [] ⟨⟨B.exec, B.bytes⟩, hml, findClass_of_methodNamed B.named, hts, B.returns, B.notSynchronized, fun _ => (name_of_methodNamed B.named B.method).1, hK, hbs⟩ hH EX.rf okl_nil (okl_ent hok) ?_ va_S.rf
  exact ⟨hl0.1, hl0.2.1, fun q hq => hl0.2.2 q (ent_args k args 0 q hq)⟩
end
section
theorem oi_add (x y : Int) : Int32.ofInt x + Int32.ofInt y = Int32.ofInt (x + y) := (Int32.ofInt_add x y).symm
theorem oi_mul (x y : Int) : Int32.ofInt x * Int32.ofInt y = Int32.ofInt (x * y) := (Int32.ofInt_mul x y).symm
theorem oi_sub (x y : Int) : Int32.ofInt x - Int32.ofInt y = Int32.ofInt (x - y) := (Int32.ofInt_sub x y).symm
theorem oi_int {x : Int} (h : inI x) : (Int32.ofInt x).toInt = x := Int32.toInt_ofInt_of_le (by simpa using h.1) (by simpa using h.2)
theorem oi_nat {x : Int} (h : inI x) : (Int32.ofInt x).toNatClampNeg = x.toNat := Int32.toNatClampNeg_ofInt_of_le (by simpa using h.1) (by simpa using h.2)
theorem oi_eq {x y : Int} (hx : inI x) (hy : inI y) : Int32.ofInt x = Int32.ofInt y ↔ x = y := ⟨fun h => by rw [← oi_int hx, ← oi_int hy, h], fun h => by rw [h]⟩
theorem oi_lt {x y : Int} (hx : inI x) (hy : inI y) : Int32.ofInt x < Int32.ofInt y ↔ x < y := by rw [Int32.lt_iff_toInt_lt, oi_int hx, oi_int hy]
theorem oi_le {x y : Int} (hx : inI x) (hy : inI y) : Int32.ofInt x ≤ Int32.ofInt y ↔ x ≤ y := by rw [Int32.le_iff_toInt_le, oi_int hx, oi_int hy]
theorem oi_0 : Int32.ofInt 0 = 0 := rfl
theorem in0 : inI 0 := ⟨by decide, by decide⟩
theorem oi_eq0 {x : Int} (hx : inI x) : Int32.ofInt x = 0 ↔ x = 0 := oi_eq hx in0
theorem oi_lt0 {x : Int} (hx : inI x) : Int32.ofInt x < 0 ↔ x < 0 := oi_lt hx in0
theorem oi_le0 {x : Int} (hx : inI x) : Int32.ofInt x ≤ 0 ↔ x ≤ 0 := oi_le hx in0
theorem oi_0lt {x : Int} (hx : inI x) : 0 < Int32.ofInt x ↔ 0 < x := oi_lt in0 hx
theorem oi_0le {x : Int} (hx : inI x) : 0 ≤ Int32.ofInt x ↔ 0 ≤ x := oi_le in0 hx
theorem oi_in {x : Int} {n : Nat} (h : inI x) (h0 : 0 ≤ x) (hn : x < n) : vp_in (Int32.ofInt x) n := by
  rw [vp_in_iff, oi_int h]; exact ⟨h0, hn⟩
theorem oi_i8 {n : Int} (h : -128 ≤ n ∧ n < 128) : (Int8.ofInt n).toInt32 = Int32.ofInt n := Int8.toInt32_ofInt (by simpa using h.1) (by have : Int8.maxValue.toInt = 127 := rfl; omega)
theorem oi_i16 {n : Int} (h : -32768 ≤ n ∧ n < 32768) : (Int16.ofInt n).toInt32 = Int32.ofInt n := Int16.toInt32_ofInt (by simpa using h.1) (by have : Int16.maxValue.toInt = 32767 := rfl; omega)
theorem oi_div {x y : Int} (hx : inI x) (hy : inI y) (h0 : 0 ≤ x) (h1 : 0 < y) : Int32.ofInt x / Int32.ofInt y = Int32.ofInt (x / y) := by
  have h := lg_idiv_nonneg (x := Int32.ofInt x) (y := Int32.ofInt y) (by rw [oi_int hx]; exact h0) (by rw [oi_int hy]; exact h1)
  rw [oi_int hx, oi_int hy] at h
  rw [← Int32.ofInt_toInt (Int32.ofInt x / Int32.ofInt y), h]
section VR
variable {Γ : GC} {α0 : Sh} {ad0 : Ad} {Z : ZT} {R : Room} {own : String} {cc : ByteArray} {nL : Nat} {ret : Option FieldType} {nm : String} {pc q : Nat} {st lv : List AV} {α : Sh} {μ : Mem} {cs sl : Nat}
theorem V_iconst {n : Int} (hd : decode cc pc = .ok (.iconst n, 1)) (hp : pc + 1 = q) (hn : inI n) (k : V Γ α0 ad0 Z R own cc nL ret nm q ((0, n) :: st) lv α μ cs sl) : V Γ α0 ad0 Z R own cc nL ret nm pc st lv α μ cs sl := by
  intro p e s m args below meth c ad H ls locs F hH hE hst hlv hl hS
  subst hp
  exact lv_iconst F.1.1 F.1.2 hd rfl (k p e s m args below meth c ad H ls locs F hH hE (okl_cons hn hst) (hlv) (hl) hS)
theorem V_bipush {n : Int} (hd : decode cc pc = .ok (.bipush n, 2)) (hp : pc + 2 = q) (hn : -128 ≤ n ∧ n < 128) (k : V Γ α0 ad0 Z R own cc nL ret nm q ((0, n) :: st) lv α μ cs sl) : V Γ α0 ad0 Z R own cc nL ret nm pc st lv α μ cs sl := by
  intro p e s m args below meth c ad H ls locs F hH hE hst hlv hl hS
  subst hp
  exact lv_bipush F.1.1 F.1.2 hd (oi_i8 hn) (k p e s m args below meth c ad H ls locs F hH hE (okl_cons (show inI n by omega) hst) (hlv) (hl) hS)
theorem V_sipush {n : Int} (hd : decode cc pc = .ok (.sipush n, 3)) (hp : pc + 3 = q) (hn : -32768 ≤ n ∧ n < 32768) (k : V Γ α0 ad0 Z R own cc nL ret nm q ((0, n) :: st) lv α μ cs sl) : V Γ α0 ad0 Z R own cc nL ret nm pc st lv α μ cs sl := by
  intro p e s m args below meth c ad H ls locs F hH hE hst hlv hl hS
  subst hp
  exact lv_sipush F.1.1 F.1.2 hd (oi_i16 hn) (k p e s m args below meth c ad H ls locs F hH hE (okl_cons (show inI n by omega) hst) (hlv) (hl) hS)
theorem V_lconst {n : Fin 2} {x : Int} (hd : decode cc pc = .ok (.lconst n, 1)) (hp : pc + 1 = q) (hx : x = (n : Nat)) (k : V Γ α0 ad0 Z R own cc nL ret nm q ((2, x) :: st) lv α μ cs sl) : V Γ α0 ad0 Z R own cc nL ret nm pc st lv α μ cs sl := by
  intro p e s m args below meth c ad H ls locs F hH hE hst hlv hl hS
  subst hp
  subst hx
  exact lv_lconst F.1.1 F.1.2 hd (by cases n using Fin.cases <;> rfl) (k p e s m args below meth c ad H ls locs F hH hE (okl_cons (show inL _ by have := n.isLt; constructor <;> omega) hst) (hlv) (hl) hS)
theorem V_ldc2m1 {idx : Nat} (hd : decode cc pc = .ok (.ldc2_w idx, 3)) (hp : pc + 3 = q) (hw : Cond.constantLong own idx (-1) ∈ lw_tbl) (k : V Γ α0 ad0 Z R own cc nL ret nm q ((2, -1) :: st) lv α μ cs sl) : V Γ α0 ad0 Z R own cc nL ret nm pc st lv α μ cs sl := by
  intro p e s m args below meth c ad H ls locs F hH hE hst hlv hl hS
  subst hp
  exact lv_ldc2 F.1.1 F.1.2 F.2.2.1 (F.2.2.2.1 _ (lw_gd hw rfl)) hd (k p e s m args below meth c ad H ls locs F hH hE (okl_cons (show inL (-1) by decide) hst) (hlv) (hl) hS)
theorem V_null (hd : decode cc pc = .ok (.aconst_null, 1)) (hp : pc + 1 = q) (k : V Γ α0 ad0 Z R own cc nL ret nm q ((3, -1) :: st) lv α μ cs sl) : V Γ α0 ad0 Z R own cc nL ret nm pc st lv α μ cs sl := by
  intro p e s m args below meth c ad H ls locs F hH hE hst hlv hl hS
  subst hp
  exact lv_null F.1.1 F.1.2 hd (k p e s m args below meth c ad H ls locs F hH hE (okl_cons (show okx α 3 (-1) from Or.inl (by decide)) hst) (hlv) (hl) hS)
theorem V_iload_n {k0 : Fin 4} {i : Nat} {x : Int} (hd : decode cc pc = .ok (.iload_n k0, 1)) (hi : (k0 : Nat) = i) (hp : pc + 1 = q) (hx : lv[i]? = some (0, x)) (k : V Γ α0 ad0 Z R own cc nL ret nm q ((0, x) :: st) lv α μ cs sl) : V Γ α0 ad0 Z R own cc nL ret nm pc st lv α μ cs sl := by
  intro p e s m args below meth c ad H ls locs F hH hE hst hlv hl hS
  subst hp
  exact lv_iload_n F.1.1 F.1.2 hd hi (asc_at hl hx (show (0 : Nat) ≠ 9 by decide)) (k p e s m args below meth c ad H ls locs F hH hE (okl_cons (okl_at hlv hx) hst) (hlv) (hl) hS)
theorem V_iload {i : Nat} {x : Int} (hd : decode cc pc = .ok (.iload i, 2)) (hp : pc + 2 = q) (hx : lv[i]? = some (0, x)) (k : V Γ α0 ad0 Z R own cc nL ret nm q ((0, x) :: st) lv α μ cs sl) : V Γ α0 ad0 Z R own cc nL ret nm pc st lv α μ cs sl := by
  intro p e s m args below meth c ad H ls locs F hH hE hst hlv hl hS
  subst hp
  exact lv_iload F.1.1 F.1.2 hd (asc_at hl hx (show (0 : Nat) ≠ 9 by decide)) (k p e s m args below meth c ad H ls locs F hH hE (okl_cons (okl_at hlv hx) hst) (hlv) (hl) hS)
theorem V_lload_n {k0 : Fin 4} {i : Nat} {x : Int} (hd : decode cc pc = .ok (.lload_n k0, 1)) (hi : (k0 : Nat) = i) (hp : pc + 1 = q) (hx : lv[i]? = some (2, x)) (k : V Γ α0 ad0 Z R own cc nL ret nm q ((2, x) :: st) lv α μ cs sl) : V Γ α0 ad0 Z R own cc nL ret nm pc st lv α μ cs sl := by
  intro p e s m args below meth c ad H ls locs F hH hE hst hlv hl hS
  subst hp
  exact lv_lload_n F.1.1 F.1.2 hd hi (asc_at hl hx (show (2 : Nat) ≠ 9 by decide)) (k p e s m args below meth c ad H ls locs F hH hE (okl_cons (okl_at hlv hx) hst) (hlv) (hl) hS)
theorem V_lload {i : Nat} {x : Int} (hd : decode cc pc = .ok (.lload i, 2)) (hp : pc + 2 = q) (hx : lv[i]? = some (2, x)) (k : V Γ α0 ad0 Z R own cc nL ret nm q ((2, x) :: st) lv α μ cs sl) : V Γ α0 ad0 Z R own cc nL ret nm pc st lv α μ cs sl := by
  intro p e s m args below meth c ad H ls locs F hH hE hst hlv hl hS
  subst hp
  exact lv_lload F.1.1 F.1.2 hd (asc_at hl hx (show (2 : Nat) ≠ 9 by decide)) (k p e s m args below meth c ad H ls locs F hH hE (okl_cons (okl_at hlv hx) hst) (hlv) (hl) hS)
theorem V_aload_n {k0 : Fin 4} {i : Nat} {x : Int} (hd : decode cc pc = .ok (.aload_n k0, 1)) (hi : (k0 : Nat) = i) (hp : pc + 1 = q) (hx : lv[i]? = some (3, x)) (k : V Γ α0 ad0 Z R own cc nL ret nm q ((3, x) :: st) lv α μ cs sl) : V Γ α0 ad0 Z R own cc nL ret nm pc st lv α μ cs sl := by
  intro p e s m args below meth c ad H ls locs F hH hE hst hlv hl hS
  subst hp
  have h1 := asc_at hl hx (show (3 : Nat) ≠ 9 by decide)
  have h2 := k p e s m args below meth c ad H ls locs F hH hE (okl_cons (okl_at hlv hx) hst) (hlv) (hl) hS
  by_cases h0 : x < 0
  · have e : cav ad (3, x) = .null := if_pos h0
    rw [e] at h1
    rw [List.map_cons, e] at h2
    exact lv_aload_nN F.1.1 F.1.2 hd hi h1 h2
  · have e : cav ad (3, x) = .ref (ad x) := if_neg h0
    rw [e] at h1
    rw [List.map_cons, e] at h2
    exact lv_aload_n F.1.1 F.1.2 hd hi h1 h2
theorem V_aload {i : Nat} {x : Int} (hd : decode cc pc = .ok (.aload i, 2)) (hp : pc + 2 = q) (hx : lv[i]? = some (3, x)) (k : V Γ α0 ad0 Z R own cc nL ret nm q ((3, x) :: st) lv α μ cs sl) : V Γ α0 ad0 Z R own cc nL ret nm pc st lv α μ cs sl := by
  intro p e s m args below meth c ad H ls locs F hH hE hst hlv hl hS
  subst hp
  have h1 := asc_at hl hx (show (3 : Nat) ≠ 9 by decide)
  have h2 := k p e s m args below meth c ad H ls locs F hH hE (okl_cons (okl_at hlv hx) hst) (hlv) (hl) hS
  by_cases h0 : x < 0
  · have e : cav ad (3, x) = .null := if_pos h0
    rw [e] at h1
    rw [List.map_cons, e] at h2
    exact lv_aloadN F.1.1 F.1.2 hd h1 h2
  · have e : cav ad (3, x) = .ref (ad x) := if_neg h0
    rw [e] at h1
    rw [List.map_cons, e] at h2
    exact lv_aload F.1.1 F.1.2 hd h1 h2
theorem V_istore_n {k0 : Fin 4} {i : Nat} {x : Int} {lv1 : List AV} (hd : decode cc pc = .ok (.istore_n k0, 1)) (hi : (k0 : Nat) = i) (hp : pc + 1 = q) (hn : i < nL) (hs : okst lv i = true) (hlv1 : lv.set i (0, x) = lv1) (k : V Γ α0 ad0 Z R own cc nL ret nm q st lv1 α μ cs sl) : V Γ α0 ad0 Z R own cc nL ret nm pc ((0, x) :: st) lv α μ cs sl := by
  intro p e s m args below meth c ad H ls locs F hH hE hst hlv hl hS
  subst hp; subst hlv1
  exact lv_istore_n F.1.1 F.1.2 hd hi hl hn rfl (fun ls1 h1 => k p e s m args below meth c ad H ls1 locs F hH hE (okl_tl hst) (okl_set (okl_hd hst) hlv) (asc_set (v := (0, x)) hs h1) hS)
theorem V_istore {i : Nat} {x : Int} {lv1 : List AV} (hd : decode cc pc = .ok (.istore i, 2)) (hp : pc + 2 = q) (hn : i < nL) (hs : okst lv i = true) (hlv1 : lv.set i (0, x) = lv1) (k : V Γ α0 ad0 Z R own cc nL ret nm q st lv1 α μ cs sl) : V Γ α0 ad0 Z R own cc nL ret nm pc ((0, x) :: st) lv α μ cs sl := by
  intro p e s m args below meth c ad H ls locs F hH hE hst hlv hl hS
  subst hp; subst hlv1
  exact lv_istore F.1.1 F.1.2 hd hl hn rfl (fun ls1 h1 => k p e s m args below meth c ad H ls1 locs F hH hE (okl_tl hst) (okl_set (okl_hd hst) hlv) (asc_set (v := (0, x)) hs h1) hS)
theorem V_astore_n {k0 : Fin 4} {i : Nat} {x : Int} {lv1 : List AV} (hd : decode cc pc = .ok (.astore_n k0, 1)) (hi : (k0 : Nat) = i) (hp : pc + 1 = q) (hn : i < nL) (hs : okst lv i = true) (hlv1 : lv.set i (3, x) = lv1) (k : V Γ α0 ad0 Z R own cc nL ret nm q st lv1 α μ cs sl) : V Γ α0 ad0 Z R own cc nL ret nm pc ((3, x) :: st) lv α μ cs sl := by
  intro p e s m args below meth c ad H ls locs F hH hE hst hlv hl hS
  subst hp; subst hlv1
  have h2 := fun ls1 (h1 : lv_has ls1 nL (asc ad 0 (lv.set i (3, x)))) => k p e s m args below meth c ad H ls1 locs F hH hE (okl_tl hst) (okl_set (okl_hd hst) hlv) (h1) hS
  have h3 := fun ls1 => asc_set (ad := ad) (ls := ls1) (nL := nL) (v := (3, x)) hs
  show W _ _ _ _ _ _ _ _ _ _ _ _ _ _ _ (F0 m pc ls (cav ad (3, x) :: st.map (cav ad)))
  by_cases h0 : x < 0
  · have e : cav ad (3, x) = .null := if_pos h0
    rw [e] at h3 ⊢
    exact lv_astore_nN F.1.1 F.1.2 hd hi hl hn rfl (fun ls1 h1 => h2 ls1 (h3 ls1 h1))
  · have e : cav ad (3, x) = .ref (ad x) := if_neg h0
    rw [e] at h3 ⊢
    exact lv_astore_n F.1.1 F.1.2 hd hi hl hn rfl (fun ls1 h1 => h2 ls1 (h3 ls1 h1))
theorem V_astore {i : Nat} {x : Int} {lv1 : List AV} (hd : decode cc pc = .ok (.astore i, 2)) (hp : pc + 2 = q) (hn : i < nL) (hs : okst lv i = true) (hlv1 : lv.set i (3, x) = lv1) (k : V Γ α0 ad0 Z R own cc nL ret nm q st lv1 α μ cs sl) : V Γ α0 ad0 Z R own cc nL ret nm pc ((3, x) :: st) lv α μ cs sl := by
  intro p e s m args below meth c ad H ls locs F hH hE hst hlv hl hS
  subst hp; subst hlv1
  have h2 := fun ls1 (h1 : lv_has ls1 nL (asc ad 0 (lv.set i (3, x)))) => k p e s m args below meth c ad H ls1 locs F hH hE (okl_tl hst) (okl_set (okl_hd hst) hlv) (h1) hS
  have h3 := fun ls1 => asc_set (ad := ad) (ls := ls1) (nL := nL) (v := (3, x)) hs
  show W _ _ _ _ _ _ _ _ _ _ _ _ _ _ _ (F0 m pc ls (cav ad (3, x) :: st.map (cav ad)))
  by_cases h0 : x < 0
  · have e : cav ad (3, x) = .null := if_pos h0
    rw [e] at h3 ⊢
    exact lv_astoreN F.1.1 F.1.2 hd hl hn rfl (fun ls1 h1 => h2 ls1 (h3 ls1 h1))
  · have e : cav ad (3, x) = .ref (ad x) := if_neg h0
    rw [e] at h3 ⊢
    exact lv_astore F.1.1 F.1.2 hd hl hn rfl (fun ls1 h1 => h2 ls1 (h3 ls1 h1))
theorem V_lstore_n {k0 : Fin 4} {i : Nat} {x : Int} {lv1 : List AV} (hd : decode cc pc = .ok (.lstore_n k0, 1)) (hi : (k0 : Nat) = i) (hp : pc + 1 = q) (hn : i + 1 < nL) (hs : okst lv i = true) (hlv1 : (lv.set i (2, x)).set (i + 1) (9, 0) = lv1) (k : V Γ α0 ad0 Z R own cc nL ret nm q st lv1 α μ cs sl) : V Γ α0 ad0 Z R own cc nL ret nm pc ((2, x) :: st) lv α μ cs sl := by
  intro p e s m args below meth c ad H ls locs F hH hE hst hlv hl hS
  subst hp; subst hlv1
  exact lv_lstore_n F.1.1 F.1.2 hd hi hl hn rfl (fun ls1 h1 => k p e s m args below meth c ad H ls1 locs F hH hE (okl_tl hst) (okl_set okv_9 (okl_set (okl_hd hst) hlv)) (asc_set2 (v := (2, x)) hs h1) hS)
theorem V_lstore {i : Nat} {x : Int} {lv1 : List AV} (hd : decode cc pc = .ok (.lstore i, 2)) (hp : pc + 2 = q) (hn : i + 1 < nL) (hs : okst lv i = true) (hlv1 : (lv.set i (2, x)).set (i + 1) (9, 0) = lv1) (k : V Γ α0 ad0 Z R own cc nL ret nm q st lv1 α μ cs sl) : V Γ α0 ad0 Z R own cc nL ret nm pc ((2, x) :: st) lv α μ cs sl := by
  intro p e s m args below meth c ad H ls locs F hH hE hst hlv hl hS
  subst hp; subst hlv1
  exact lv_lstore F.1.1 F.1.2 hd hl hn rfl (fun ls1 h1 => k p e s m args below meth c ad H ls1 locs F hH hE (okl_tl hst) (okl_set okv_9 (okl_set (okl_hd hst) hlv)) (asc_set2 (v := (2, x)) hs h1) hS)
theorem V_iinc {i : Nat} {n x : Int} (hd : decode cc pc = .ok (.iinc i n, 3)) (hp : pc + 3 = q) (hx : lv[i]? = some (0, x)) (hn : i < nL) (hs : okst lv i = true) (hr : inI (x + n)) (k : ∀ (z : Int) (lv1 : List AV), z = x + n → lv1 = lv.set i (0, z) → V Γ α0 ad0 Z R own cc nL ret nm q st lv1 α μ cs sl) : V Γ α0 ad0 Z R own cc nL ret nm pc st lv α μ cs sl := by
  intro p e s m args below meth c ad H ls locs F hH hE hst hlv hl hS
  subst hp
  have h1 := asc_mem (ad := ad) lv 0 i _ hx (show (0 : Nat) ≠ 9 by decide)
  rw [Nat.zero_add] at h1
  obtain ⟨k1, hk1⟩ := List.mem_iff_getElem?.mp h1
  exact lv_iinc F.1.1 F.1.2 hd hl hk1 (oi_add x n) hn rfl (fun ls1 h2 => k _ _ rfl rfl p e s m args below meth c ad H ls1 locs F hH hE hst (okl_set (v := (0, x + n)) hr hlv) (asc_set (v := (0, x + n)) hs h2) hS)
theorem V_iadd {x y : Int} (hd : decode cc pc = .ok (.iadd, 1)) (hp : pc + 1 = q) (hr : inI (x + y)) (k : ∀ z : Int, z = x + y → V Γ α0 ad0 Z R own cc nL ret nm q ((0, z) :: st) lv α μ cs sl) : V Γ α0 ad0 Z R own cc nL ret nm pc ((0, y) :: (0, x) :: st) lv α μ cs sl := by
  intro p e s m args below meth c ad H ls locs F hH hE hst hlv hl hS
  subst hp
  refine lv_iadd F.1.1 F.1.2 hd ?_
  rw [oi_add]
  exact k _ rfl p e s m args below meth c ad H ls locs F hH hE (okl_cons hr (okl_tl (okl_tl hst))) hlv hl hS
theorem V_isub {x y : Int} (hd : decode cc pc = .ok (.isub, 1)) (hp : pc + 1 = q) (hr : inI (x - y)) (k : ∀ z : Int, z = x - y → V Γ α0 ad0 Z R own cc nL ret nm q ((0, z) :: st) lv α μ cs sl) : V Γ α0 ad0 Z R own cc nL ret nm pc ((0, y) :: (0, x) :: st) lv α μ cs sl := by
  intro p e s m args below meth c ad H ls locs F hH hE hst hlv hl hS
  subst hp
  refine lv_isub F.1.1 F.1.2 hd ?_
  rw [oi_sub]
  exact k _ rfl p e s m args below meth c ad H ls locs F hH hE (okl_cons hr (okl_tl (okl_tl hst))) hlv hl hS
theorem V_imul {x y : Int} (hd : decode cc pc = .ok (.imul, 1)) (hp : pc + 1 = q) (hr : inI (x * y)) (k : ∀ z : Int, z = x * y → V Γ α0 ad0 Z R own cc nL ret nm q ((0, z) :: st) lv α μ cs sl) : V Γ α0 ad0 Z R own cc nL ret nm pc ((0, y) :: (0, x) :: st) lv α μ cs sl := by
  intro p e s m args below meth c ad H ls locs F hH hE hst hlv hl hS
  subst hp
  refine lv_imul F.1.1 F.1.2 hd ?_
  rw [oi_mul]
  exact k _ rfl p e s m args below meth c ad H ls locs F hH hE (okl_cons hr (okl_tl (okl_tl hst))) hlv hl hS
theorem V_idiv {x y : Int} (hd : decode cc pc = .ok (.idiv, 1)) (hp : pc + 1 = q) (h0 : 0 ≤ x) (h1 : 0 < y) (k : ∀ z : Int, z = x / y → V Γ α0 ad0 Z R own cc nL ret nm q ((0, z) :: st) lv α μ cs sl) : V Γ α0 ad0 Z R own cc nL ret nm pc ((0, y) :: (0, x) :: st) lv α μ cs sl := by
  intro p e s m args below meth c ad H ls locs F hH hE hst hlv hl hS
  subst hp
  have hy : inI y := okl_hd hst
  have hx : inI x := okl_hd (okl_tl hst)
  refine lv_idiv F.1.1 F.1.2 hd (fun h => ?_) ?_
  · have := (oi_eq0 hy).mp h
    omega
  rw [oi_div hx hy h0 h1]
  have h2 : x / y ≤ x := Int.ediv_le_self y h0
  have h3 : 0 ≤ x / y := Int.ediv_nonneg h0 (by omega)
  exact k _ rfl p e s m args below meth c ad H ls locs F hH hE (okl_cons (show inI (x / y) by omega) (okl_tl (okl_tl hst))) hlv hl hS
theorem V_iand {x y : Int} (hd : decode cc pc = .ok (.iand, 1)) (hp : pc + 1 = q) (k : ∀ z : Int, inI z → V Γ α0 ad0 Z R own cc nL ret nm q ((0, z) :: st) lv α μ cs sl) : V Γ α0 ad0 Z R own cc nL ret nm pc ((0, y) :: (0, x) :: st) lv α μ cs sl := by
  intro p e s m args below meth c ad H ls locs F hH hE hst hlv hl hS
  subst hp
  refine lv_iand F.1.1 F.1.2 hd ?_
  have hz : inI (Int32.ofInt x &&& Int32.ofInt y).toInt := ⟨by have := Int32.le_toInt (Int32.ofInt x &&& Int32.ofInt y); simpa using this, by have := Int32.toInt_lt (Int32.ofInt x &&& Int32.ofInt y); simpa using this⟩
  have := k _ hz p e s m args below meth c ad H ls locs F hH hE (okl_cons hz (okl_tl (okl_tl hst))) hlv hl hS
  have e1 : cav ad (0, (Int32.ofInt x &&& Int32.ofInt y).toInt) = .int (Int32.ofInt x &&& Int32.ofInt y) := by show Value.int (Int32.ofInt _) = _; rw [Int32.ofInt_toInt]
  rw [List.map_cons, e1] at this
  exact this
theorem V_if_eq {x off : Int} {tgt : Nat} (hd : decode cc pc = .ok (.ifCond .eq off, 3)) (ht : (pc : Int) + off = (tgt : Int)) (hp : pc + 3 = q) (kt : x = 0 → V Γ α0 ad0 Z R own cc nL ret nm tgt st lv α μ cs sl) (kf : ¬ (x = 0) → V Γ α0 ad0 Z R own cc nL ret nm q st lv α μ cs sl) : V Γ α0 ad0 Z R own cc nL ret nm pc ((0, x) :: st) lv α μ cs sl := by
  intro p e s m args below meth c ad H ls locs F hH hE hst hlv hl hS
  subst hp
  have hx : inI x := okl_hd hst
  exact lv_if_eq F.1.1 F.1.2 hd ht (fun h => kt ((oi_eq0 hx).mp h) p e s m args below meth c ad H ls locs F hH hE (okl_tl hst) hlv hl hS) (fun h => kf (fun h2 => h ((oi_eq0 hx).mpr h2)) p e s m args below meth c ad H ls locs F hH hE (okl_tl hst) hlv hl hS)
theorem V_icmp_eq {x y off : Int} {tgt : Nat} (hd : decode cc pc = .ok (.if_icmp .eq off, 3)) (ht : (pc : Int) + off = (tgt : Int)) (hp : pc + 3 = q) (kt : x = y → V Γ α0 ad0 Z R own cc nL ret nm tgt st lv α μ cs sl) (kf : ¬ (x = y) → V Γ α0 ad0 Z R own cc nL ret nm q st lv α μ cs sl) : V Γ α0 ad0 Z R own cc nL ret nm pc ((0, y) :: (0, x) :: st) lv α μ cs sl := by
  intro p e s m args below meth c ad H ls locs F hH hE hst hlv hl hS
  subst hp
  have hy : inI y := okl_hd hst
  have hx : inI x := okl_hd (okl_tl hst)
  exact lv_icmp_eq F.1.1 F.1.2 hd ht (fun h => kt ((oi_eq hx hy).mp h) p e s m args below meth c ad H ls locs F hH hE (okl_tl (okl_tl hst)) hlv hl hS) (fun h => kf (fun h2 => h ((oi_eq hx hy).mpr h2)) p e s m args below meth c ad H ls locs F hH hE (okl_tl (okl_tl hst)) hlv hl hS)
theorem V_if_ne {x off : Int} {tgt : Nat} (hd : decode cc pc = .ok (.ifCond .ne off, 3)) (ht : (pc : Int) + off = (tgt : Int)) (hp : pc + 3 = q) (kt : x ≠ 0 → V Γ α0 ad0 Z R own cc nL ret nm tgt st lv α μ cs sl) (kf : x = 0 → V Γ α0 ad0 Z R own cc nL ret nm q st lv α μ cs sl) : V Γ α0 ad0 Z R own cc nL ret nm pc ((0, x) :: st) lv α μ cs sl := by
  intro p e s m args below meth c ad H ls locs F hH hE hst hlv hl hS
  subst hp
  have hx : inI x := okl_hd hst
  exact lv_if_ne F.1.1 F.1.2 hd ht (fun h => kt ((not_congr (oi_eq0 hx)).mp h) p e s m args below meth c ad H ls locs F hH hE (okl_tl hst) hlv hl hS) (fun h => kf ((oi_eq0 hx).mp h) p e s m args below meth c ad H ls locs F hH hE (okl_tl hst) hlv hl hS)
theorem V_icmp_ne {x y off : Int} {tgt : Nat} (hd : decode cc pc = .ok (.if_icmp .ne off, 3)) (ht : (pc : Int) + off = (tgt : Int)) (hp : pc + 3 = q) (kt : x ≠ y → V Γ α0 ad0 Z R own cc nL ret nm tgt st lv α μ cs sl) (kf : x = y → V Γ α0 ad0 Z R own cc nL ret nm q st lv α μ cs sl) : V Γ α0 ad0 Z R own cc nL ret nm pc ((0, y) :: (0, x) :: st) lv α μ cs sl := by
  intro p e s m args below meth c ad H ls locs F hH hE hst hlv hl hS
  subst hp
  have hy : inI y := okl_hd hst
  have hx : inI x := okl_hd (okl_tl hst)
  exact lv_icmp_ne F.1.1 F.1.2 hd ht (fun h => kt ((not_congr (oi_eq hx hy)).mp h) p e s m args below meth c ad H ls locs F hH hE (okl_tl (okl_tl hst)) hlv hl hS) (fun h => kf ((oi_eq hx hy).mp h) p e s m args below meth c ad H ls locs F hH hE (okl_tl (okl_tl hst)) hlv hl hS)
theorem V_if_lt {x off : Int} {tgt : Nat} (hd : decode cc pc = .ok (.ifCond .lt off, 3)) (ht : (pc : Int) + off = (tgt : Int)) (hp : pc + 3 = q) (kt : x < 0 → V Γ α0 ad0 Z R own cc nL ret nm tgt st lv α μ cs sl) (kf : ¬ (x < 0) → V Γ α0 ad0 Z R own cc nL ret nm q st lv α μ cs sl) : V Γ α0 ad0 Z R own cc nL ret nm pc ((0, x) :: st) lv α μ cs sl := by
  intro p e s m args below meth c ad H ls locs F hH hE hst hlv hl hS
  subst hp
  have hx : inI x := okl_hd hst
  exact lv_if_lt F.1.1 F.1.2 hd ht (fun h => kt ((oi_lt0 hx).mp h) p e s m args below meth c ad H ls locs F hH hE (okl_tl hst) hlv hl hS) (fun h => kf (fun h2 => h ((oi_lt0 hx).mpr h2)) p e s m args below meth c ad H ls locs F hH hE (okl_tl hst) hlv hl hS)
theorem V_icmp_lt {x y off : Int} {tgt : Nat} (hd : decode cc pc = .ok (.if_icmp .lt off, 3)) (ht : (pc : Int) + off = (tgt : Int)) (hp : pc + 3 = q) (kt : x < y → V Γ α0 ad0 Z R own cc nL ret nm tgt st lv α μ cs sl) (kf : ¬ (x < y) → V Γ α0 ad0 Z R own cc nL ret nm q st lv α μ cs sl) : V Γ α0 ad0 Z R own cc nL ret nm pc ((0, y) :: (0, x) :: st) lv α μ cs sl := by
  intro p e s m args below meth c ad H ls locs F hH hE hst hlv hl hS
  subst hp
  have hy : inI y := okl_hd hst
  have hx : inI x := okl_hd (okl_tl hst)
  exact lv_icmp_lt F.1.1 F.1.2 hd ht (fun h => kt ((oi_lt hx hy).mp h) p e s m args below meth c ad H ls locs F hH hE (okl_tl (okl_tl hst)) hlv hl hS) (fun h => kf (fun h2 => h ((oi_lt hx hy).mpr h2)) p e s m args below meth c ad H ls locs F hH hE (okl_tl (okl_tl hst)) hlv hl hS)
theorem V_if_ge {x off : Int} {tgt : Nat} (hd : decode cc pc = .ok (.ifCond .ge off, 3)) (ht : (pc : Int) + off = (tgt : Int)) (hp : pc + 3 = q) (kt : 0 ≤ x → V Γ α0 ad0 Z R own cc nL ret nm tgt st lv α μ cs sl) (kf : ¬ (0 ≤ x) → V Γ α0 ad0 Z R own cc nL ret nm q st lv α μ cs sl) : V Γ α0 ad0 Z R own cc nL ret nm pc ((0, x) :: st) lv α μ cs sl := by
  intro p e s m args below meth c ad H ls locs F hH hE hst hlv hl hS
  subst hp
  have hx : inI x := okl_hd hst
  exact lv_if_ge F.1.1 F.1.2 hd ht (fun h => kt ((oi_0le hx).mp h) p e s m args below meth c ad H ls locs F hH hE (okl_tl hst) hlv hl hS) (fun h => kf (fun h2 => h ((oi_0le hx).mpr h2)) p e s m args below meth c ad H ls locs F hH hE (okl_tl hst) hlv hl hS)
theorem V_icmp_ge {x y off : Int} {tgt : Nat} (hd : decode cc pc = .ok (.if_icmp .ge off, 3)) (ht : (pc : Int) + off = (tgt : Int)) (hp : pc + 3 = q) (kt : y ≤ x → V Γ α0 ad0 Z R own cc nL ret nm tgt st lv α μ cs sl) (kf : ¬ (y ≤ x) → V Γ α0 ad0 Z R own cc nL ret nm q st lv α μ cs sl) : V Γ α0 ad0 Z R own cc nL ret nm pc ((0, y) :: (0, x) :: st) lv α μ cs sl := by
  intro p e s m args below meth c ad H ls locs F hH hE hst hlv hl hS
  subst hp
  have hy : inI y := okl_hd hst
  have hx : inI x := okl_hd (okl_tl hst)
  exact lv_icmp_ge F.1.1 F.1.2 hd ht (fun h => kt ((oi_le hy hx).mp h) p e s m args below meth c ad H ls locs F hH hE (okl_tl (okl_tl hst)) hlv hl hS) (fun h => kf (fun h2 => h ((oi_le hy hx).mpr h2)) p e s m args below meth c ad H ls locs F hH hE (okl_tl (okl_tl hst)) hlv hl hS)
theorem V_if_gt {x off : Int} {tgt : Nat} (hd : decode cc pc = .ok (.ifCond .gt off, 3)) (ht : (pc : Int) + off = (tgt : Int)) (hp : pc + 3 = q) (kt : 0 < x → V Γ α0 ad0 Z R own cc nL ret nm tgt st lv α μ cs sl) (kf : ¬ (0 < x) → V Γ α0 ad0 Z R own cc nL ret nm q st lv α μ cs sl) : V Γ α0 ad0 Z R own cc nL ret nm pc ((0, x) :: st) lv α μ cs sl := by
  intro p e s m args below meth c ad H ls locs F hH hE hst hlv hl hS
  subst hp
  have hx : inI x := okl_hd hst
  exact lv_if_gt F.1.1 F.1.2 hd ht (fun h => kt ((oi_0lt hx).mp h) p e s m args below meth c ad H ls locs F hH hE (okl_tl hst) hlv hl hS) (fun h => kf (fun h2 => h ((oi_0lt hx).mpr h2)) p e s m args below meth c ad H ls locs F hH hE (okl_tl hst) hlv hl hS)
theorem V_icmp_gt {x y off : Int} {tgt : Nat} (hd : decode cc pc = .ok (.if_icmp .gt off, 3)) (ht : (pc : Int) + off = (tgt : Int)) (hp : pc + 3 = q) (kt : y < x → V Γ α0 ad0 Z R own cc nL ret nm tgt st lv α μ cs sl) (kf : ¬ (y < x) → V Γ α0 ad0 Z R own cc nL ret nm q st lv α μ cs sl) : V Γ α0 ad0 Z R own cc nL ret nm pc ((0, y) :: (0, x) :: st) lv α μ cs sl := by
  intro p e s m args below meth c ad H ls locs F hH hE hst hlv hl hS
  subst hp
  have hy : inI y := okl_hd hst
  have hx : inI x := okl_hd (okl_tl hst)
  exact lv_icmp_gt F.1.1 F.1.2 hd ht (fun h => kt ((oi_lt hy hx).mp h) p e s m args below meth c ad H ls locs F hH hE (okl_tl (okl_tl hst)) hlv hl hS) (fun h => kf (fun h2 => h ((oi_lt hy hx).mpr h2)) p e s m args below meth c ad H ls locs F hH hE (okl_tl (okl_tl hst)) hlv hl hS)
theorem V_if_le {x off : Int} {tgt : Nat} (hd : decode cc pc = .ok (.ifCond .le off, 3)) (ht : (pc : Int) + off = (tgt : Int)) (hp : pc + 3 = q) (kt : x ≤ 0 → V Γ α0 ad0 Z R own cc nL ret nm tgt st lv α μ cs sl) (kf : ¬ (x ≤ 0) → V Γ α0 ad0 Z R own cc nL ret nm q st lv α μ cs sl) : V Γ α0 ad0 Z R own cc nL ret nm pc ((0, x) :: st) lv α μ cs sl := by
  intro p e s m args below meth c ad H ls locs F hH hE hst hlv hl hS
  subst hp
  have hx : inI x := okl_hd hst
  exact lv_if_le F.1.1 F.1.2 hd ht (fun h => kt ((oi_le0 hx).mp h) p e s m args below meth c ad H ls locs F hH hE (okl_tl hst) hlv hl hS) (fun h => kf (fun h2 => h ((oi_le0 hx).mpr h2)) p e s m args below meth c ad H ls locs F hH hE (okl_tl hst) hlv hl hS)
theorem V_icmp_le {x y off : Int} {tgt : Nat} (hd : decode cc pc = .ok (.if_icmp .le off, 3)) (ht : (pc : Int) + off = (tgt : Int)) (hp : pc + 3 = q) (kt : x ≤ y → V Γ α0 ad0 Z R own cc nL ret nm tgt st lv α μ cs sl) (kf : ¬ (x ≤ y) → V Γ α0 ad0 Z R own cc nL ret nm q st lv α μ cs sl) : V Γ α0 ad0 Z R own cc nL ret nm pc ((0, y) :: (0, x) :: st) lv α μ cs sl := by
  intro p e s m args below meth c ad H ls locs F hH hE hst hlv hl hS
  subst hp
  have hy : inI y := okl_hd hst
  have hx : inI x := okl_hd (okl_tl hst)
  exact lv_icmp_le F.1.1 F.1.2 hd ht (fun h => kt ((oi_le hx hy).mp h) p e s m args below meth c ad H ls locs F hH hE (okl_tl (okl_tl hst)) hlv hl hS) (fun h => kf (fun h2 => h ((oi_le hx hy).mpr h2)) p e s m args below meth c ad H ls locs F hH hE (okl_tl (okl_tl hst)) hlv hl hS)
theorem V_ifnull {x off : Int} {tgt : Nat} (hd : decode cc pc = .ok (.ifnull off, 3)) (ht : (pc : Int) + off = (tgt : Int)) (hp : pc + 3 = q) (kt : x < 0 → V Γ α0 ad0 Z R own cc nL ret nm tgt st lv α μ cs sl) (kf : 0 ≤ x → V Γ α0 ad0 Z R own cc nL ret nm q st lv α μ cs sl) : V Γ α0 ad0 Z R own cc nL ret nm pc ((3, x) :: st) lv α μ cs sl := by
  intro p e s m args below meth c ad H ls locs F hH hE hst hlv hl hS
  subst hp
  show W _ _ _ _ _ _ _ _ _ _ _ _ _ _ _ (F0 m pc ls (cav ad (3, x) :: st.map (cav ad)))
  by_cases h0 : x < 0
  · have e3 : cav ad (3, x) = .null := if_pos h0
    rw [e3]
    exact lv_ifnullN F.1.1 F.1.2 hd ht (kt h0 p e s m args below meth c ad H ls locs F hH hE (okl_tl hst) hlv hl hS)
  · have e3 : cav ad (3, x) = .ref (ad x) := if_neg h0
    rw [e3]
    exact lv_ifnull F.1.1 F.1.2 hd (kf (by omega) p e s m args below meth c ad H ls locs F hH hE (okl_tl hst) hlv hl hS)
theorem V_ifnonnull {x off : Int} {tgt : Nat} (hd : decode cc pc = .ok (.ifnonnull off, 3)) (ht : (pc : Int) + off = (tgt : Int)) (hp : pc + 3 = q) (kt : 0 ≤ x → V Γ α0 ad0 Z R own cc nL ret nm tgt st lv α μ cs sl) (kf : x < 0 → V Γ α0 ad0 Z R own cc nL ret nm q st lv α μ cs sl) : V Γ α0 ad0 Z R own cc nL ret nm pc ((3, x) :: st) lv α μ cs sl := by
  intro p e s m args below meth c ad H ls locs F hH hE hst hlv hl hS
  subst hp
  show W _ _ _ _ _ _ _ _ _ _ _ _ _ _ _ (F0 m pc ls (cav ad (3, x) :: st.map (cav ad)))
  by_cases h0 : x < 0
  · have e3 : cav ad (3, x) = .null := if_pos h0
    rw [e3]
    exact lv_ifnonnullN F.1.1 F.1.2 hd (kf h0 p e s m args below meth c ad H ls locs F hH hE (okl_tl hst) hlv hl hS)
  · have e3 : cav ad (3, x) = .ref (ad x) := if_neg h0
    rw [e3]
    exact lv_ifnonnull F.1.1 F.1.2 hd ht (kt (by omega) p e s m args below meth c ad H ls locs F hH hE (okl_tl hst) hlv hl hS)
theorem V_goto {off : Int} {tgt : Nat} (hd : decode cc pc = .ok (.goto off, 3)) (ht : (pc : Int) + off = (tgt : Int)) (k : V Γ α0 ad0 Z R own cc nL ret nm tgt st lv α μ cs sl) : V Γ α0 ad0 Z R own cc nL ret nm pc st lv α μ cs sl := by
  intro p e s m args below meth c ad H ls locs F hH hE hst hlv hl hS
  exact lv_goto F.1.1 F.1.2 hd ht (k p e s m args below meth c ad H ls locs F hH hE hst hlv hl hS)
theorem V_tswIn {dflt lo hi x off : Int} {offs : Array Int} {len tgt : Nat} (hd : decode cc pc = .ok (.tableswitch dflt lo hi offs, len)) (h1 : lo ≤ x) (h2 : x ≤ hi) (ho : offs[(x - lo).toNat]? = some off) (ht : (pc : Int) + off = (tgt : Int)) (k : V Γ α0 ad0 Z R own cc nL ret nm tgt st lv α μ cs sl) : V Γ α0 ad0 Z R own cc nL ret nm pc ((0, x) :: st) lv α μ cs sl := by
  intro p e s m args below meth c ad H ls locs F hH hE hst hlv hl hS
  have hx : inI x := okl_hd hst
  exact lv_tableIn F.1.1 F.1.2 hd (by rw [oi_int hx]; omega) (by rw [oi_int hx]; omega) (by rw [oi_int hx]; exact ho) ht (k p e s m args below meth c ad H ls locs F hH hE (okl_tl hst) hlv hl hS)
theorem V_tswOut {dflt lo hi x : Int} {offs : Array Int} {len tgt : Nat} (hd : decode cc pc = .ok (.tableswitch dflt lo hi offs, len)) (h : x < lo ∨ hi < x) (ht : (pc : Int) + dflt = (tgt : Int)) (k : V Γ α0 ad0 Z R own cc nL ret nm tgt st lv α μ cs sl) : V Γ α0 ad0 Z R own cc nL ret nm pc ((0, x) :: st) lv α μ cs sl := by
  intro p e s m args below meth c ad H ls locs F hH hE hst hlv hl hS
  have hx : inI x := okl_hd hst
  exact lv_tableOut F.1.1 F.1.2 hd (by rw [oi_int hx]; exact h) ht (k p e s m args below meth c ad H ls locs F hH hE (okl_tl hst) hlv hl hS)
theorem V_lsw {dflt x off : Int} {ps : Array (Int × Int)} {len tgt : Nat} (hd : decode cc pc = .ok (.lookupswitch dflt ps, len)) (hs : (ps.toList.zip (ps.toList.drop 1)).all (fun (a, next) => a.1 < next.1) = true) (ho : Op.lookupswitch.offset ps.toList dflt x = off) (ht : (pc : Int) + off = (tgt : Int)) (k : V Γ α0 ad0 Z R own cc nL ret nm tgt st lv α μ cs sl) : V Γ α0 ad0 Z R own cc nL ret nm pc ((0, x) :: st) lv α μ cs sl := by
  intro p e s m args below meth c ad H ls locs F hH hE hst hlv hl hS
  have hx : inI x := okl_hd hst
  exact lv_lookup F.1.1 F.1.2 hd hs (by rw [oi_int hx]; exact ho) ht (k p e s m args below meth c ad H ls locs F hH hE (okl_tl hst) hlv hl hS)
theorem cav_cat1 {ad : Ad} {v : AV} (h : v.1 ≠ 2) : (cav ad v).category = 1 := by
  obtain ⟨k, x⟩ := v
  match k with
  | 0 => rfl
  | 1 => rfl
  | 2 => exact absurd rfl h
  | 3 =>
    show (if x < 0 then Value.null else Value.ref (ad x)).category = 1
    split <;> rfl
  | k + 4 => rfl
theorem V_dup {v : AV} (hd : decode cc pc = .ok (.dup, 1)) (hp : pc + 1 = q) (hv : v.1 ≠ 2) (k : V Γ α0 ad0 Z R own cc nL ret nm q (v :: v :: st) lv α μ cs sl) : V Γ α0 ad0 Z R own cc nL ret nm pc (v :: st) lv α μ cs sl := by
  intro p e s m args below meth c ad H ls locs F hH hE hst hlv hl hS
  subst hp
  exact lv_dup F.1.1 F.1.2 hd (cav_cat1 hv) (k p e s m args below meth c ad H ls locs F hH hE (okl_cons (okl_hd hst) hst) hlv hl hS)
theorem V_dup2 {v w : AV} (hd : decode cc pc = .ok (.dup2, 1)) (hp : pc + 1 = q) (hv : v.1 ≠ 2) (hw : w.1 ≠ 2) (k : V Γ α0 ad0 Z R own cc nL ret nm q (v :: w :: v :: w :: st) lv α μ cs sl) : V Γ α0 ad0 Z R own cc nL ret nm pc (v :: w :: st) lv α μ cs sl := by
  intro p e s m args below meth c ad H ls locs F hH hE hst hlv hl hS
  subst hp
  exact lv_dup2_11 F.1.1 F.1.2 hd (cav_cat1 hv) (cav_cat1 hw) (k p e s m args below meth c ad H ls locs F hH hE (okl_cons (okl_hd hst) (okl_cons (okl_hd (okl_tl hst)) hst)) hlv hl hS)
end VR
end
section
/-- a memory with one place changed -/
def mu (μ : Mem) (t i x : Int) : Mem := fun t1 i1 => if t1 = t ∧ i1 = i then x else μ t1 i1
/-- a memory with one cell anew -/
def mn (μ : Mem) (t : Int) (f : Int → Int) : Mem := fun t1 => if t1 = t then f else μ t1
def sa (α : Sh) (t : Int) (sh : Nat × Nat) : Sh := fun t1 => if t1 = t then sh else α t1
theorem mu_s (μ : Mem) (t i x : Int) : mu μ t i x t i = x := if_pos ⟨rfl, rfl⟩
theorem mu_t (μ : Mem) (t i x : Int) {t1 i1 : Int} (h : t1 ≠ t) : mu μ t i x t1 i1 = μ t1 i1 := if_neg (fun q => h q.1)
theorem mu_i (μ : Mem) (t i x : Int) {t1 i1 : Int} (h : i1 ≠ i) : mu μ t i x t1 i1 = μ t1 i1 := if_neg (fun q => h q.2)
theorem mu_f (μ : Mem) (t i x : Int) {t1 : Int} (h : t1 ≠ t) : mu μ t i x t1 = μ t1 := funext fun _ => mu_t μ t i x h
theorem mn_s (μ : Mem) (t : Int) (f : Int → Int) : mn μ t f t = f := if_pos rfl
theorem mn_t (μ : Mem) (t : Int) (f : Int → Int) {t1 : Int} (h : t1 ≠ t) : mn μ t f t1 = μ t1 := if_neg h
theorem sa_s (α : Sh) (t : Int) (sh : Nat × Nat) : sa α t sh t = sh := if_pos rfl
theorem sa_t (α : Sh) (t : Int) (sh : Nat × Nat) {t1 : Int} (h : t1 ≠ t) : sa α t sh t1 = α t1 := if_neg h
theorem hws_at {Γ : GC} {ad : Ad} {α : Sh} {μ : Mem} {L : List Int} {q0 : Nat} {t : Int} (h : L[q0]? = some t) : (hws Γ ad α μ L)[q0]? = some (ad t, ec Γ ad (α t) (μ t)) := by
  simp [hws, h]
theorem hws_set {Γ : GC} {ad : Ad} {α : Sh} {μ μ1 : Mem} {L : List Int} {q0 : Nat} {t : Int} (hn : L.Nodup) (h : L[q0]? = some t) (hm : ∀ u, u ≠ t → μ1 u = μ u) : (hws Γ ad α μ L).set q0 (ad t, ec Γ ad (α t) (μ1 t)) = hws Γ ad α μ1 L := by
  apply List.ext_getElem?
  intro j
  by_cases hj : q0 = j
  · subst hj
    have hlt : q0 < L.length := (List.getElem?_eq_some_iff.mp h).1
    rw [List.getElem?_set_self (by simpa [hws] using hlt), hws_at h]
  · rw [List.getElem?_set_ne hj]
    simp only [hws, List.getElem?_map]
    cases hu : L[j]? with
    | none => rfl
    | some u =>
      have hne : u ≠ t := by
        intro he
        subst he
        exact hj ((List.getElem?_inj (List.getElem?_eq_some_iff.mp h).1 hn).mp (h.trans hu.symm))
      simp [hm u hne]
theorem ec_20 {Γ : GC} {ad : Ad} {n : Nat} {f : Int → Int} : ec Γ ad (20, n) f = .inl (g_A Γ 20, n, .inl fun i => Int32.ofInt (f i)) := rfl
theorem ec_21 {Γ : GC} {ad : Ad} {n : Nat} {f : Int → Int} : ec Γ ad (21, n) f = .inl (g_A Γ 21, n, .inl fun i => Int32.ofInt (f i)) := rfl
theorem ec_22 {Γ : GC} {ad : Ad} {n : Nat} {f : Int → Int} : ec Γ ad (22, n) f = .inl (g_A Γ 22, n, .inr (.inl fun i => Int64.ofInt (f i))) := rfl
theorem ec_q {Γ : GC} {ad : Ad} {k n : Nat} {f : Int → Int} (h : 23 ≤ k) : ec Γ ad (k, n) f = .inl (g_A Γ k, n, .inr (.inr (.inr (.inr fun i => if f i < 0 then none else some (ad (f i)))))) := by
  unfold ec
  rw [if_neg (by show ¬ k < 20; omega), if_neg (by show ¬ k < 22; omega), if_neg (by show ¬ k = 22; omega)]
def cfs (ad : Ad) (ci : Nat) (f : Int → Int) : List Value := (List.range (cN ci)).map fun k : Nat => cv ad (cK ci k) (f k)
theorem ec_c {Γ : GC} {ad : Ad} {ci n : Nat} {f : Int → Int} (h : ci < 8) : ec Γ ad (ci + 1, n) f = .inr (ci, cfs ad ci f) := by
  unfold ec
  rw [if_pos (by show ci + 1 < 20; omega)]
  rfl
theorem ek_c {ci i : Nat} (h : ci < 8) : ek (ci + 1) i = cK ci i := by
  unfold ek
  rw [if_pos (by omega)]
  rfl
theorem ek_q {k i : Nat} (h : 23 ≤ k) : ek k i = 3 := by
  unfold ek
  rw [if_neg (by omega), if_neg (by omega), if_neg (by omega), if_neg (by omega)]
theorem cfs_at {ad : Ad} {ci k : Nat} {f : Int → Int} (h : k < cN ci) : (cfs ad ci f)[k]? = some (cv ad (cK ci k) (f k)) := by
  simp [cfs, List.getElem?_map, List.getElem?_range h]
theorem cfs_len {ad : Ad} {ci : Nat} {f : Int → Int} : (cfs ad ci f).length = cN ci := by simp [cfs]
theorem cfs_set {ad : Ad} {ci k : Nat} {μ : Mem} {t x : Int} : (cfs ad ci (μ t)).set k (cv ad (cK ci k) x) = cfs ad ci (mu μ t k x t) := by
  apply List.ext_getElem?
  intro j
  by_cases hj : k = j
  · subst hj
    by_cases hk : k < cN ci
    · rw [List.getElem?_set_self (by rw [cfs_len]; exact hk), cfs_at hk, mu_s]
    · rw [List.getElem?_eq_none (by rw [List.length_set, cfs_len]; omega), List.getElem?_eq_none (by rw [cfs_len]; omega)]
  · rw [List.getElem?_set_ne hj]
    by_cases hk : j < cN ci
    · rw [cfs_at hk, cfs_at hk, mu_i _ _ _ _ (by omega)]
    · rw [List.getElem?_eq_none (by rw [cfs_len]; omega), List.getElem?_eq_none (by rw [cfs_len]; omega)]
theorem WFm_put {α : Sh} {μ : Mem} {t x : Int} {i : Nat} (h : WFm α μ) (hx : okx α (ek (α t).1 i) x) : WFm α (mu μ t i x) := by
  intro u j hu
  unfold mu
  split
  · rename_i h1
    obtain ⟨h1, h2⟩ := h1
    rw [h1, show j = i by omega]; exact hx
  · exact h u j hu
theorem kv_bool {x : Int} (h : 0 ≤ x ∧ x ≤ 1) : x = 0 ∨ x = 1 := by omega
theorem nar_fit {ad : Ad} {α : Sh} {k : Nat} {ty : FieldType} {x : Int} (hk : kty k ty = true) (h3 : k ≤ 3) (hx : okx α k x) : narrow ty (cv ad k x) = cv ad k x ∧ fits ty (cv ad k x) = true := by
  match k, h3 with
  | 0, _ => rw [show ty = .int by simpa [kty] using hk]; exact ⟨rfl, rfl⟩
  | 1, _ =>
    rw [show ty = .boolean by simpa [kty] using hk]
    rcases kv_bool hx with rfl | rfl <;> exact ⟨rfl, rfl⟩
  | 2, _ => rw [show ty = .long by simpa [kty] using hk]; exact ⟨rfl, rfl⟩
  | 3, _ =>
    have h4 : isRefT ty = true := hk
    show narrow ty (if x < 0 then .null else .ref (ad x)) = (if x < 0 then .null else .ref (ad x)) ∧ fits ty (if x < 0 then .null else .ref (ad x)) = true
    cases ty <;> simp only [isRefT] at h4 <;> first | (cases h4; done) | (split <;> exact ⟨rfl, rfl⟩)
def avk (k : Nat) : Nat := if k = 1 then 0 else k
theorem cv_avk {ad : Ad} {k : Nat} {x : Int} : cv ad (avk k) x = cv ad k x := by
  unfold avk
  split
  · rename_i h; subst h; rfl
  · rfl
theorem okx_avk {α : Sh} {k : Nat} {x : Int} (h : okx α k x) : okx α (avk k) x := by
  unfold avk
  split
  · rename_i h1; subst h1
    have h2 : 0 ≤ x ∧ x ≤ 1 := h
    exact (show inI x by omega)
  · exact h
theorem HR_put {Γ : GC} {α : Sh} {μ : Mem} {ad : Ad} {H1 : Heap} {L : List Int} {t x : Int} {i q0 : Nat} (hn : L.Nodup) (hL : ∀ t, t ∈ L ↔ (α t).1 ≠ 0) (hq : L[q0]? = some t) (hW : WFm α μ) (hx : okx α (ek (α t).1 i) x) {E : va_E} (hE : E = ec Γ ad (α t) (mu μ t i x t))
    (hP : va_P (g_D Γ) CL ((hws Γ ad α μ L).set q0 (ad t, E)) H1) (hD : va_D (fun q => g_b Γ ≤ q) ((hws Γ ad α μ L).set q0 (ad t, E))) : HR Γ α (mu μ t i x) ad H1 := by
  subst hE
  rw [hws_set hn hq (fun u hu => mu_f μ t i x hu)] at hP hD
  exact ⟨⟨L, hn, hL, hP, hD⟩, WFm_put hW hx⟩
section VH
variable {Γ : GC} {α0 : Sh} {ad0 : Ad} {Z : ZT} {R : Room} {own : String} {cc : ByteArray} {nL : Nat} {ret : Option FieldType} {nm : String} {pc q : Nat} {st lv : List AV} {α : Sh} {μ : Mem} {cs sl : Nat}
theorem FX.hx {Γ : GC} {p : Program} {s : State} {m : MethodId} {args : Array Value} {meth : Method} {c : Code} (F : FX Γ p s m args meth c own cc nL ret nm) : p.tables.exec = Jvm.exec := F.1.1
theorem FX.hb {Γ : GC} {p : Program} {s : State} {m : MethodId} {args : Array Value} {meth : Method} {c : Code} (F : FX Γ p s m args meth c own cc nL ret nm) : c.code = cc := F.1.2
theorem FX.ml {Γ : GC} {p : Program} {s : State} {m : MethodId} {args : Array Value} {meth : Method} {c : Code} (F : FX Γ p s m args meth c own cc nL ret nm) : c.maxLocals = nL := F.2.1
theorem FX.ow {Γ : GC} {p : Program} {s : State} {m : MethodId} {args : Array Value} {meth : Method} {c : Code} (F : FX Γ p s m args meth c own cc nL ret nm) : s.vm.findClass own = some m.cls := F.2.2.1
theorem FX.ts {Γ : GC} {p : Program} {s : State} {m : MethodId} {args : Array Value} {meth : Method} {c : Code} (F : FX Γ p s m args meth c own cc nL ret nm) : ∀ w ∈ lw_good, w.before args s = true := F.2.2.2.1
theorem FX.w {Γ : GC} {p : Program} {s : State} {m : MethodId} {args : Array Value} {meth : Method} {c : Code} (F : FX Γ p s m args meth c own cc nL ret nm) {w : Cond} (h : w ∈ lw_tbl) (hg : goodWord w = true) : w.before args s = true := F.2.2.2.1 w (lw_gd h hg)
theorem FX.rt {Γ : GC} {p : Program} {s : State} {m : MethodId} {args : Array Value} {meth : Method} {c : Code} (F : FX Γ p s m args meth c own cc nL ret nm) : meth.sig.returnType = ret := F.2.2.2.2.1
theorem FX.lk {Γ : GC} {p : Program} {s : State} {m : MethodId} {args : Array Value} {meth : Method} {c : Code} (F : FX Γ p s m args meth c own cc nL ret nm) : meth.locks = false := F.2.2.2.2.2.1
theorem FX.nme {Γ : GC} {p : Program} {s : State} {m : MethodId} {args : Array Value} {meth : Method} {c : Code} (F : FX Γ p s m args meth c own cc nL ret nm) : nm = "<init>" → meth.name = nm := F.2.2.2.2.2.2.1
theorem FX.kf {Γ : GC} {p : Program} {s : State} {m : MethodId} {args : Array Value} {meth : Method} {c : Code} (F : FX Γ p s m args meth c own cc nL ret nm) : KF Γ s := F.2.2.2.2.2.2.2.1
theorem FX.bs {Γ : GC} {p : Program} {s : State} {m : MethodId} {args : Array Value} {meth : Method} {c : Code} (F : FX Γ p s m args meth c own cc nL ret nm) : g_b Γ ≤ s.heap.size := F.2.2.2.2.2.2.2.2
theorem cinG {ci : Nat} (h : ci < 8) : ∀ w ∈ u_ws (cR ci) (cT ci) (cN ci), w ∈ lw_good := fun w hw => lw_gd (cin ci h w hw) (cig ci h w hw)
theorem V_get {ci k idx : Nat} {x : Int} (hd : decode cc pc = .ok (.getfield idx, 3)) (hp : pc + 3 = q) (fl : FL own idx ci k) (h0 : 0 ≤ x) (hα : (α x).1 = ci + 1) (kk : okx α (cK ci k) (μ x k) → V Γ α0 ad0 Z R own cc nL ret nm q ((avk (cK ci k), μ x k) :: st) lv α μ cs sl) : V Γ α0 ad0 Z R own cc nL ret nm pc ((3, x) :: st) lv α μ cs sl := by
  intro p e s m args below meth c ad H ls locs F hH hE hst hlv hl hS
  subst hp
  obtain ⟨hlk, hk, h8⟩ := fl
  obtain ⟨⟨L, hn, hL, hP, hD⟩, hW⟩ := id hH
  obtain ⟨q0, hq⟩ := List.mem_iff_getElem?.mp ((hL x).mpr (by omega))
  have he := hws_at (Γ := Γ) (ad := ad) (α := α) (μ := μ) hq
  rw [show α x = (ci + 1, (α x).2) from Prod.ext hα rfl, ec_c h8] at he
  have hx : okx α (cK ci k) (μ x k) := by
    have := hW x k (by omega)
    rwa [hα, ek_c h8] at this
  have e1 : cav ad (3, x) = .ref (ad x) := if_neg (by omega)
  have h1 := kk hx p e s m args below meth c ad H ls locs F hH hE (okl_cons (okx_avk hx) (okl_tl hst)) hlv hl hS
  rw [List.map_cons, e1]
  rw [List.map_cons, show cav ad (avk (cK ci k), μ x k) = cv ad (cK ci k) (μ x k) from cv_avk] at h1
  exact va_get F.hx F.hb F.ts (cinG h8) F.ow F.kf.1 hP q0 he (CL_at ci h8) k hk (F.w hlk rfl) (fun _ h => h) (cfs_at hk) hd h1
theorem V_getI {ci k idx : Nat} {x : Int} (ki : Int) (hd : decode cc pc = .ok (.getfield idx, 3)) (hp : pc + 3 = q) (fl : FL own idx ci k) (h0 : 0 ≤ x) (hα : (α x).1 = ci + 1) (hki : (k : Int) = ki) (hk : cK ci k = 0) (kk : ∀ z : Int, z = μ x ki → inI z → V Γ α0 ad0 Z R own cc nL ret nm q ((0, z) :: st) lv α μ cs sl) : V Γ α0 ad0 Z R own cc nL ret nm pc ((3, x) :: st) lv α μ cs sl := by
  subst hki
  refine V_get hd hp fl h0 hα fun h => ?_
  rw [hk] at h ⊢
  exact kk _ rfl h
theorem V_getZ {ci k idx : Nat} {x : Int} (ki : Int) (hd : decode cc pc = .ok (.getfield idx, 3)) (hp : pc + 3 = q) (fl : FL own idx ci k) (h0 : 0 ≤ x) (hα : (α x).1 = ci + 1) (hki : (k : Int) = ki) (hk : cK ci k = 1) (kk : ∀ z : Int, z = μ x ki → 0 ≤ z ∧ z ≤ 1 → V Γ α0 ad0 Z R own cc nL ret nm q ((0, z) :: st) lv α μ cs sl) : V Γ α0 ad0 Z R own cc nL ret nm pc ((3, x) :: st) lv α μ cs sl := by
  subst hki
  refine V_get hd hp fl h0 hα fun h => ?_
  rw [hk] at h ⊢
  exact kk _ rfl h
theorem V_getJ {ci k idx : Nat} {x : Int} (ki : Int) (hd : decode cc pc = .ok (.getfield idx, 3)) (hp : pc + 3 = q) (fl : FL own idx ci k) (h0 : 0 ≤ x) (hα : (α x).1 = ci + 1) (hki : (k : Int) = ki) (hk : cK ci k = 2) (kk : ∀ z : Int, z = μ x ki → inL z → V Γ α0 ad0 Z R own cc nL ret nm q ((2, z) :: st) lv α μ cs sl) : V Γ α0 ad0 Z R own cc nL ret nm pc ((3, x) :: st) lv α μ cs sl := by
  subst hki
  refine V_get hd hp fl h0 hα fun h => ?_
  rw [hk] at h ⊢
  exact kk _ rfl h
theorem V_getA {ci k idx : Nat} {x : Int} (ki : Int) (hd : decode cc pc = .ok (.getfield idx, 3)) (hp : pc + 3 = q) (fl : FL own idx ci k) (h0 : 0 ≤ x) (hα : (α x).1 = ci + 1) (hki : (k : Int) = ki) (hk : cK ci k = 3) (kk : ∀ z : Int, z = μ x ki → (z < 0 ∨ (α z).1 ≠ 0) → V Γ α0 ad0 Z R own cc nL ret nm q ((3, z) :: st) lv α μ cs sl) : V Γ α0 ad0 Z R own cc nL ret nm pc ((3, x) :: st) lv α μ cs sl := by
  subst hki
  refine V_get hd hp fl h0 hα fun h => ?_
  rw [hk] at h ⊢
  exact kk _ rfl h
theorem V_put {ci k idx : Nat} {t x : Int} (hd : decode cc pc = .ok (.putfield idx, 3)) (hp : pc + 3 = q) (fl : FL own idx ci k) (hfin : (cT ci k).2.2.2 = false ∨ ((cT ci k).2.2.2 = true ∧ nm = "<init>" ∧ cR ci = own)) (h0 : 0 ≤ t) (hα : (α t).1 = ci + 1) (hx : okx α (cK ci k) x) (kk : ∀ μ1, μ1 = mu μ t k x → V Γ α0 ad0 Z R own cc nL ret nm q st lv α μ1 cs sl) : V Γ α0 ad0 Z R own cc nL ret nm pc ((avk (cK ci k), x) :: (3, t) :: st) lv α μ cs sl := by
  intro p e s m args below meth c ad H ls locs F hH hE hst hlv hl hS
  subst hp
  obtain ⟨hlk, hk, h8⟩ := fl
  obtain ⟨⟨L, hn, hL, hP, hD⟩, hW⟩ := id hH
  obtain ⟨q0, hq⟩ := List.mem_iff_getElem?.mp ((hL t).mpr (by omega))
  have hsh : α t = (ci + 1, (α t).2) := Prod.ext hα rfl
  have he := hws_at (Γ := Γ) (ad := ad) (α := α) (μ := μ) hq
  rw [hsh, ec_c h8] at he
  have e1 : cav ad (3, t) = .ref (ad t) := if_neg (by omega)
  have hnf := nar_fit (ad := ad) (ckt ci h8 k hk) (ck3 ci h8 k hk) hx
  have hfl : k < (cfs ad ci (μ t)).length := by rw [cfs_len]; exact hk
  have go : ∀ (H1 : Heap) (locs1 : List Loc), va_P (g_D Γ) CL ((hws Γ ad α μ L).set q0 (ad t, .inr (ci, (cfs ad ci (μ t)).set k (cv ad (cK ci k) x)))) H1 → va_D (fun q => g_b Γ ≤ q) ((hws Γ ad α μ L).set q0 (ad t, .inr (ci, (cfs ad ci (μ t)).set k (cv ad (cK ci k) x)))) → va_S (fun q => g_b Γ ≤ q) s.heap H1 locs1 → W p (g_l Γ) e R s m args below meth c H1 locs1 cs sl (Z s args below) (F0 m (pc + 3) ls (st.map (cav ad))) := by
    intro H1 locs1 hP1 hD1 hS1
    have hE1 : (.inr (ci, (cfs ad ci (μ t)).set k (cv ad (cK ci k) x)) : va_E) = ec Γ ad (α t) (mu μ t k x t) := by
      rw [cfs_set, hsh, ec_c h8]
    exact kk _ rfl p e s m args below meth c ad H1 ls locs1 F (HR_put hn hL hq hW (by rw [hα, ek_c h8]; exact hx) hE1 hP1 hD1) hE (okl_tl (okl_tl hst)) hlv hl hS1
  rw [List.map_cons, List.map_cons, e1, show cav ad (avk (cK ci k), x) = cv ad (cK ci k) x from cv_avk]
  rcases hfin with hf | ⟨hf, hi, ho⟩
  · exact va_put F.hx F.hb F.ts (cinG h8) (cY ci) (cty ci h8) (cnm ci h8) F.ow F.kf.1 hP hD hS q0 he (CL_at ci h8) k hk (F.w hlk rfl) (fun _ h => h) hf (cty ci h8 k hk) hnf.1 hnf.2 hfl hd go
  · exact va_putF F.hx F.hb F.ts (cinG h8) (cY ci) (cty ci h8) (cnm ci h8) F.ow F.kf.1 hP hD hS q0 he (CL_at ci h8) k hk (F.w hlk rfl) (fun _ h => h) hf ((F.nme hi).trans hi) ((cself ci h8 k hk).trans ho) (cty ci h8 k hk) hnf.1 hnf.2 hfl hd go
theorem V_putI {ci k idx : Nat} {t x : Int} (ki : Int) (hd : decode cc pc = .ok (.putfield idx, 3)) (hp : pc + 3 = q) (fl : FL own idx ci k) (hfin : (cT ci k).2.2.2 = false ∨ ((cT ci k).2.2.2 = true ∧ nm = "<init>" ∧ cR ci = own)) (h0 : 0 ≤ t) (hα : (α t).1 = ci + 1) (hki : (k : Int) = ki) (hk : cK ci k = 0) (kk : ∀ μ1, μ1 = mu μ t ki x → V Γ α0 ad0 Z R own cc nL ret nm q st lv α μ1 cs sl) : V Γ α0 ad0 Z R own cc nL ret nm pc ((0, x) :: (3, t) :: st) lv α μ cs sl := by
  subst hki
  intro p e s m args below meth c ad H ls locs F hH hE hst
  have hx : okx α 0 x := okl_hd hst
  have := V_put (st := st) (lv := lv) (μ := μ) (cs := cs) (sl := sl) (x := x) (Γ := Γ) (α0 := α0) (ad0 := ad0) (Z := Z) (R := R) (nL := nL) (ret := ret) hd hp fl hfin h0 hα (by rw [hk]; exact hx) kk
  rw [hk] at this
  exact this p e s m args below meth c ad H ls locs F hH hE hst
theorem V_putZ {ci k idx : Nat} {t x : Int} (ki : Int) (hd : decode cc pc = .ok (.putfield idx, 3)) (hp : pc + 3 = q) (fl : FL own idx ci k) (hfin : (cT ci k).2.2.2 = false ∨ ((cT ci k).2.2.2 = true ∧ nm = "<init>" ∧ cR ci = own)) (h0 : 0 ≤ t) (hα : (α t).1 = ci + 1) (hki : (k : Int) = ki) (hk : cK ci k = 1) (hx : 0 ≤ x ∧ x ≤ 1) (kk : ∀ μ1, μ1 = mu μ t ki x → V Γ α0 ad0 Z R own cc nL ret nm q st lv α μ1 cs sl) : V Γ α0 ad0 Z R own cc nL ret nm pc ((0, x) :: (3, t) :: st) lv α μ cs sl := by
  subst hki
  have := V_put (st := st) (lv := lv) (μ := μ) (cs := cs) (sl := sl) (x := x) (Γ := Γ) (α0 := α0) (ad0 := ad0) (Z := Z) (R := R) (nL := nL) (ret := ret) hd hp fl hfin h0 hα (by rw [hk]; exact hx) kk
  rw [hk] at this
  exact this
theorem V_putJ {ci k idx : Nat} {t x : Int} (ki : Int) (hd : decode cc pc = .ok (.putfield idx, 3)) (hp : pc + 3 = q) (fl : FL own idx ci k) (hfin : (cT ci k).2.2.2 = false ∨ ((cT ci k).2.2.2 = true ∧ nm = "<init>" ∧ cR ci = own)) (h0 : 0 ≤ t) (hα : (α t).1 = ci + 1) (hki : (k : Int) = ki) (hk : cK ci k = 2) (kk : ∀ μ1, μ1 = mu μ t ki x → V Γ α0 ad0 Z R own cc nL ret nm q st lv α μ1 cs sl) : V Γ α0 ad0 Z R own cc nL ret nm pc ((2, x) :: (3, t) :: st) lv α μ cs sl := by
  subst hki
  intro p e s m args below meth c ad H ls locs F hH hE hst
  have hx : okx α 2 x := okl_hd hst
  have := V_put (st := st) (lv := lv) (μ := μ) (cs := cs) (sl := sl) (x := x) (Γ := Γ) (α0 := α0) (ad0 := ad0) (Z := Z) (R := R) (nL := nL) (ret := ret) hd hp fl hfin h0 hα (by rw [hk]; exact hx) kk
  rw [hk] at this
  exact this p e s m args below meth c ad H ls locs F hH hE hst
theorem V_putA {ci k idx : Nat} {t x : Int} (ki : Int) (hd : decode cc pc = .ok (.putfield idx, 3)) (hp : pc + 3 = q) (fl : FL own idx ci k) (hfin : (cT ci k).2.2.2 = false ∨ ((cT ci k).2.2.2 = true ∧ nm = "<init>" ∧ cR ci = own)) (h0 : 0 ≤ t) (hα : (α t).1 = ci + 1) (hki : (k : Int) = ki) (hk : cK ci k = 3) (kk : ∀ μ1, μ1 = mu μ t ki x → V Γ α0 ad0 Z R own cc nL ret nm q st lv α μ1 cs sl) : V Γ α0 ad0 Z R own cc nL ret nm pc ((3, x) :: (3, t) :: st) lv α μ cs sl := by
  subst hki
  intro p e s m args below meth c ad H ls locs F hH hE hst
  have hx : okx α 3 x := okl_hd hst
  have := V_put (st := st) (lv := lv) (μ := μ) (cs := cs) (sl := sl) (x := x) (Γ := Γ) (α0 := α0) (ad0 := ad0) (Z := Z) (R := R) (nL := nL) (ret := ret) hd hp fl hfin h0 hα (by rw [hk]; exact hx) kk
  rw [hk] at this
  exact this p e s m args below meth c ad H ls locs F hH hE hst
theorem V_iald {t i : Int} {n : Nat} (hd : decode cc pc = .ok (.iaload, 1)) (hp : pc + 1 = q) (h0 : 0 ≤ t) (hα : α t = (20, n)) (hi : 0 ≤ i ∧ i < n) (kk : ∀ z : Int, z = μ t i → inI z → V Γ α0 ad0 Z R own cc nL ret nm q ((0, z) :: st) lv α μ cs sl) : V Γ α0 ad0 Z R own cc nL ret nm pc ((0, i) :: (3, t) :: st) lv α μ cs sl := by
  intro p e s m args below meth c ad H ls locs F hH hE hst hlv hl hS
  subst hp
  obtain ⟨⟨L, hn, hL, hP, hD⟩, hW⟩ := id hH
  have hii : inI i := okl_hd hst
  obtain ⟨q0, hq⟩ := List.mem_iff_getElem?.mp ((hL t).mpr (by rw [hα]; exact Nat.succ_ne_zero _))
  have he := hws_at (Γ := Γ) (ad := ad) (α := α) (μ := μ) hq
  rw [hα, ec_20] at he
  have hx : okx α 0 (μ t i) := by
    have := hW t i.toNat (by rw [hα]; exact Nat.succ_ne_zero _)
    rw [hα, Int.toNat_of_nonneg hi.1] at this
    exact this
  have e1 : cav ad (3, t) = .ref (ad t) := if_neg (by omega)
  have h1 := kk _ rfl hx p e s m args below meth c ad H ls locs F hH hE (okl_cons (v := (0, μ t i)) (okx_avk (k := 0) hx) (okl_tl (okl_tl hst))) hlv hl hS
  rw [List.map_cons, List.map_cons, e1]
  refine va_iald F.hx F.hb F.kf.1 hP q0 0 he rfl (oi_in hii hi.1 hi.2) hd ?_
  rw [oi_nat hii, Int.toNat_of_nonneg hi.1]
  exact h1
theorem V_zald {t i : Int} {n : Nat} (hd : decode cc pc = .ok (.baload, 1)) (hp : pc + 1 = q) (h0 : 0 ≤ t) (hα : α t = (21, n)) (hi : 0 ≤ i ∧ i < n) (kk : ∀ z : Int, z = μ t i → 0 ≤ z ∧ z ≤ 1 → V Γ α0 ad0 Z R own cc nL ret nm q ((0, z) :: st) lv α μ cs sl) : V Γ α0 ad0 Z R own cc nL ret nm pc ((0, i) :: (3, t) :: st) lv α μ cs sl := by
  intro p e s m args below meth c ad H ls locs F hH hE hst hlv hl hS
  subst hp
  obtain ⟨⟨L, hn, hL, hP, hD⟩, hW⟩ := id hH
  have hii : inI i := okl_hd hst
  obtain ⟨q0, hq⟩ := List.mem_iff_getElem?.mp ((hL t).mpr (by rw [hα]; exact Nat.succ_ne_zero _))
  have he := hws_at (Γ := Γ) (ad := ad) (α := α) (μ := μ) hq
  rw [hα, ec_21] at he
  have hx : okx α 1 (μ t i) := by
    have := hW t i.toNat (by rw [hα]; exact Nat.succ_ne_zero _)
    rw [hα, Int.toNat_of_nonneg hi.1] at this
    exact this
  have e1 : cav ad (3, t) = .ref (ad t) := if_neg (by omega)
  have h1 := kk _ rfl hx p e s m args below meth c ad H ls locs F hH hE (okl_cons (v := (0, μ t i)) (okx_avk (k := 1) hx) (okl_tl (okl_tl hst))) hlv hl hS
  rw [List.map_cons, List.map_cons, e1]
  refine va_zald F.hx F.hb F.kf.1 hP q0 1 he rfl (oi_in hii hi.1 hi.2) hd ?_
  rw [oi_nat hii, Int.toNat_of_nonneg hi.1]
  exact h1
theorem V_lald {t i : Int} {n : Nat} (hd : decode cc pc = .ok (.laload, 1)) (hp : pc + 1 = q) (h0 : 0 ≤ t) (hα : α t = (22, n)) (hi : 0 ≤ i ∧ i < n) (kk : ∀ z : Int, z = μ t i → inL z → V Γ α0 ad0 Z R own cc nL ret nm q ((2, z) :: st) lv α μ cs sl) : V Γ α0 ad0 Z R own cc nL ret nm pc ((0, i) :: (3, t) :: st) lv α μ cs sl := by
  intro p e s m args below meth c ad H ls locs F hH hE hst hlv hl hS
  subst hp
  obtain ⟨⟨L, hn, hL, hP, hD⟩, hW⟩ := id hH
  have hii : inI i := okl_hd hst
  obtain ⟨q0, hq⟩ := List.mem_iff_getElem?.mp ((hL t).mpr (by rw [hα]; exact Nat.succ_ne_zero _))
  have he := hws_at (Γ := Γ) (ad := ad) (α := α) (μ := μ) hq
  rw [hα, ec_22] at he
  have hx : okx α 2 (μ t i) := by
    have := hW t i.toNat (by rw [hα]; exact Nat.succ_ne_zero _)
    rw [hα, Int.toNat_of_nonneg hi.1] at this
    exact this
  have e1 : cav ad (3, t) = .ref (ad t) := if_neg (by omega)
  have h1 := kk _ rfl hx p e s m args below meth c ad H ls locs F hH hE (okl_cons (v := (2, μ t i)) (okx_avk (k := 2) hx) (okl_tl (okl_tl hst))) hlv hl hS
  rw [List.map_cons, List.map_cons, e1]
  refine va_lald F.hx F.hb F.kf.1 hP q0 2 he rfl (oi_in hii hi.1 hi.2) hd ?_
  rw [oi_nat hii, Int.toNat_of_nonneg hi.1]
  exact h1
theorem g_ty_at {Γ : GC} {ci ta : Nat} (h : tyA ta = .object (cR ci)) (h1 : 23 ≤ ta ∧ ta ≤ 26) : (g_ty Γ)[ta - 20]? = some (g_A Γ ta, .object (cR ci)) := by
  rcases (show ta = 23 ∨ ta = 24 ∨ ta = 25 ∨ ta = 26 by omega) with rfl | rfl | rfl | rfl <;> (rw [← h]; rfl)
theorem V_aald {t i : Int} {n ta ci : Nat} (hd : decode cc pc = .ok (.aaload, 1)) (hp : pc + 1 = q) (h0 : 0 ≤ t) (hα : α t = (ta, n)) (hta : tyA ta = .object (cR ci)) (h1 : 23 ≤ ta ∧ ta ≤ 26) (hi : 0 ≤ i ∧ i < n) (kk : ∀ z : Int, z = μ t i → (z < 0 ∨ (α z).1 ≠ 0) → V Γ α0 ad0 Z R own cc nL ret nm q ((3, z) :: st) lv α μ cs sl) : V Γ α0 ad0 Z R own cc nL ret nm pc ((0, i) :: (3, t) :: st) lv α μ cs sl := by
  intro p e s m args below meth c ad H ls locs F hH hE hst hlv hl hS
  subst hp
  obtain ⟨⟨L, hn, hL, hP, hD⟩, hW⟩ := id hH
  have hii : inI i := okl_hd hst
  obtain ⟨q0, hq⟩ := List.mem_iff_getElem?.mp ((hL t).mpr (by rw [hα]; show ta ≠ 0; omega))
  have he := hws_at (Γ := Γ) (ad := ad) (α := α) (μ := μ) hq
  rw [hα, ec_q h1.1] at he
  have hx : okx α 3 (μ t i) := by
    have := hW t i.toNat (by rw [hα]; show ta ≠ 0; omega)
    rw [hα, Int.toNat_of_nonneg hi.1, ek_q h1.1] at this
    exact this
  have e1 : cav ad (3, t) = .ref (ad t) := if_neg (by omega)
  have h2 := kk _ rfl hx p e s m args below meth c ad H ls locs F hH hE (okl_cons (v := (3, μ t i)) hx (okl_tl (okl_tl hst))) hlv hl hS
  rw [List.map_cons, List.map_cons, e1]
  refine va_aldq F.hx F.hb F.kf.1 hP q0 (ta - 20) he (g_ty_at hta h1) (oi_in hii hi.1 hi.2) hd ?_
  rw [oi_nat hii, Int.toNat_of_nonneg hi.1]
  have e2 : va_rf (if μ t i < 0 then none else some (ad (μ t i))) = cav ad (3, μ t i) := by
    show _ = (if μ t i < 0 then Value.null else Value.ref (ad (μ t i)))
    split <;> rfl
  rw [e2]
  exact h2
theorem V_iast {t i x : Int} {n : Nat} (hd : decode cc pc = .ok (.iastore, 1)) (hp : pc + 1 = q) (h0 : 0 ≤ t) (hα : α t = (20, n)) (hi : 0 ≤ i ∧ i < n) (kk : ∀ μ1, μ1 = mu μ t i x → V Γ α0 ad0 Z R own cc nL ret nm q st lv α μ1 cs sl) : V Γ α0 ad0 Z R own cc nL ret nm pc ((0, x) :: (0, i) :: (3, t) :: st) lv α μ cs sl := by
  intro p e s m args below meth c ad H ls locs F hH hE hst hlv hl hS
  subst hp
  obtain ⟨⟨L, hn, hL, hP, hD⟩, hW⟩ := id hH
  have hxx := okl_hd hst
  have hii : inI i := okl_hd (okl_tl hst)
  obtain ⟨q0, hq⟩ := List.mem_iff_getElem?.mp ((hL t).mpr (by rw [hα]; exact Nat.succ_ne_zero _))
  have he := hws_at (Γ := Γ) (ad := ad) (α := α) (μ := μ) hq
  rw [hα, ec_20] at he
  have e1 : cav ad (3, t) = .ref (ad t) := if_neg (by omega)
  have hit : ((i.toNat : Nat) : Int) = i := Int.toNat_of_nonneg hi.1
  rw [List.map_cons, List.map_cons, List.map_cons, e1]
  refine va_iast F.hx F.hb F.kf.1 hP hD hS q0 0 he rfl (oi_in hii hi.1 hi.2) hd ?_
  intro H1 locs1 hP1 hD1 hS1
  rw [oi_nat hii] at hP1 hD1
  have hE1 : (.inl (g_A Γ 20, n, .inl (upd (fun j : Nat => Int32.ofInt (μ t j)) i.toNat (Int32.ofInt x))) : va_E) = ec Γ ad (α t) (mu μ t (i.toNat : Nat) x t) := by
    rw [hα, ec_20]
    congr 4
    funext j
    unfold upd mu
    by_cases hj : j = i.toNat
    · rw [if_pos hj, if_pos ⟨rfl, by omega⟩]
    · rw [if_neg hj, if_neg (fun h => hj (by omega))]
  have h1 := kk _ rfl p e s m args below meth c ad H1 ls locs1 F (by have := HR_put hn hL hq hW (i := i.toNat) (x := x) (by rw [hα]; exact hxx) hE1 hP1 hD1; rwa [hit] at this) hE (okl_tl (okl_tl (okl_tl hst))) hlv hl hS1
  exact h1
theorem V_zast {t i x : Int} {n : Nat} (hd : decode cc pc = .ok (.bastore, 1)) (hp : pc + 1 = q) (h0 : 0 ≤ t) (hα : α t = (21, n)) (hi : 0 ≤ i ∧ i < n) (hx : 0 ≤ x ∧ x ≤ 1) (kk : ∀ μ1, μ1 = mu μ t i x → V Γ α0 ad0 Z R own cc nL ret nm q st lv α μ1 cs sl) : V Γ α0 ad0 Z R own cc nL ret nm pc ((0, x) :: (0, i) :: (3, t) :: st) lv α μ cs sl := by
  intro p e s m args below meth c ad H ls locs F hH hE hst hlv hl hS
  subst hp
  obtain ⟨⟨L, hn, hL, hP, hD⟩, hW⟩ := id hH
  have hxx := okl_hd hst
  have hii : inI i := okl_hd (okl_tl hst)
  obtain ⟨q0, hq⟩ := List.mem_iff_getElem?.mp ((hL t).mpr (by rw [hα]; exact Nat.succ_ne_zero _))
  have he := hws_at (Γ := Γ) (ad := ad) (α := α) (μ := μ) hq
  rw [hα, ec_21] at he
  have e1 : cav ad (3, t) = .ref (ad t) := if_neg (by omega)
  have hit : ((i.toNat : Nat) : Int) = i := Int.toNat_of_nonneg hi.1
  rw [List.map_cons, List.map_cons, List.map_cons, e1]
  refine va_zast F.hx F.hb F.kf.1 hP hD hS q0 1 he rfl (oi_in hii hi.1 hi.2) hd ?_
  intro H1 locs1 hP1 hD1 hS1
  rw [oi_nat hii] at hP1 hD1
  have hnar : vp_nar .boolean (Int32.ofInt x) = Int32.ofInt x := by rcases kv_bool hx with rfl | rfl <;> rfl
  rw [hnar] at hP1 hD1
  have hE1 : (.inl (g_A Γ 21, n, .inl (upd (fun j : Nat => Int32.ofInt (μ t j)) i.toNat (Int32.ofInt x))) : va_E) = ec Γ ad (α t) (mu μ t (i.toNat : Nat) x t) := by
    rw [hα, ec_21]
    congr 4
    funext j
    unfold upd mu
    by_cases hj : j = i.toNat
    · rw [if_pos hj, if_pos ⟨rfl, by omega⟩]
    · rw [if_neg hj, if_neg (fun h => hj (by omega))]
  have h1 := kk _ rfl p e s m args below meth c ad H1 ls locs1 F (by have := HR_put hn hL hq hW (i := i.toNat) (x := x) (by rw [hα]; exact hx) hE1 hP1 hD1; rwa [hit] at this) hE (okl_tl (okl_tl (okl_tl hst))) hlv hl hS1
  exact h1
theorem V_last {t i x : Int} {n : Nat} (hd : decode cc pc = .ok (.lastore, 1)) (hp : pc + 1 = q) (h0 : 0 ≤ t) (hα : α t = (22, n)) (hi : 0 ≤ i ∧ i < n) (kk : ∀ μ1, μ1 = mu μ t i x → V Γ α0 ad0 Z R own cc nL ret nm q st lv α μ1 cs sl) : V Γ α0 ad0 Z R own cc nL ret nm pc ((2, x) :: (0, i) :: (3, t) :: st) lv α μ cs sl := by
  intro p e s m args below meth c ad H ls locs F hH hE hst hlv hl hS
  subst hp
  obtain ⟨⟨L, hn, hL, hP, hD⟩, hW⟩ := id hH
  have hxx := okl_hd hst
  have hii : inI i := okl_hd (okl_tl hst)
  obtain ⟨q0, hq⟩ := List.mem_iff_getElem?.mp ((hL t).mpr (by rw [hα]; exact Nat.succ_ne_zero _))
  have he := hws_at (Γ := Γ) (ad := ad) (α := α) (μ := μ) hq
  rw [hα, ec_22] at he
  have e1 : cav ad (3, t) = .ref (ad t) := if_neg (by omega)
  have hit : ((i.toNat : Nat) : Int) = i := Int.toNat_of_nonneg hi.1
  rw [List.map_cons, List.map_cons, List.map_cons, e1]
  refine va_last F.hx F.hb F.kf.1 hP hD hS q0 2 he rfl (oi_in hii hi.1 hi.2) hd ?_
  intro H1 locs1 hP1 hD1 hS1
  rw [oi_nat hii] at hP1 hD1
  have hE1 : (.inl (g_A Γ 22, n, .inr (.inl (vp_updL (fun j : Nat => Int64.ofInt (μ t j)) i.toNat (Int64.ofInt x)))) : va_E) = ec Γ ad (α t) (mu μ t (i.toNat : Nat) x t) := by
    rw [hα, ec_22]
    congr 5
    funext j
    unfold vp_updL mu
    by_cases hj : j = i.toNat
    · rw [if_pos hj, if_pos ⟨rfl, by omega⟩]
    · rw [if_neg hj, if_neg (fun h => hj (by omega))]
  have h1 := kk _ rfl p e s m args below meth c ad H1 ls locs1 F (by have := HR_put hn hL hq hW (i := i.toNat) (x := x) (by rw [hα]; exact hxx) hE1 hP1 hD1; rwa [hit] at this) hE (okl_tl (okl_tl (okl_tl hst))) hlv hl hS1
  exact h1
theorem V_aast {t i x : Int} {n ta ci : Nat} (hd : decode cc pc = .ok (.aastore, 1)) (hp : pc + 1 = q) (h0 : 0 ≤ t) (hα : α t = (ta, n)) (hta : tyA ta = .object (cR ci)) (h8 : ci < 8) (h1 : 23 ≤ ta ∧ ta ≤ 26) (hi : 0 ≤ i ∧ i < n) (hx0 : 0 ≤ x) (hx : (α x).1 = ci + 1) (kk : ∀ μ1, μ1 = mu μ t i x → V Γ α0 ad0 Z R own cc nL ret nm q st lv α μ1 cs sl) : V Γ α0 ad0 Z R own cc nL ret nm pc ((3, x) :: (0, i) :: (3, t) :: st) lv α μ cs sl := by
  intro p e s m args below meth c ad H ls locs F hH hE hst hlv hl hS
  subst hp
  obtain ⟨⟨L, hn, hL, hP, hD⟩, hW⟩ := id hH
  have hii : inI i := okl_hd (okl_tl hst)
  obtain ⟨q0, hq⟩ := List.mem_iff_getElem?.mp ((hL t).mpr (by rw [hα]; show ta ≠ 0; omega))
  obtain ⟨q1, hq1⟩ := List.mem_iff_getElem?.mp ((hL x).mpr (by omega))
  have he := hws_at (Γ := Γ) (ad := ad) (α := α) (μ := μ) hq
  rw [hα, ec_q h1.1] at he
  have he1 := hws_at (Γ := Γ) (ad := ad) (α := α) (μ := μ) hq1
  rw [show α x = (ci + 1, (α x).2) from Prod.ext hx rfl, ec_c h8] at he1
  have e1 : cav ad (3, t) = .ref (ad t) := if_neg (by omega)
  have e2 : cav ad (3, x) = .ref (ad x) := if_neg (by omega)
  have hit : ((i.toNat : Nat) : Int) = i := Int.toNat_of_nonneg hi.1
  rw [List.map_cons, List.map_cons, List.map_cons, e1, e2]
  refine va_astq F.hx F.hb F.kf.1 hP hD hS q0 (ta - 20) q1 ci he (g_ty_at hta h1) he1 (CL_at ci h8) (oi_in hii hi.1 hi.2) hd ?_
  intro H1 locs1 hP1 hD1 hS1
  rw [oi_nat hii] at hP1 hD1
  have hE1 : (.inl (g_A Γ ta, n, .inr (.inr (.inr (.inr (va_up (fun j : Nat => if μ t j < 0 then none else some (ad (μ t j))) i.toNat (some (ad x))))))) : va_E) = ec Γ ad (α t) (mu μ t (i.toNat : Nat) x t) := by
    rw [hα, ec_q h1.1]
    congr 7
    funext j
    unfold va_up
    by_cases hj : j = i.toNat
    · rw [if_pos hj, show mu μ t (i.toNat : Nat) x t (j : Int) = x from by rw [hj]; exact mu_s _ _ _ _, if_neg (by omega)]
    · rw [if_neg hj, mu_i _ _ _ _ (show (j : Int) ≠ (i.toNat : Nat) by omega)]
  have h2 := kk _ rfl p e s m args below meth c ad H1 ls locs1 F (by have := HR_put hn hL hq hW (i := i.toNat) (x := x) (by rw [hα, ek_q h1.1]; exact Or.inr (by omega)) hE1 hP1 hD1; rwa [hit] at this) hE (okl_tl (okl_tl (okl_tl hst))) hlv hl hS1
  exact h2
theorem V_alen {t : Int} {n : Nat} (hd : decode cc pc = .ok (.arraylength, 1)) (hp : pc + 1 = q) (h0 : 0 ≤ t) (hα : α t = (20, n)) (hn32 : inI n) (k : V Γ α0 ad0 Z R own cc nL ret nm q ((0, (n : Int)) :: st) lv α μ cs sl) : V Γ α0 ad0 Z R own cc nL ret nm pc ((3, t) :: st) lv α μ cs sl := by
  intro p e s m args below meth c ad H ls locs F hH hE hst hlv hl hS
  subst hp
  obtain ⟨⟨L, hn, hL, hP, hD⟩, hW⟩ := id hH
  obtain ⟨q0, hq⟩ := List.mem_iff_getElem?.mp ((hL t).mpr (by rw [hα]; exact Nat.succ_ne_zero _))
  have he := hws_at (Γ := Γ) (ad := ad) (α := α) (μ := μ) hq
  rw [hα, ec_20] at he
  have e1 : cav ad (3, t) = .ref (ad t) := if_neg (by omega)
  rw [List.map_cons, e1]
  have h1 := hP q0 _ he
  refine W.alen F.hx F.hb (cell := vp_cell (g_A Γ 20) (n, .inl fun i : Nat => Int32.ofInt (μ t i))) (ty := .int) h1 ((F.kf.1.2 0 _ rfl).1 _ _) (n := Int32.ofInt n) ?_ rfl rfl hd ?_
  · rw [vp_cell_i]
    simp only [arrV, Array.size_ofFn]
    exact Int32.ofInt_eq_ofNat.symm
  · exact k p e s m args below meth c ad H ls locs F hH hE (okl_cons (v := (0, (n : Int))) hn32 (okl_tl hst)) hlv hl hS
end VH
end
section
theorem cv_ex {α α1 : Sh} {ad ad1 : Ad} {k : Nat} {x : Int} (h : okx α k x) (hE : EX α ad α1 ad1) : cv ad1 k x = cv ad k x := by
  match k with
  | 0 => rfl
  | 1 => rfl
  | 2 => rfl
  | 3 =>
    show (if x < 0 then Value.null else Value.ref (ad1 x)) = (if x < 0 then Value.null else Value.ref (ad x))
    split
    · rfl
    · rcases h with h | h
      · contradiction
      · rw [(hE x h).2]
  | k + 4 => rfl
theorem okx_ex {α α1 : Sh} {ad ad1 : Ad} {k : Nat} {x : Int} (h : okx α k x) (hE : EX α ad α1 ad1) : okx α1 k x := by
  match k with
  | 0 => exact h
  | 1 => exact h
  | 2 => exact h
  | 3 =>
    rcases h with h | h
    · exact Or.inl h
    · exact Or.inr (by rw [(hE x h).1]; exact h)
  | k + 4 => trivial
theorem okl_ex {α α1 : Sh} {ad ad1 : Ad} {l : List AV} (h : okl α l) (hE : EX α ad α1 ad1) : okl α1 l := fun v hv => okx_ex (h v hv) hE
theorem map_ex {α α1 : Sh} {ad ad1 : Ad} {l : List AV} (h : okl α l) (hE : EX α ad α1 ad1) : l.map (cav ad1) = l.map (cav ad) := List.map_congr_left fun v hv => cv_ex (h v hv) hE
theorem asc_ex {α α1 : Sh} {ad ad1 : Ad} (hE : EX α ad α1 ad1) : ∀ (l : List AV) (n : Nat), okl α l → asc ad1 n l = asc ad n l := by
  intro l
  induction l with
  | nil => intro n _; rfl
  | cons v r ih =>
    intro n h
    unfold asc
    rw [ih (n + 1) (okl_tl h), show cav ad1 v = cav ad v from cv_ex (okl_hd h) hE]
theorem ec_ex {Γ : GC} {α α1 : Sh} {ad ad1 : Ad} {sh : Nat × Nat} {f : Int → Int} (hf : ∀ i : Nat, okx α (ek sh.1 i) (f i)) (hE : EX α ad α1 ad1) : ec Γ ad1 sh f = ec Γ ad sh f := by
  unfold ec
  split
  · rename_i h
    congr 2
    apply List.map_congr_left
    intro k hk
    have h1 := hf k
    unfold ek at h1
    rw [if_pos h] at h1
    exact cv_ex h1 hE
  · rename_i h
    split
    · rfl
    · rename_i h2
      split
      · rfl
      · rename_i h3
        congr 7
        funext i
        have h1 := hf i
        rw [ek_q (by omega)] at h1
        split
        · rfl
        · rcases h1 with h1 | h1
          · contradiction
          · rw [(hE _ h1).2]
theorem EX.trans {α0 α α1 : Sh} {ad0 ad ad1 : Ad} (h : EX α0 ad0 α ad) (h1 : EX α ad α1 ad1) : EX α0 ad0 α1 ad1 := by
  intro t ht
  obtain ⟨e1, e2⟩ := h t ht
  obtain ⟨e3, e4⟩ := h1 t (by rw [e1]; exact ht)
  exact ⟨e3.trans e1, e4.trans e2⟩
def adn (ad : Ad) (t : Int) (q : Nat) : Ad := fun u => if u = t then q else ad u
theorem EX_new {α : Sh} {ad : Ad} {t : Int} {sh : Nat × Nat} {q : Nat} (ht : (α t).1 = 0) : EX α ad (sa α t sh) (adn ad t q) := by
  intro u hu
  have hne : u ≠ t := fun h => hu (by rw [h]; exact ht)
  exact ⟨sa_t _ _ _ hne, if_neg hne⟩
theorem HR_new {Γ : GC} {α : Sh} {μ : Mem} {ad : Ad} {H1 : Heap} {L : List Int} {t : Int} {q : Nat} {sh : Nat × Nat} {f : Int → Int} {E : va_E} (hn : L.Nodup) (hL : ∀ t, t ∈ L ↔ (α t).1 ≠ 0) (hW : WFm α μ) (ht : (α t).1 = 0) (hs0 : sh.1 ≠ 0) (hf : ∀ i : Nat, okx (sa α t sh) (ek sh.1 i) (f i)) (hE : E = ec Γ (adn ad t q) sh f)
    (hP : va_P (g_D Γ) CL (hws Γ ad α μ L ++ [(q, E)]) H1) (hD : va_D (fun q => g_b Γ ≤ q) (hws Γ ad α μ L ++ [(q, E)])) : HR Γ (sa α t sh) (mn μ t f) (adn ad t q) H1 := by
  have hX : EX α ad (sa α t sh) (adn ad t q) := EX_new ht
  have hnt : t ∉ L := fun h => (hL t).mp h ht
  have e : hws Γ (adn ad t q) (sa α t sh) (mn μ t f) (L ++ [t]) = hws Γ ad α μ L ++ [(q, E)] := by
    unfold hws
    rw [List.map_append]
    congr 1
    · apply List.map_congr_left
      intro u hu
      have hu0 := (hL u).mp hu
      have hne : u ≠ t := fun h => hu0 (by rw [h]; exact ht)
      rw [(hX u hu0).1, (hX u hu0).2, mn_t _ _ _ hne, ec_ex (fun i => hW u i hu0) hX]
    · rw [List.map_singleton, sa_s, mn_s, hE]
      congr 2
      exact if_pos rfl
  rw [← e] at hP hD
  refine ⟨⟨L ++ [t], List.nodup_append.mpr ⟨hn, (by simp : [t].Nodup), fun a ha b hb hab => hnt (by rw [List.mem_singleton] at hb; rw [← hb, ← hab]; exact ha)⟩, fun u => ?_, hP, hD⟩, fun u i hu => ?_⟩
  · by_cases hu : u = t
    · subst hu
      rw [sa_s]
      exact ⟨fun _ => hs0, fun _ => List.mem_append_right _ (List.mem_singleton.mpr rfl)⟩
    · rw [sa_t _ _ _ hu, List.mem_append, List.mem_singleton]
      exact ⟨fun h => (hL u).mp (h.resolve_right hu), fun h => Or.inl ((hL u).mpr h)⟩
  · by_cases h : u = t
    · subst h
      rw [sa_s, mn_s]
      exact hf i
    · rw [sa_t _ _ _ h, mn_t _ _ _ h]
      rw [sa_t _ _ _ h] at hu
      exact okx_ex (hW u i hu) hX
def dk (k : Nat) : Int := if k = 3 then -1 else 0
theorem okx_dk {α : Sh} (k : Nat) : okx α k (dk k) := by
  match k with
  | 0 => exact ⟨by decide, by decide⟩
  | 1 => exact ⟨by decide, by decide⟩
  | 2 => exact ⟨by decide, by decide⟩
  | 3 => exact Or.inl (by decide)
  | k + 4 => trivial
theorem dv_ok {ad : Ad} {k : Nat} {ty : FieldType} (hk : kty k ty = true) (h3 : k ≤ 3) : defaultValue ty = cv ad k (dk k) := by
  match k, h3 with
  | 0, _ => rw [show ty = .int by simpa [kty] using hk]; rfl
  | 1, _ => rw [show ty = .boolean by simpa [kty] using hk]; rfl
  | 2, _ => rw [show ty = .long by simpa [kty] using hk]; rfl
  | 3, _ =>
    have h4 : isRefT ty = true := hk
    cases ty <;> simp only [isRefT] at h4 <;> first | (cases h4; done) | rfl
/-- a new object's fields -/
def dkf (ci : Nat) : Int → Int := fun i => dk (cK ci i.toNat)
section VC
variable {Γ : GC} {α0 : Sh} {ad0 : Ad} {Z : ZT} {R : Room} {own : String} {cc : ByteArray} {nL : Nat} {ret : Option FieldType} {nm : String} {pc q : Nat} {st lv : List AV} {α : Sh} {μ : Mem} {cs sl : Nat}
theorem lv_ex {α1 : Sh} {ad ad1 : Ad} {ls : Array Slot} (hlv : okl α lv) (hE : EX α ad α1 ad1) (hl : lv_has ls nL (asc ad 0 lv)) : lv_has ls nL (asc ad1 0 lv) := by rw [asc_ex hE _ _ hlv]; exact hl
theorem V_new {ci idx : Nat} (t : Int) (hd : decode cc pc = .ok (.new idx, 3)) (hp : pc + 3 = q) (ck : CLk own idx ci) (ht : (α t).1 = 0) (h0 : 0 ≤ t) (hcs : cs + 1 ≤ R.cells) (hsl : sl + cN ci ≤ R.slots) (kk : ∀ α1 μ1, α1 = sa α t (ci + 1, 0) → μ1 = mn μ t (dkf ci) → V Γ α0 ad0 Z R own cc nL ret nm q ((3, t) :: st) lv α1 μ1 (cs + 1) (sl + cN ci)) : V Γ α0 ad0 Z R own cc nL ret nm pc st lv α μ cs sl := by
  intro p e s m args below meth c ad H ls locs F hH hE hst hlv hl hS
  subst hp
  obtain ⟨hcl, hin, hini, h8⟩ := ck
  obtain ⟨⟨L, hn, hL, hP, hD⟩, hW⟩ := id hH
  refine va_new (fs := cfs ad ci (dkf ci)) F.hx F.hb F.ts (cinG h8) (cY ci) (cty ci h8) F.ow (F.w hcl rfl) (F.w hin rfl) (F.w hini rfl) F.kf.1 hP hD hS (fun z hz => Nat.le_trans F.bs hz) (CL_at ci h8) ?_ hcs hsl hd ?_
  · intro j hj
    unfold vp_V
    rw [List.getD_eq_getElem?_getD, cfs_at hj]
    show _ = cv ad (cK ci j) (dk (cK ci j))
    exact dv_ok (ckt ci h8 j hj) (ck3 ci h8 j hj)
  · intro a H1 hP1 hD1 hS1
    have hX : EX α ad (sa α t (ci + 1, 0)) (adn ad t a) := EX_new ht
    have hf : ∀ i : Nat, okx (sa α t (ci + 1, 0)) (ek ((ci + 1, 0) : Nat × Nat).1 i) (dkf ci i) := fun i => by
      show okx _ (ek (ci + 1) i) (dk (cK ci i))
      rw [ek_c h8]
      exact okx_dk _
    have hE1 : (.inr (ci, cfs ad ci (dkf ci)) : va_E) = ec Γ (adn ad t a) (ci + 1, 0) (dkf ci) := by
      rw [ec_c h8]
      congr 2
      apply List.map_congr_left
      intro k hk
      exact (cv_ex (α := α) (okx_dk _) hX).symm
    have hh := HR_new hn hL hW ht (by exact Nat.succ_ne_zero ci) hf hE1 hP1 hD1
    have e1 : cav (adn ad t a) (3, t) = .ref a := by
      show (if t < 0 then Value.null else Value.ref (adn ad t a t)) = _
      rw [if_neg (by omega)]
      congr 1
      exact if_pos rfl
    have h1 := kk _ _ rfl rfl p e s m args below meth c (adn ad t a) H1 ls locs F hh (hE.trans hX) (okl_cons (show okx _ 3 t from Or.inr (by rw [sa_s]; exact Nat.succ_ne_zero ci)) (okl_ex hst hX)) (okl_ex hlv hX) (lv_ex hlv hX hl) hS1
    rw [List.map_cons, e1, map_ex hst hX] at h1
    exact h1
theorem V_newI {n : Nat} {x : Int} (t : Int) (hd : decode cc pc = .ok (.newarray .int, 2)) (hp : pc + 2 = q) (hx : x = (n : Nat)) (hn1 : n ≤ 100000) (hw : Cond.arrayClass .int ∈ lw_tbl) (ht : (α t).1 = 0) (h0 : 0 ≤ t) (hcs : cs + 1 ≤ R.cells) (hsl : sl + n ≤ R.slots) (kk : ∀ α1 μ1, α1 = sa α t (20, n) → μ1 = mn μ t (fun _ => 0) → V Γ α0 ad0 Z R own cc nL ret nm q ((3, t) :: st) lv α1 μ1 (cs + 1) (sl + n)) : V Γ α0 ad0 Z R own cc nL ret nm pc ((0, x) :: st) lv α μ cs sl := by
  intro p e s m args below meth c ad H ls locs F hH hE hst hlv hl hS
  subst hp
  subst hx
  obtain ⟨⟨L, hn, hL, hP, hD⟩, hW⟩ := id hH
  have hi : inI (n : Int) := by omega
  refine va_newa (a0 := (n, .inl fun _ : Nat => Int32.ofInt 0)) F.hx F.hb (atype := .int) (F.w hw rfl) rfl F.kf.1 hP hD hS (fun z hz => Nat.le_trans F.bs hz) (fun _ => rfl) (fun h => by have := (oi_lt0 hi).mp h; omega) (by rw [oi_nat hi]; rfl) (Nat.le_trans (Nat.mul_le_mul_right _ hn1) (Nat.le_of_ble_eq_true rfl)) hcs hsl hd ?_
  intro a cA H1 hK1 hP1 hD1 hS1
  have hcA : cA = g_A Γ 20 := Option.some.inj ((show s.vm.findClass ("[" ++ FieldType.toString .int) = some cA from (hK1.2 7 _ rfl).2).symm.trans (show s.vm.findClass ("[" ++ FieldType.toString .int) = some (g_A Γ 20) from (F.kf.1.2 0 _ rfl).2))
  rw [hcA] at hP1 hD1
  have hX : EX α ad (sa α t (20, n)) (adn ad t a) := EX_new ht
  have hh := HR_new (sh := (20, n)) (f := fun _ => 0) hn hL hW ht (Nat.succ_ne_zero _) (fun i => (show okx _ 0 0 from ⟨by decide, by decide⟩)) rfl hP1 hD1
  have e1 : cav (adn ad t a) (3, t) = .ref a := by
    show (if t < 0 then Value.null else Value.ref (adn ad t a t)) = _
    rw [if_neg (by omega)]
    congr 1
    exact if_pos rfl
  have h1 := kk _ _ rfl rfl p e s m args below meth c (adn ad t a) H1 ls locs F hh (hE.trans hX) (okl_cons (show okx _ 3 t from Or.inr (by rw [sa_s]; exact Nat.succ_ne_zero _)) (okl_ex (okl_tl hst) hX)) (okl_ex hlv hX) (lv_ex hlv hX hl) hS1
  rw [List.map_cons, e1, map_ex (okl_tl hst) hX] at h1
  exact h1
theorem V_newZ {n : Nat} {x : Int} (t : Int) (hd : decode cc pc = .ok (.newarray .boolean, 2)) (hp : pc + 2 = q) (hx : x = (n : Nat)) (hn1 : n ≤ 100000) (hw : Cond.arrayClass .boolean ∈ lw_tbl) (ht : (α t).1 = 0) (h0 : 0 ≤ t) (hcs : cs + 1 ≤ R.cells) (hsl : sl + n ≤ R.slots) (kk : ∀ α1 μ1, α1 = sa α t (21, n) → μ1 = mn μ t (fun _ => 0) → V Γ α0 ad0 Z R own cc nL ret nm q ((3, t) :: st) lv α1 μ1 (cs + 1) (sl + n)) : V Γ α0 ad0 Z R own cc nL ret nm pc ((0, x) :: st) lv α μ cs sl := by
  intro p e s m args below meth c ad H ls locs F hH hE hst hlv hl hS
  subst hp
  subst hx
  obtain ⟨⟨L, hn, hL, hP, hD⟩, hW⟩ := id hH
  have hi : inI (n : Int) := by omega
  refine va_newa (a0 := (n, .inl fun _ : Nat => Int32.ofInt 0)) F.hx F.hb (atype := .boolean) (F.w hw rfl) rfl F.kf.1 hP hD hS (fun z hz => Nat.le_trans F.bs hz) (fun _ => rfl) (fun h => by have := (oi_lt0 hi).mp h; omega) (by rw [oi_nat hi]; rfl) (Nat.le_trans (Nat.mul_le_mul_right _ hn1) (Nat.le_of_ble_eq_true rfl)) hcs hsl hd ?_
  intro a cA H1 hK1 hP1 hD1 hS1
  have hcA : cA = g_A Γ 21 := Option.some.inj ((show s.vm.findClass ("[" ++ FieldType.toString .boolean) = some cA from (hK1.2 7 _ rfl).2).symm.trans (show s.vm.findClass ("[" ++ FieldType.toString .boolean) = some (g_A Γ 21) from (F.kf.1.2 1 _ rfl).2))
  rw [hcA] at hP1 hD1
  have hX : EX α ad (sa α t (21, n)) (adn ad t a) := EX_new ht
  have hh := HR_new (sh := (21, n)) (f := fun _ => 0) hn hL hW ht (Nat.succ_ne_zero _) (fun i => (show okx _ 1 0 from ⟨by decide, by decide⟩)) rfl hP1 hD1
  have e1 : cav (adn ad t a) (3, t) = .ref a := by
    show (if t < 0 then Value.null else Value.ref (adn ad t a t)) = _
    rw [if_neg (by omega)]
    congr 1
    exact if_pos rfl
  have h1 := kk _ _ rfl rfl p e s m args below meth c (adn ad t a) H1 ls locs F hh (hE.trans hX) (okl_cons (show okx _ 3 t from Or.inr (by rw [sa_s]; exact Nat.succ_ne_zero _)) (okl_ex (okl_tl hst) hX)) (okl_ex hlv hX) (lv_ex hlv hX hl) hS1
  rw [List.map_cons, e1, map_ex (okl_tl hst) hX] at h1
  exact h1
theorem V_newJ {n : Nat} {x : Int} (t : Int) (hd : decode cc pc = .ok (.newarray .long, 2)) (hp : pc + 2 = q) (hx : x = (n : Nat)) (hn1 : n ≤ 100000) (hw : Cond.arrayClass .long ∈ lw_tbl) (ht : (α t).1 = 0) (h0 : 0 ≤ t) (hcs : cs + 1 ≤ R.cells) (hsl : sl + n ≤ R.slots) (kk : ∀ α1 μ1, α1 = sa α t (22, n) → μ1 = mn μ t (fun _ => 0) → V Γ α0 ad0 Z R own cc nL ret nm q ((3, t) :: st) lv α1 μ1 (cs + 1) (sl + n)) : V Γ α0 ad0 Z R own cc nL ret nm pc ((0, x) :: st) lv α μ cs sl := by
  intro p e s m args below meth c ad H ls locs F hH hE hst hlv hl hS
  subst hp
  subst hx
  obtain ⟨⟨L, hn, hL, hP, hD⟩, hW⟩ := id hH
  have hi : inI (n : Int) := by omega
  refine va_newa (a0 := (n, .inr (.inl fun _ : Nat => Int64.ofInt 0))) F.hx F.hb (atype := .long) (F.w hw rfl) rfl F.kf.1 hP hD hS (fun z hz => Nat.le_trans F.bs hz) (fun _ => rfl) (fun h => by have := (oi_lt0 hi).mp h; omega) (by rw [oi_nat hi]; rfl) (Nat.le_trans (Nat.mul_le_mul_right _ hn1) (Nat.le_of_ble_eq_true rfl)) hcs hsl hd ?_
  intro a cA H1 hK1 hP1 hD1 hS1
  have hcA : cA = g_A Γ 22 := Option.some.inj ((show s.vm.findClass ("[" ++ FieldType.toString .long) = some cA from (hK1.2 7 _ rfl).2).symm.trans (show s.vm.findClass ("[" ++ FieldType.toString .long) = some (g_A Γ 22) from (F.kf.1.2 2 _ rfl).2))
  rw [hcA] at hP1 hD1
  have hX : EX α ad (sa α t (22, n)) (adn ad t a) := EX_new ht
  have hh := HR_new (sh := (22, n)) (f := fun _ => 0) hn hL hW ht (Nat.succ_ne_zero _) (fun i => (show okx _ 2 0 from ⟨by decide, by decide⟩)) rfl hP1 hD1
  have e1 : cav (adn ad t a) (3, t) = .ref a := by
    show (if t < 0 then Value.null else Value.ref (adn ad t a t)) = _
    rw [if_neg (by omega)]
    congr 1
    exact if_pos rfl
  have h1 := kk _ _ rfl rfl p e s m args below meth c (adn ad t a) H1 ls locs F hh (hE.trans hX) (okl_cons (show okx _ 3 t from Or.inr (by rw [sa_s]; exact Nat.succ_ne_zero _)) (okl_ex (okl_tl hst) hX)) (okl_ex hlv hX) (lv_ex hlv hX hl) hS1
  rw [List.map_cons, e1, map_ex (okl_tl hst) hX] at h1
  exact h1
theorem KF.ao {Γ : GC} {U : State} {ta ci : Nat} (h : KF Γ U) (hta : tyA ta = .object (cR ci)) (h1 : 23 ≤ ta ∧ ta ≤ 26) : va_AO (cR ci) U := by
  rcases (show ta = 23 ∨ ta = 24 ∨ ta = 25 ∨ ta = 26 by omega) with rfl | rfl | rfl | rfl
  · rw [show cR ci = RX4 from (FieldType.object.inj hta).symm]; exact h.2.1.1
  · rw [show cR ci = RX1 from (FieldType.object.inj hta).symm]; exact h.2.1.2.1
  · rw [show cR ci = RX0 from (FieldType.object.inj hta).symm]; exact h.2.1.2.2.1
  · rw [show cR ci = RX5 from (FieldType.object.inj hta).symm]; exact h.2.1.2.2.2
theorem V_newA {n idx ci ta : Nat} {x : Int} (t : Int) (hd : decode cc pc = .ok (.anewarray idx, 3)) (hp : pc + 3 = q) (hx : x = (n : Nat)) (hn1 : n ≤ 100000) (ca : CLa own idx ci) (hta : tyA ta = .object (cR ci)) (hr : 23 ≤ ta ∧ ta ≤ 26) (ht : (α t).1 = 0) (h0 : 0 ≤ t) (hcs : cs + 1 ≤ R.cells) (hsl : sl + n ≤ R.slots) (kk : ∀ α1 μ1, α1 = sa α t (ta, n) → μ1 = mn μ t (fun _ => -1) → V Γ α0 ad0 Z R own cc nL ret nm q ((3, t) :: st) lv α1 μ1 (cs + 1) (sl + n)) : V Γ α0 ad0 Z R own cc nL ret nm pc ((0, x) :: st) lv α μ cs sl := by
  intro p e s m args below meth c ad H ls locs F hH hE hst hlv hl hS
  subst hp
  subst hx
  obtain ⟨⟨L, hn, hL, hP, hD⟩, hW⟩ := id hH
  have hi : inI (n : Int) := by omega
  refine va_newq (N' := n) F.hx F.hb F.ow (F.w ca.1 rfl) (F.kf.ao hta hr) F.kf.1 hP hD hS (fun z hz => Nat.le_trans F.bs hz) (fun h => by have := (oi_lt0 hi).mp h; omega) (by rw [oi_nat hi]; rfl) (by omega) hcs hsl hd ?_
  intro a cA H1 hK1 hP1 hD1 hS1
  have h1a := (hK1.2 7 _ rfl).2
  have h1b := (F.kf.1.2 _ _ (g_ty_at hta hr)).2
  obtain ⟨_, _, _, _, _, h1c⟩ := h1a
  obtain ⟨_, _, _, _, _, h1d⟩ := h1b
  have hcA : cA = g_A Γ ta := Option.some.inj (h1c.symm.trans h1d)
  rw [hcA] at hP1 hD1
  have hX : EX α ad (sa α t (ta, n)) (adn ad t a) := EX_new ht
  have hh := HR_new (sh := (ta, n)) (f := fun _ => -1) (ad := ad) hn hL hW ht (show ta ≠ 0 by omega) (fun i => (by show okx _ (ek ta i) (-1); rw [ek_q hr.1]; exact Or.inl (by decide))) (by rw [ec_q hr.1]; rfl) hP1 hD1
  have e1 : cav (adn ad t a) (3, t) = .ref a := by
    show (if t < 0 then Value.null else Value.ref (adn ad t a t)) = _
    rw [if_neg (by omega)]
    congr 1
    exact if_pos rfl
  have h1 := kk _ _ rfl rfl p e s m args below meth c (adn ad t a) H1 ls locs F hh (hE.trans hX) (okl_cons (show okx _ 3 t from Or.inr (by rw [sa_s]; show ta ≠ 0; omega)) (okl_ex (okl_tl hst) hX)) (okl_ex hlv hX) (lv_ex hlv hX hl) hS1
  rw [List.map_cons, e1, map_ex (okl_tl hst) hX] at h1
  exact h1
def catL (st : List AV) : Nat := (st.map fun v => if v.1 = 2 then 2 else 1).sum
theorem catL_eq {ad : Ad} : ∀ st : List AV, ((st.map (cav ad)).map fun v => v.category).sum = catL st := by
  intro st
  induction st with
  | nil => rfl
  | cons v r ih =>
    unfold catL at ih ⊢
    simp only [List.map_cons, List.sum_cons, ih]
    congr 1
    split
    · rename_i h
      obtain ⟨k, x⟩ := v
      cases h
      rfl
    · rename_i h
      exact cav_cat1 h
theorem V_objInit {idx : Nat} {t : Int} (hd : decode cc pc = .ok (.invokespecial idx, 3)) (hp : pc + 3 = q) (ml : MLk own idx objectInit) (h0 : 0 ≤ t) (hf : 1 ≤ R.frames) (hlo : catL st + 12 ≤ R.locals) (k : V Γ α0 ad0 Z R own cc nL ret nm q st lv α μ cs sl) : V Γ α0 ad0 Z R own cc nL ret nm pc ((3, t) :: st) lv α μ cs sl := by
  intro p e s m args below meth c ad H ls locs F hH hE hst hlv hl hS
  subst hp
  have e1 : cav ad (3, t) = .ref (ad t) := if_neg (by omega)
  rw [List.map_cons, e1]
  refine W.objInit F.hx F.hb F.ow (F.w ml rfl) (F.w oi_inst rfl) (F.w oi_code rfl) rfl (hl.1.trans F.ml.symm) rfl hd hf ?_ (k p e s m args below meth c ad H ls locs F hH hE (okl_tl hst) hlv hl hS)
  show 2 * (F0 m pc ls _).monitorRoom + _ + 12 ≤ _
  rw [catL_eq]
  have : (F0 m pc ls (Value.ref (ad t) :: st.map (cav ad))).monitorRoom = 0 := rfl
  omega
end VC
end
section
def MDk (y : MethodName) (n : Nat) : Prop := y.cls ≠ "java/lang/invoke/MethodHandle" ∧ y.cls ≠ "java/lang/invoke/VarHandle" ∧ (parseMethodDescriptor y.desc).map (fun d => d.parameters.length) = some n
theorem gd_all : GoodIn lw_good lw_good := fun w h => ⟨h, good_of_word (List.mem_filter.mp h).2⟩
theorem gd_of {y : MethodName} {cy : ByteArray} {mL : Nat} {ry : Option FieldType} (mw : MWk y cy mL ry) : GoodIn lw_good (wsOf y cy mL ry) := fun w h => (List.mem_cons.mp h).elim (fun e => e ▸ gd_all _ (lw_gd mw.1 rfl)) (fun h => gd_all w h)
/-- the answer is an int, a long, a reference, nothing -/
def QI (P : Int → Sh → Mem → Prop) : Option AV → Sh → Mem → Prop := fun r α μ => ∃ v, r = some (0, v) ∧ P v α μ
def QJ (P : Int → Sh → Mem → Prop) : Option AV → Sh → Mem → Prop := fun r α μ => ∃ v, r = some (2, v) ∧ P v α μ
def QA (P : Int → Sh → Mem → Prop) : Option AV → Sh → Mem → Prop := fun r α μ => ∃ v, r = some (3, v) ∧ P v α μ
def QN (P : Sh → Mem → Prop) : Option AV → Sh → Mem → Prop := fun r α μ => r = none ∧ P α μ
section VI
variable {Γ : GC} {α0 : Sh} {ad0 : Ad} {Z : ZT} {R : Room} {own : String} {cc : ByteArray} {nL : Nat} {ret : Option FieldType} {nm : String} {pc q : Nat} {st lv : List AV} {α : Sh} {μ : Mem} {cs sl : Nat}
theorem W_call {p : Program} {e : Env} {s : State} {m : MethodId} {args : Array Value} {below : List Frame} {meth : Method} {c : Code} {ad : Ad} {H : Heap} {ls : Array Slot} {locs : List Loc} {st0 : List Value} {Q1 : Option AV → Sh → Mem → Prop} {A : Array Value} {mc ms : Nat}
    (hr : va_Run p (g_l Γ) e R s m args below meth c H locs cs sl mc ms (F0 m pc ls st0) (st.map (cav ad)) (QC Γ α ad Q1 A) (fun q => g_b Γ ≤ q))
    (F : FX Γ p s m args meth c own cc nL ret nm) (hE : EX α0 ad0 α ad) (hst : okl α st) (hlv : okl α lv) (hl : lv_has ls nL (asc ad 0 lv)) (hS : va_S (fun q => g_b Γ ≤ q) s.heap H locs)
    (k : ∀ r α1 μ1, (∀ u, (α u).1 ≠ 0 → α1 u = α u) → (∀ v ∈ r, okv α1 v) → Q1 r α1 μ1 → V Γ α0 ad0 Z R own cc nL ret nm (pc + 3) (r.toList ++ st) lv α1 μ1 (cs + mc) (sl + ms)) :
    W p (g_l Γ) e R s m args below meth c H locs cs sl (Z s args below) (F0 m pc ls st0) := by
  intro T hT X
  obtain ⟨v, st₀, t, T', L, h0, X', hL, e1, e2, ⟨⟨r, α1, μ1, ad1, ho, hH1, hX, hr1, hQ⟩, hz, hk⟩, stp⟩ := hr T hT X
  cases ho
  rw [h0] at hz hk
  have hgo := k r α1 μ1 (fun u hu => (hX u hu).1) hr1 hQ p e s m args below meth c ad1 T'.heap ls (locs ++ L) F (by rw [e1]; exact hH1) (hE.trans hX) (okl_app (fun v hv => hr1 v (Option.mem_toList.mp hv)) (okl_ex hst hX)) (okl_ex hlv hX) (lv_ex hlv hX hl)
    ⟨Nat.le_trans hS.1 (by rw [e1]; exact hz), fun q h1 h2 => by rw [e1, hk q (Nat.lt_of_lt_of_le h1 hS.1) h2]; exact hS.2.1 q h1 h2, fun q hq => by
      rcases List.mem_append.mp hq with h | h
      · exact hS.2.2 q h
      · exact hL q h⟩
  rw [List.map_append, map_ex hst hX] at hgo
  obtain ⟨t2, a1, b1⟩ := hgo T' rfl X'
  refine ⟨t2, stp t2 ?_, b1⟩
  cases r <;> exact a1
theorem rm_lo {ad : Ad} {m : MethodId} {ls : Array Slot} {st0 : List Value} (h : catL st ≤ 8) : 2 * (F0 m pc ls st0).monitorRoom + ((st.map (cav ad)).map fun v => v.category).sum ≤ 8 := by
  rw [catL_eq]
  have : (F0 m pc ls st0).monitorRoom = 0 := rfl
  omega
theorem V_invV {idx ci n d mc ms mL : Nat} {y : MethodName} {cy : ByteArray} {ry : Option FieldType} {b : Int} {As stk : List AV} {Q1 : Option AV → Sh → Mem → Prop} (hM : MT Γ y cy mL ry d mc ms ((3, b) :: As) α μ Q1) (hd : decode cc pc = .ok (.invokevirtual idx, 3)) (hp : pc + 3 = q) (ml : MLk own idx y) (mw : MWk y cy mL ry) (im : IMk y) (sk : SLk y) (md : MDk y n) (hci : cR ci = y.cls) (h8 : ci < 8) (h0 : 0 ≤ b) (hα : (α b).1 = ci + 1) (hn : As.length = n) (hstk : stk = As.reverse ++ (3, b) :: st) (hf : d + 1 ≤ R.frames) (hlo : 8 + (mL + 11) + 64 * d ≤ R.locals) (hcs : cs + mc ≤ R.cells) (hsl : sl + ms ≤ R.slots) (hcat : catL st ≤ 8)
    (kk : ∀ r α1 μ1, (∀ u, (α u).1 ≠ 0 → α1 u = α u) → (∀ v ∈ r, okv α1 v) → Q1 r α1 μ1 → V Γ α0 ad0 Z R own cc nL ret nm q (r.toList ++ st) lv α1 μ1 (cs + mc) (sl + ms)) : V Γ α0 ad0 Z R own cc nL ret nm pc stk lv α μ cs sl := by
  intro p e s m args below meth c ad H ls locs F hH hE hst hlv hl hS
  subst hp
  subst hstk
  obtain ⟨⟨L, hnd, hL, hP, hD⟩, hW⟩ := id hH
  obtain ⟨q0, hq⟩ := List.mem_iff_getElem?.mp ((hL b).mpr (by omega))
  have he := hws_at (Γ := Γ) (ad := ad) (α := α) (μ := μ) hq
  rw [show α b = (ci + 1, (α b).2) from Prod.ext hα rfl, ec_c h8] at he
  have e1 : cav ad (3, b) = .ref (ad b) := if_neg (by omega)
  have hA : okl α As := fun v hv => hst v (List.mem_append_left _ (List.mem_reverse.mpr hv))
  have hst1 : okl α st := fun v hv => hst v (List.mem_append_right _ (List.mem_cons_of_mem _ hv))
  have hb : okv α (3, b) := hst _ (List.mem_append_right _ List.mem_cons_self)
  have hM1 := hM (okl_cons hb hA) ad
  rw [List.map_cons, e1] at hM1
  have hrec := va_recv (s := s) F.kf.1 hP (CL_at ci h8) he
  rw [hci] at hrec
  have hrun := va_runV (e := e) (meth := meth) (below := below) (locs := locs) (cells := cs) (slots := sl) (index := idx) (R := R) (As := As.map (cav ad)) (rest := st.map (cav ad)) (b := ad b) (C := y.cls) (g := F0 m pc ls ((As.reverse ++ (3, b) :: st).map (cav ad))) ⟨F.hx, F.hb, F.ml, F.ow, F.ts⟩ hM1 (cwV n F.ts (fun w hw => by
      simp only [wsV, List.cons_append, List.nil_append, List.mem_cons] at hw
      rcases hw with rfl | rfl | rfl | rfl | hw
      · exact gd_all _ (lw_gd ml rfl)
      · exact gd_all _ (lw_gd im rfl)
      · exact gd_all _ (lw_gd sk rfl)
      · exact gd_all _ (lw_gd mw.2 rfl)
      · exact gd_of mw w hw) rfl rfl rfl ⟨rfl, md⟩ ⟨hf, hlo⟩) ⟨fun a U g mk hh => ⟨hh.1, ⟨hh.2.1.1.same rfl, hh.2.1.2⟩, hh.2.2⟩, hrec, fun U hU hW => ⟨rfl, ⟨F.kf.warm hW, by rw [hU]; exact Nat.le_trans F.bs hS.1⟩, by rw [hU]; exact hH⟩⟩ rfl (by rw [List.length_map]; exact hn) hl.1 (by show _ = _; rw [List.map_append, List.map_reverse, List.map_cons, e1]) (rm_lo hcat) hd ⟨hcs, hsl⟩
  exact W_call hrun F hE hst1 hlv hl hS kk
theorem V_invS {idx n d mc ms mL : Nat} {y : MethodName} {cy : ByteArray} {ry : Option FieldType} {As stk : List AV} {Q1 : Option AV → Sh → Mem → Prop} (hM : MT Γ y cy mL ry d mc ms As α μ Q1) (hd : decode cc pc = .ok (.invokestatic idx, 3)) (hp : pc + 3 = q) (ml : MLk own idx y) (mw : MWk y cy mL ry) (sm : SMk y) (md : MDk y n) (hn : As.length = n) (hstk : stk = As.reverse ++ st) (hf : d + 1 ≤ R.frames) (hlo : 8 + (mL + 11) + 64 * d ≤ R.locals) (hcs : cs + mc ≤ R.cells) (hsl : sl + ms ≤ R.slots) (hcat : catL st ≤ 8)
    (kk : ∀ r α1 μ1, (∀ u, (α u).1 ≠ 0 → α1 u = α u) → (∀ v ∈ r, okv α1 v) → Q1 r α1 μ1 → V Γ α0 ad0 Z R own cc nL ret nm q (r.toList ++ st) lv α1 μ1 (cs + mc) (sl + ms)) : V Γ α0 ad0 Z R own cc nL ret nm pc stk lv α μ cs sl := by
  intro p e s m args below meth c ad H ls locs F hH hE hst hlv hl hS
  subst hp
  subst hstk
  have hA : okl α As := fun v hv => hst v (List.mem_append_left _ (List.mem_reverse.mpr hv))
  have hst1 : okl α st := fun v hv => hst v (List.mem_append_right _ hv)
  have hrun := va_runS (e := e) (meth := meth) (below := below) (locs := locs) (cells := cs) (slots := sl) (index := idx) (R := R) (As := As.map (cav ad)) (rest := st.map (cav ad)) (g := F0 m pc ls ((As.reverse ++ st).map (cav ad))) ⟨F.hx, F.hb, F.ml, F.ow, F.ts⟩ (hM hA ad) (va_cwS n F.ts (fun w hw => by
      simp only [va_wsS, List.cons_append, List.nil_append, List.mem_cons] at hw
      rcases hw with rfl | rfl | rfl | hw
      · exact gd_all _ (lw_gd ml rfl)
      · exact gd_all _ (lw_gd sm rfl)
      · exact gd_all _ (lw_gd mw.2 rfl)
      · exact gd_of mw w hw) rfl rfl rfl md ⟨hf, hlo⟩) ⟨fun a U g mk hh => ⟨hh.1, ⟨hh.2.1.1.same rfl, hh.2.1.2⟩, hh.2.2⟩, fun U hU hW => ⟨rfl, ⟨F.kf.warm hW, by rw [hU]; exact Nat.le_trans F.bs hS.1⟩, by rw [hU]; exact hH⟩⟩ rfl (by rw [List.length_map]; exact hn) hl.1 (by show _ = _; rw [List.map_append, List.map_reverse]) (rm_lo hcat) hd ⟨hcs, hsl⟩
  exact W_call hrun F hE hst1 hlv hl hS kk
theorem V_invI {idx n d mc ms mL : Nat} {y : MethodName} {cy : ByteArray} {b : Int} {As stk : List AV} {Q1 : Option AV → Sh → Mem → Prop} (hM : MT Γ y cy mL none d mc ms ((3, b) :: As) α μ Q1) (hd : decode cc pc = .ok (.invokespecial idx, 3)) (hp : pc + 3 = q) (ml : MLk own idx y) (mw : MWk y cy mL none) (im : IMk y) (hin : y.name = "<init>") (md : MDk y n) (h0 : 0 ≤ b) (hn : As.length = n) (hstk : stk = As.reverse ++ (3, b) :: st) (hf : d + 1 ≤ R.frames) (hlo : 8 + (mL + 11) + 64 * d ≤ R.locals) (hcs : cs + mc ≤ R.cells) (hsl : sl + ms ≤ R.slots) (hcat : catL st ≤ 8)
    (kk : ∀ r α1 μ1, (∀ u, (α u).1 ≠ 0 → α1 u = α u) → (∀ v ∈ r, okv α1 v) → Q1 r α1 μ1 → V Γ α0 ad0 Z R own cc nL ret nm q (r.toList ++ st) lv α1 μ1 (cs + mc) (sl + ms)) : V Γ α0 ad0 Z R own cc nL ret nm pc stk lv α μ cs sl := by
  intro p e s m args below meth c ad H ls locs F hH hE hst hlv hl hS
  subst hp
  subst hstk
  have e1 : cav ad (3, b) = .ref (ad b) := if_neg (by omega)
  have hA : okl α As := fun v hv => hst v (List.mem_append_left _ (List.mem_reverse.mpr hv))
  have hst1 : okl α st := fun v hv => hst v (List.mem_append_right _ (List.mem_cons_of_mem _ hv))
  have hb : okv α (3, b) := hst _ (List.mem_append_right _ List.mem_cons_self)
  have hM1 := hM (okl_cons hb hA) ad
  rw [List.map_cons, e1] at hM1
  have hrun := va_runI (e := e) (meth := meth) (below := below) (locs := locs) (cells := cs) (slots := sl) (index := idx) (R := R) (As := As.map (cav ad)) (rest := st.map (cav ad)) (b := ad b) (g := F0 m pc ls ((As.reverse ++ (3, b) :: st).map (cav ad))) ⟨F.hx, F.hb, F.ml, F.ow, F.ts⟩ hM1 (cwI n F.ts (gd_of mw) rfl rfl rfl (F.w mw.2 rfl) (F.w ml rfl) (F.w im rfl) hin md ⟨hf, hlo⟩) ⟨fun a U g mk hh => ⟨hh.1, ⟨hh.2.1.1.same rfl, hh.2.1.2⟩, hh.2.2⟩, fun U hU hW => ⟨rfl, ⟨F.kf.warm hW, by rw [hU]; exact Nat.le_trans F.bs hS.1⟩, by rw [hU]; exact hH⟩⟩ rfl (by rw [List.length_map]; exact hn) hl.1 (by show _ = _; rw [List.map_append, List.map_reverse, List.map_cons, e1]) (rm_lo hcat) hd ⟨hcs, hsl⟩
  exact W_call hrun F hE hst1 hlv hl hS kk
theorem V_invN {idx n d mc ms mL : Nat} {y : MethodName} {cy : ByteArray} {b : Int} {As stk : List AV} {Q1 : Option AV → Sh → Mem → Prop} (hM : MT Γ y cy mL none d mc ms ((3, b) :: As) α μ Q1) (hd : decode cc pc = .ok (.invokespecial idx, 3)) (hp : pc + 3 = q) {host : String} (ml : Cond.methodLinkNest own idx y host ∈ lw_tbl) (mw : MWk y cy mL none) (im : IMk y) (hin : y.name = "<init>") (md : MDk y n) (h0 : 0 ≤ b) (hn : As.length = n) (hstk : stk = As.reverse ++ (3, b) :: st) (hf : d + 1 ≤ R.frames) (hlo : 8 + (mL + 11) + 64 * d ≤ R.locals) (hcs : cs + mc ≤ R.cells) (hsl : sl + ms ≤ R.slots) (hcat : catL st ≤ 8)
    (kk : ∀ r α1 μ1, (∀ u, (α u).1 ≠ 0 → α1 u = α u) → (∀ v ∈ r, okv α1 v) → Q1 r α1 μ1 → V Γ α0 ad0 Z R own cc nL ret nm q (r.toList ++ st) lv α1 μ1 (cs + mc) (sl + ms)) : V Γ α0 ad0 Z R own cc nL ret nm pc stk lv α μ cs sl := by
  intro p e s m args below meth c ad H ls locs F hH hE hst hlv hl hS
  subst hp
  subst hstk
  have e1 : cav ad (3, b) = .ref (ad b) := if_neg (by omega)
  have hA : okl α As := fun v hv => hst v (List.mem_append_left _ (List.mem_reverse.mpr hv))
  have hst1 : okl α st := fun v hv => hst v (List.mem_append_right _ (List.mem_cons_of_mem _ hv))
  have hb : okv α (3, b) := hst _ (List.mem_append_right _ List.mem_cons_self)
  have hM1 := hM (okl_cons hb hA) ad
  rw [List.map_cons, e1] at hM1
  have hrun := va_runIN (e := e) (meth := meth) (below := below) (locs := locs) (cells := cs) (slots := sl) (index := idx) (R := R) (As := As.map (cav ad)) (rest := st.map (cav ad)) (b := ad b) (g := F0 m pc ls ((As.reverse ++ (3, b) :: st).map (cav ad))) ⟨F.hx, F.hb, F.ml, F.ow, F.ts⟩ hM1 (⟨va_cnB n F.ts (gd_of mw) rfl rfl rfl (F.kf.2.2 _ _ _ _ ml) (F.w mw.2 rfl) md ⟨hf, hlo⟩, hin, F.w im rfl⟩) ⟨fun a U g mk hh => ⟨hh.1, ⟨hh.2.1.1.same rfl, hh.2.1.2⟩, hh.2.2⟩, fun U hU hW => ⟨rfl, ⟨F.kf.warm hW, by rw [hU]; exact Nat.le_trans F.bs hS.1⟩, by rw [hU]; exact hH⟩⟩ rfl (by rw [List.length_map]; exact hn) hl.1 (by show _ = _; rw [List.map_append, List.map_reverse, List.map_cons, e1]) (rm_lo hcat) hd ⟨hcs, hsl⟩
  exact W_call hrun F hE hst1 hlv hl hS kk
theorem HR_drop {α1 : Sh} {ad : Ad} {H : Heap} (hH : HR Γ α μ ad H) (hα : ∀ u, (α1 u).1 ≠ 0 → α u = α1 u) (hw : WFm α1 μ) : HR Γ α1 μ ad H := by
  obtain ⟨⟨L, hn, hL, hP, hD⟩, -⟩ := hH
  have hsub : ∀ (k : Nat) (x : Nat × va_E), (hws Γ ad α1 μ (L.filter fun t => (α1 t).1 != 0))[k]? = some x → ∃ (t : Int) (i : Nat), L[i]? = some t ∧ x = (ad t, ec Γ ad (α t) (μ t)) ∧ (L.filter fun t => (α1 t).1 != 0)[k]? = some t := by
    intro k x hk
    unfold hws at hk
    rw [List.getElem?_map] at hk
    cases hu : (L.filter fun t => (α1 t).1 != 0)[k]? with
    | none => rw [hu] at hk; cases hk
    | some t =>
      rw [hu] at hk
      have hm := List.mem_filter.mp (List.mem_of_getElem? hu)
      obtain ⟨i, hi⟩ := List.mem_iff_getElem?.mp hm.1
      exact ⟨t, i, hi, by rw [hα t (by simpa using hm.2)]; exact (Option.some.inj hk).symm, rfl⟩
  have hnf : (L.filter fun t => (α1 t).1 != 0).Nodup := List.filter_sublist.nodup hn
  refine ⟨⟨L.filter fun t => (α1 t).1 != 0, hnf, fun t => ?_, fun k x hk => ?_, ⟨fun i j x y hi hj hxy => ?_, fun k x hk => ?_⟩⟩, hw⟩
  · rw [List.mem_filter]
    constructor
    · intro h; simpa using h.2
    · intro h; exact ⟨(hL t).mpr (by rw [hα t h]; exact h), by simpa using h⟩
  · obtain ⟨t, i, h1, h2, -⟩ := hsub k x hk
    subst h2
    exact hP i _ (hws_at h1)
  · obtain ⟨t, i1, h1, h2, h3⟩ := hsub i x hi
    obtain ⟨u, j1, h4, h5, h6⟩ := hsub j y hj
    subst h2; subst h5
    have h7 := hD.1 i1 j1 _ _ (hws_at h1) (hws_at h4) hxy
    subst h7
    rw [h1] at h4
    cases h4
    exact (List.getElem?_inj (List.getElem?_eq_some_iff.mp h3).1 hnf).mp (h3.trans h6.symm)
  · obtain ⟨t, i1, h1, h2, h3⟩ := hsub k x hk
    subst h2
    exact hD.2 i1 _ (hws_at h1)
theorem V_iretW {x : Int} {Q : Option AV → Sh → Mem → Prop} {mc ms : Nat} (α1 : Sh) (hd : decode cc pc = .ok (.ireturn, 1)) (hcs : cs ≤ mc) (hsl : sl ≤ ms) (hα : ∀ u, (α1 u).1 ≠ 0 → α u = α1 u) (h01 : ∀ u, (α0 u).1 ≠ 0 → α1 u = α0 u) (hw : WFm α μ → WFm α1 μ) (hr : ∀ v ∈ (some (0, x) : Option AV), okv α v → okv α1 v) (hq : Q (some (0, x)) α1 μ) : V Γ α0 ad0 (ZM Γ α0 ad0 Q mc ms) R own cc nL (some .int) nm pc [(0, x)] lv α μ cs sl := by
  intro p e s m args below meth c ad H ls locs F hH hE hst hlv hl hS
  refine W.widen hcs hsl ?_
  have hqq : ∀ t : State, t.heap = H → s.WarmedH t.vm → QC Γ α0 ad0 Q args s (.returned ((some (0, x) : Option AV).map (cav ad))) t := by
    intro t ht _
    refine ⟨⟨some (0, x), α1, μ, ad, rfl, ?_, fun u hu => ⟨h01 u hu, (hE u hu).2⟩, fun v hv => hr v hv (hst v (by cases hv; exact List.mem_cons_self)), hq⟩, hS.F ht⟩
    rw [ht]
    exact HR_drop hH hα (hw hH.2)
  exact W.iret F.hx F.hb F.rt (hqq) hS.2.2 hd F.lk
theorem V_zretW {x : Int} {Q : Option AV → Sh → Mem → Prop} {mc ms : Nat} (α1 : Sh) (hd : decode cc pc = .ok (.ireturn, 1)) (hb : 0 ≤ x ∧ x ≤ 1) (hcs : cs ≤ mc) (hsl : sl ≤ ms) (hα : ∀ u, (α1 u).1 ≠ 0 → α u = α1 u) (h01 : ∀ u, (α0 u).1 ≠ 0 → α1 u = α0 u) (hw : WFm α μ → WFm α1 μ) (hr : ∀ v ∈ (some (0, x) : Option AV), okv α v → okv α1 v) (hq : Q (some (0, x)) α1 μ) : V Γ α0 ad0 (ZM Γ α0 ad0 Q mc ms) R own cc nL (some .boolean) nm pc [(0, x)] lv α μ cs sl := by
  intro p e s m args below meth c ad H ls locs F hH hE hst hlv hl hS
  refine W.widen hcs hsl ?_
  have hqq : ∀ t : State, t.heap = H → s.WarmedH t.vm → QC Γ α0 ad0 Q args s (.returned ((some (0, x) : Option AV).map (cav ad))) t := by
    intro t ht _
    refine ⟨⟨some (0, x), α1, μ, ad, rfl, ?_, fun u hu => ⟨h01 u hu, (hE u hu).2⟩, fun v hv => hr v hv (hst v (by cases hv; exact List.mem_cons_self)), hq⟩, hS.F ht⟩
    rw [ht]
    exact HR_drop hH hα (hw hH.2)
  exact W.zret F.hx F.hb F.rt (by rcases kv_bool hb with rfl | rfl <;> rfl) (hqq) hS.2.2 hd F.lk
theorem V_lretW {x : Int} {Q : Option AV → Sh → Mem → Prop} {mc ms : Nat} (α1 : Sh) (hd : decode cc pc = .ok (.lreturn, 1)) (hcs : cs ≤ mc) (hsl : sl ≤ ms) (hα : ∀ u, (α1 u).1 ≠ 0 → α u = α1 u) (h01 : ∀ u, (α0 u).1 ≠ 0 → α1 u = α0 u) (hw : WFm α μ → WFm α1 μ) (hr : ∀ v ∈ (some (2, x) : Option AV), okv α v → okv α1 v) (hq : Q (some (2, x)) α1 μ) : V Γ α0 ad0 (ZM Γ α0 ad0 Q mc ms) R own cc nL (some .long) nm pc [(2, x)] lv α μ cs sl := by
  intro p e s m args below meth c ad H ls locs F hH hE hst hlv hl hS
  refine W.widen hcs hsl ?_
  have hqq : ∀ t : State, t.heap = H → s.WarmedH t.vm → QC Γ α0 ad0 Q args s (.returned ((some (2, x) : Option AV).map (cav ad))) t := by
    intro t ht _
    refine ⟨⟨some (2, x), α1, μ, ad, rfl, ?_, fun u hu => ⟨h01 u hu, (hE u hu).2⟩, fun v hv => hr v hv (hst v (by cases hv; exact List.mem_cons_self)), hq⟩, hS.F ht⟩
    rw [ht]
    exact HR_drop hH hα (hw hH.2)
  exact W.lret F.hx F.hb F.rt (hqq) hS.2.2 hd F.lk
theorem V_aretW {E0 : String} {x : Int} {Q : Option AV → Sh → Mem → Prop} {mc ms : Nat} (α1 : Sh) (hd : decode cc pc = .ok (.areturn, 1)) (hcs : cs ≤ mc) (hsl : sl ≤ ms) (hα : ∀ u, (α1 u).1 ≠ 0 → α u = α1 u) (h01 : ∀ u, (α0 u).1 ≠ 0 → α1 u = α0 u) (hw : WFm α μ → WFm α1 μ) (hr : ∀ v ∈ (some (3, x) : Option AV), okv α v → okv α1 v) (hq : Q (some (3, x)) α1 μ) : V Γ α0 ad0 (ZM Γ α0 ad0 Q mc ms) R own cc nL (some (.object E0)) nm pc [(3, x)] lv α μ cs sl := by
  intro p e s m args below meth c ad H ls locs F hH hE hst hlv hl hS
  refine W.widen hcs hsl ?_
  have hqq : ∀ t : State, t.heap = H → s.WarmedH t.vm → QC Γ α0 ad0 Q args s (.returned ((some (3, x) : Option AV).map (cav ad))) t := by
    intro t ht _
    refine ⟨⟨some (3, x), α1, μ, ad, rfl, ?_, fun u hu => ⟨h01 u hu, (hE u hu).2⟩, fun v hv => hr v hv (hst v (by cases hv; exact List.mem_cons_self)), hq⟩, hS.F ht⟩
    rw [ht]
    exact HR_drop hH hα (hw hH.2)
  refine W.aret F.hx F.hb F.rt (Or.inl ⟨_, rfl⟩) ?_ (hqq) hS.2.2 hd F.lk
  show (if x < 0 then Value.null else Value.ref (ad x)) = _ ∨ ∃ a, (if x < 0 then Value.null else Value.ref (ad x)) = _
  by_cases h : x < 0
  · exact Or.inl (if_pos h)
  · exact Or.inr ⟨_, if_neg h⟩
theorem V_vretW {Q : Option AV → Sh → Mem → Prop} {mc ms : Nat} (α1 : Sh) (hd : decode cc pc = .ok (.return_, 1)) (hcs : cs ≤ mc) (hsl : sl ≤ ms) (hα : ∀ u, (α1 u).1 ≠ 0 → α u = α1 u) (h01 : ∀ u, (α0 u).1 ≠ 0 → α1 u = α0 u) (hw : WFm α μ → WFm α1 μ) (hr : ∀ v ∈ (none : Option AV), okv α v → okv α1 v) (hq : Q (none) α1 μ) : V Γ α0 ad0 (ZM Γ α0 ad0 Q mc ms) R own cc nL none nm pc [] lv α μ cs sl := by
  intro p e s m args below meth c ad H ls locs F hH hE hst hlv hl hS
  refine W.widen hcs hsl ?_
  have hqq : ∀ t : State, t.heap = H → s.WarmedH t.vm → QC Γ α0 ad0 Q args s (.returned ((none : Option AV).map (cav ad))) t := by
    intro t ht _
    refine ⟨⟨none, α1, μ, ad, rfl, ?_, fun u hu => ⟨h01 u hu, (hE u hu).2⟩, fun v hv => hr v hv (hst v (by cases hv)), hq⟩, hS.F ht⟩
    rw [ht]
    exact HR_drop hH hα (hw hH.2)
  exact W.vret F.hx F.hb F.rt (hqq) hS.2.2 hd F.lk
theorem V_iret {x : Int} {Q : Option AV → Sh → Mem → Prop} {mc ms : Nat} (hd : decode cc pc = .ok (.ireturn, 1)) (hcs : cs ≤ mc) (hsl : sl ≤ ms) (hq : Q (some (0, x)) α μ) : V Γ α0 ad0 (ZM Γ α0 ad0 Q mc ms) R own cc nL (some .int) nm pc [(0, x)] lv α μ cs sl := by
  intro p e s m args below meth c ad H ls locs F hH hE
  exact V_iretW α hd hcs hsl (fun _ _ => rfl) (fun u hu => (hE u hu).1) id (fun _ _ h => h) hq p e s m args below meth c ad H ls locs F hH hE
theorem V_zret {x : Int} {Q : Option AV → Sh → Mem → Prop} {mc ms : Nat} (hd : decode cc pc = .ok (.ireturn, 1)) (hb : 0 ≤ x ∧ x ≤ 1) (hcs : cs ≤ mc) (hsl : sl ≤ ms) (hq : Q (some (0, x)) α μ) : V Γ α0 ad0 (ZM Γ α0 ad0 Q mc ms) R own cc nL (some .boolean) nm pc [(0, x)] lv α μ cs sl := by
  intro p e s m args below meth c ad H ls locs F hH hE
  exact V_zretW α hd hb hcs hsl (fun _ _ => rfl) (fun u hu => (hE u hu).1) id (fun _ _ h => h) hq p e s m args below meth c ad H ls locs F hH hE
theorem V_lret {x : Int} {Q : Option AV → Sh → Mem → Prop} {mc ms : Nat} (hd : decode cc pc = .ok (.lreturn, 1)) (hcs : cs ≤ mc) (hsl : sl ≤ ms) (hq : Q (some (2, x)) α μ) : V Γ α0 ad0 (ZM Γ α0 ad0 Q mc ms) R own cc nL (some .long) nm pc [(2, x)] lv α μ cs sl := by
  intro p e s m args below meth c ad H ls locs F hH hE
  exact V_lretW α hd hcs hsl (fun _ _ => rfl) (fun u hu => (hE u hu).1) id (fun _ _ h => h) hq p e s m args below meth c ad H ls locs F hH hE
theorem V_aret {E0 : String} {x : Int} {Q : Option AV → Sh → Mem → Prop} {mc ms : Nat} (hd : decode cc pc = .ok (.areturn, 1)) (hcs : cs ≤ mc) (hsl : sl ≤ ms) (hq : Q (some (3, x)) α μ) : V Γ α0 ad0 (ZM Γ α0 ad0 Q mc ms) R own cc nL (some (.object E0)) nm pc [(3, x)] lv α μ cs sl := by
  intro p e s m args below meth c ad H ls locs F hH hE
  exact V_aretW α hd hcs hsl (fun _ _ => rfl) (fun u hu => (hE u hu).1) id (fun _ _ h => h) hq p e s m args below meth c ad H ls locs F hH hE
theorem V_vret {Q : Option AV → Sh → Mem → Prop} {mc ms : Nat} (hd : decode cc pc = .ok (.return_, 1)) (hcs : cs ≤ mc) (hsl : sl ≤ ms) (hq : Q (none) α μ) : V Γ α0 ad0 (ZM Γ α0 ad0 Q mc ms) R own cc nL none nm pc [] lv α μ cs sl := by
  intro p e s m args below meth c ad H ls locs F hH hE
  exact V_vretW α hd hcs hsl (fun _ _ => rfl) (fun u hu => (hE u hu).1) id (fun _ _ h => h) hq p e s m args below meth c ad H ls locs F hH hE
end VI
theorem md_X6_init : MDk yX6_init 0 := ⟨by decide +kernel, by decide +kernel, by decide +kernel⟩
theorem pn_X6_init : plainName yX6_init.cls = true := by decide +kernel
theorem md_X6_act : MDk yX6_act 6 := ⟨by decide +kernel, by decide +kernel, by decide +kernel⟩
theorem pn_X6_act : plainName yX6_act.cls = true := by decide +kernel
theorem md_X6_addType : MDk yX6_addType 3 := ⟨by decide +kernel, by decide +kernel, by decide +kernel⟩
theorem pn_X6_addType : plainName yX6_addType.cls = true := by decide +kernel
theorem md_X6_asks : MDk yX6_asks 2 := ⟨by decide +kernel, by decide +kernel, by decide +kernel⟩
theorem pn_X6_asks : plainName yX6_asks.cls = true := by decide +kernel
theorem md_X6_began : MDk yX6_began 2 := ⟨by decide +kernel, by decide +kernel, by decide +kernel⟩
theorem pn_X6_began : plainName yX6_began.cls = true := by decide +kernel
theorem md_X6_below : MDk yX6_below 2 := ⟨by decide +kernel, by decide +kernel, by decide +kernel⟩
theorem pn_X6_below : plainName yX6_below.cls = true := by decide +kernel
theorem md_X6_cls : MDk yX6_cls 2 := ⟨by decide +kernel, by decide +kernel, by decide +kernel⟩
theorem pn_X6_cls : plainName yX6_cls.cls = true := by decide +kernel
theorem md_X6_comesTo : MDk yX6_comesTo 1 := ⟨by decide +kernel, by decide +kernel, by decide +kernel⟩
theorem pn_X6_comesTo : plainName yX6_comesTo.cls = true := by decide +kernel
theorem md_X6_differs : MDk yX6_differs 2 := ⟨by decide +kernel, by decide +kernel, by decide +kernel⟩
theorem pn_X6_differs : plainName yX6_differs.cls = true := by decide +kernel
theorem md_X6_face : MDk yX6_face 1 := ⟨by decide +kernel, by decide +kernel, by decide +kernel⟩
theorem pn_X6_face : plainName yX6_face.cls = true := by decide +kernel
theorem md_X6_failed : MDk yX6_failed 2 := ⟨by decide +kernel, by decide +kernel, by decide +kernel⟩
theorem pn_X6_failed : plainName yX6_failed.cls = true := by decide +kernel
theorem md_X6_field : MDk yX6_field 4 := ⟨by decide +kernel, by decide +kernel, by decide +kernel⟩
theorem pn_X6_field : plainName yX6_field.cls = true := by decide +kernel
theorem md_X6_fitsValue : MDk yX6_fitsValue 2 := ⟨by decide +kernel, by decide +kernel, by decide +kernel⟩
theorem pn_X6_fitsValue : plainName yX6_fitsValue.cls = true := by decide +kernel
theorem md_X6_foretell : MDk yX6_foretell 5 := ⟨by decide +kernel, by decide +kernel, by decide +kernel⟩
theorem pn_X6_foretell : plainName yX6_foretell.cls = true := by decide +kernel
theorem md_X6_found : MDk yX6_found 3 := ⟨by decide +kernel, by decide +kernel, by decide +kernel⟩
theorem pn_X6_found : plainName yX6_found.cls = true := by decide +kernel
theorem md_X6_gone : MDk yX6_gone 0 := ⟨by decide +kernel, by decide +kernel, by decide +kernel⟩
theorem pn_X6_gone : plainName yX6_gone.cls = true := by decide +kernel
theorem md_X6_isName : MDk yX6_isName 1 := ⟨by decide +kernel, by decide +kernel, by decide +kernel⟩
theorem pn_X6_isName : plainName yX6_isName.cls = true := by decide +kernel
theorem md_X6_isWorld : MDk yX6_isWorld 1 := ⟨by decide +kernel, by decide +kernel, by decide +kernel⟩
theorem pn_X6_isWorld : plainName yX6_isWorld.cls = true := by decide +kernel
theorem md_X6_many : MDk yX6_many 2 := ⟨by decide +kernel, by decide +kernel, by decide +kernel⟩
theorem pn_X6_many : plainName yX6_many.cls = true := by decide +kernel
theorem md_X6_method : MDk yX6_method 2 := ⟨by decide +kernel, by decide +kernel, by decide +kernel⟩
theorem pn_X6_method : plainName yX6_method.cls = true := by decide +kernel
theorem md_X6_refusalOfMember : MDk yX6_refusalOfMember 2 := ⟨by decide +kernel, by decide +kernel, by decide +kernel⟩
theorem pn_X6_refusalOfMember : plainName yX6_refusalOfMember.cls = true := by decide +kernel
theorem md_X6_refusalOfTouch : MDk yX6_refusalOfTouch 4 := ⟨by decide +kernel, by decide +kernel, by decide +kernel⟩
theorem pn_X6_refusalOfTouch : plainName yX6_refusalOfTouch.cls = true := by decide +kernel
theorem md_X6_round : MDk yX6_round 1 := ⟨by decide +kernel, by decide +kernel, by decide +kernel⟩
theorem pn_X6_round : plainName yX6_round.cls = true := by decide +kernel
theorem md_X6_spent : MDk yX6_spent 2 := ⟨by decide +kernel, by decide +kernel, by decide +kernel⟩
theorem pn_X6_spent : plainName yX6_spent.cls = true := by decide +kernel
theorem md_X6_state : MDk yX6_state 2 := ⟨by decide +kernel, by decide +kernel, by decide +kernel⟩
theorem pn_X6_state : plainName yX6_state.cls = true := by decide +kernel
theorem md_X6_tape : MDk yX6_tape 2 := ⟨by decide +kernel, by decide +kernel, by decide +kernel⟩
theorem pn_X6_tape : plainName yX6_tape.cls = true := by decide +kernel
theorem md_X6_told : MDk yX6_told 2 := ⟨by decide +kernel, by decide +kernel, by decide +kernel⟩
theorem pn_X6_told : plainName yX6_told.cls = true := by decide +kernel
theorem md_X6_touch : MDk yX6_touch 5 := ⟨by decide +kernel, by decide +kernel, by decide +kernel⟩
theorem pn_X6_touch : plainName yX6_touch.cls = true := by decide +kernel
theorem md_X6_under : MDk yX6_under 2 := ⟨by decide +kernel, by decide +kernel, by decide +kernel⟩
theorem pn_X6_under : plainName yX6_under.cls = true := by decide +kernel
theorem md_X6_usesName : MDk yX6_usesName 1 := ⟨by decide +kernel, by decide +kernel, by decide +kernel⟩
theorem pn_X6_usesName : plainName yX6_usesName.cls = true := by decide +kernel
theorem md_X6_usesType : MDk yX6_usesType 1 := ⟨by decide +kernel, by decide +kernel, by decide +kernel⟩
theorem pn_X6_usesType : plainName yX6_usesType.cls = true := by decide +kernel
theorem md_X6_value : MDk yX6_value 3 := ⟨by decide +kernel, by decide +kernel, by decide +kernel⟩
theorem pn_X6_value : plainName yX6_value.cls = true := by decide +kernel
theorem md_X6_world : MDk yX6_world 0 := ⟨by decide +kernel, by decide +kernel, by decide +kernel⟩
theorem pn_X6_world : plainName yX6_world.cls = true := by decide +kernel
theorem md_X0_init : MDk yX0_init 4 := ⟨by decide +kernel, by decide +kernel, by decide +kernel⟩
theorem pn_X0_init : plainName yX0_init.cls = true := by decide +kernel
theorem md_X1_init : MDk yX1_init 0 := ⟨by decide +kernel, by decide +kernel, by decide +kernel⟩
theorem pn_X1_init : plainName yX1_init.cls = true := by decide +kernel
theorem md_X1_append : MDk yX1_append 1 := ⟨by decide +kernel, by decide +kernel, by decide +kernel⟩
theorem pn_X1_append : plainName yX1_append.cls = true := by decide +kernel
theorem md_X2_init : MDk yX2_init 0 := ⟨by decide +kernel, by decide +kernel, by decide +kernel⟩
theorem pn_X2_init : plainName yX2_init.cls = true := by decide +kernel
theorem md_X2_addAsked : MDk yX2_addAsked 1 := ⟨by decide +kernel, by decide +kernel, by decide +kernel⟩
theorem pn_X2_addAsked : plainName yX2_addAsked.cls = true := by decide +kernel
theorem md_X2_addFirst : MDk yX2_addFirst 4 := ⟨by decide +kernel, by decide +kernel, by decide +kernel⟩
theorem pn_X2_addFirst : plainName yX2_addFirst.cls = true := by decide +kernel
theorem md_X2_append : MDk yX2_append 1 := ⟨by decide +kernel, by decide +kernel, by decide +kernel⟩
theorem pn_X2_append : plainName yX2_append.cls = true := by decide +kernel
theorem md_X2_countLeading : MDk yX2_countLeading 1 := ⟨by decide +kernel, by decide +kernel, by decide +kernel⟩
theorem pn_X2_countLeading : plainName yX2_countLeading.cls = true := by decide +kernel
theorem md_X2_fieldOwner : MDk yX2_fieldOwner 2 := ⟨by decide +kernel, by decide +kernel, by decide +kernel⟩
theorem pn_X2_fieldOwner : plainName yX2_fieldOwner.cls = true := by decide +kernel
theorem md_X2_forgetFields : MDk yX2_forgetFields 0 := ⟨by decide +kernel, by decide +kernel, by decide +kernel⟩
theorem pn_X2_forgetFields : plainName yX2_forgetFields.cls = true := by decide +kernel
theorem md_X2_inRound : MDk yX2_inRound 1 := ⟨by decide +kernel, by decide +kernel, by decide +kernel⟩
theorem pn_X2_inRound : plainName yX2_inRound.cls = true := by decide +kernel
theorem md_X2_knows : MDk yX2_knows 1 := ⟨by decide +kernel, by decide +kernel, by decide +kernel⟩
theorem pn_X2_knows : plainName yX2_knows.cls = true := by decide +kernel
theorem md_X2_leadsTo : MDk yX2_leadsTo 2 := ⟨by decide +kernel, by decide +kernel, by decide +kernel⟩
theorem pn_X2_leadsTo : plainName yX2_leadsTo.cls = true := by decide +kernel
theorem md_X2_listAsked : MDk yX2_listAsked 1 := ⟨by decide +kernel, by decide +kernel, by decide +kernel⟩
theorem pn_X2_listAsked : plainName yX2_listAsked.cls = true := by decide +kernel
theorem md_X2_methodOwner : MDk yX2_methodOwner 2 := ⟨by decide +kernel, by decide +kernel, by decide +kernel⟩
theorem pn_X2_methodOwner : plainName yX2_methodOwner.cls = true := by decide +kernel
theorem md_X2_orderFirsts : MDk yX2_orderFirsts 1 := ⟨by decide +kernel, by decide +kernel, by decide +kernel⟩
theorem pn_X2_orderFirsts : plainName yX2_orderFirsts.cls = true := by decide +kernel
theorem md_X2_putUnder : MDk yX2_putUnder 2 := ⟨by decide +kernel, by decide +kernel, by decide +kernel⟩
theorem pn_X2_putUnder : plainName yX2_putUnder.cls = true := by decide +kernel
theorem md_X2_seekField : MDk yX2_seekField 3 := ⟨by decide +kernel, by decide +kernel, by decide +kernel⟩
theorem pn_X2_seekField : plainName yX2_seekField.cls = true := by decide +kernel
theorem md_X2_startedBy : MDk yX2_startedBy 1 := ⟨by decide +kernel, by decide +kernel, by decide +kernel⟩
theorem pn_X2_startedBy : plainName yX2_startedBy.cls = true := by decide +kernel
theorem md_X2_startedByField : MDk yX2_startedByField 1 := ⟨by decide +kernel, by decide +kernel, by decide +kernel⟩
theorem pn_X2_startedByField : plainName yX2_startedByField.cls = true := by decide +kernel
theorem md_X2_valueOf : MDk yX2_valueOf 3 := ⟨by decide +kernel, by decide +kernel, by decide +kernel⟩
theorem pn_X2_valueOf : plainName yX2_valueOf.cls = true := by decide +kernel
theorem md_X3_init : MDk yX3_init 2 := ⟨by decide +kernel, by decide +kernel, by decide +kernel⟩
theorem pn_X3_init : plainName yX3_init.cls = true := by decide +kernel
theorem md_X3_arise : MDk yX3_arise 2 := ⟨by decide +kernel, by decide +kernel, by decide +kernel⟩
theorem pn_X3_arise : plainName yX3_arise.cls = true := by decide +kernel
theorem md_X3_doTouch : MDk yX3_doTouch 1 := ⟨by decide +kernel, by decide +kernel, by decide +kernel⟩
theorem pn_X3_doTouch : plainName yX3_doTouch.cls = true := by decide +kernel
theorem md_X3_perform : MDk yX3_perform 3 := ⟨by decide +kernel, by decide +kernel, by decide +kernel⟩
theorem pn_X3_perform : plainName yX3_perform.cls = true := by decide +kernel
theorem md_X3_putThrough : MDk yX3_putThrough 1 := ⟨by decide +kernel, by decide +kernel, by decide +kernel⟩
theorem pn_X3_putThrough : plainName yX3_putThrough.cls = true := by decide +kernel
theorem md_X3_runBody : MDk yX3_runBody 3 := ⟨by decide +kernel, by decide +kernel, by decide +kernel⟩
theorem pn_X3_runBody : plainName yX3_runBody.cls = true := by decide +kernel
theorem md_X3_runStart : MDk yX3_runStart 3 := ⟨by decide +kernel, by decide +kernel, by decide +kernel⟩
theorem pn_X3_runStart : plainName yX3_runStart.cls = true := by decide +kernel
theorem md_X3_startFirsts : MDk yX3_startFirsts 3 := ⟨by decide +kernel, by decide +kernel, by decide +kernel⟩
theorem pn_X3_startFirsts : plainName yX3_startFirsts.cls = true := by decide +kernel
theorem md_X3_startType : MDk yX3_startType 3 := ⟨by decide +kernel, by decide +kernel, by decide +kernel⟩
theorem pn_X3_startType : plainName yX3_startType.cls = true := by decide +kernel
theorem md_X3_takeFailure : MDk yX3_takeFailure 4 := ⟨by decide +kernel, by decide +kernel, by decide +kernel⟩
theorem pn_X3_takeFailure : plainName yX3_takeFailure.cls = true := by decide +kernel
theorem md_X4_init : MDk yX4_init 3 := ⟨by decide +kernel, by decide +kernel, by decide +kernel⟩
theorem pn_X4_init : plainName yX4_init.cls = true := by decide +kernel
theorem md_X4_addField : MDk yX4_addField 3 := ⟨by decide +kernel, by decide +kernel, by decide +kernel⟩
theorem pn_X4_addField : plainName yX4_addField.cls = true := by decide +kernel
theorem md_X4_addMethod : MDk yX4_addMethod 1 := ⟨by decide +kernel, by decide +kernel, by decide +kernel⟩
theorem pn_X4_addMethod : plainName yX4_addMethod.cls = true := by decide +kernel
theorem md_X4_bodyOf : MDk yX4_bodyOf 1 := ⟨by decide +kernel, by decide +kernel, by decide +kernel⟩
theorem pn_X4_bodyOf : plainName yX4_bodyOf.cls = true := by decide +kernel
theorem md_X4_isUnder : MDk yX4_isUnder 1 := ⟨by decide +kernel, by decide +kernel, by decide +kernel⟩
theorem pn_X4_isUnder : plainName yX4_isUnder.cls = true := by decide +kernel
theorem md_X4_tell : MDk yX4_tell 1 := ⟨by decide +kernel, by decide +kernel, by decide +kernel⟩
theorem pn_X4_tell : plainName yX4_tell.cls = true := by decide +kernel
theorem md_X5_init : MDk yX5_init 0 := ⟨by decide +kernel, by decide +kernel, by decide +kernel⟩
theorem pn_X5_init : plainName yX5_init.cls = true := by decide +kernel
theorem md_X5_clear : MDk yX5_clear 0 := ⟨by decide +kernel, by decide +kernel, by decide +kernel⟩
theorem pn_X5_clear : plainName yX5_clear.cls = true := by decide +kernel
theorem md_X5_keepAccount : MDk yX5_keepAccount 2 := ⟨by decide +kernel, by decide +kernel, by decide +kernel⟩
theorem pn_X5_keepAccount : plainName yX5_keepAccount.cls = true := by decide +kernel
theorem md_X5_putInRow : MDk yX5_putInRow 1 := ⟨by decide +kernel, by decide +kernel, by decide +kernel⟩
theorem pn_X5_putInRow : plainName yX5_putInRow.cls = true := by decide +kernel
theorem md_X5_putOnTape : MDk yX5_putOnTape 1 := ⟨by decide +kernel, by decide +kernel, by decide +kernel⟩
theorem pn_X5_putOnTape : plainName yX5_putOnTape.cls = true := by decide +kernel
theorem md_X5_sameIn : MDk yX5_sameIn 2 := ⟨by decide +kernel, by decide +kernel, by decide +kernel⟩
theorem pn_X5_sameIn : plainName yX5_sameIn.cls = true := by decide +kernel
theorem md_X5_takeStateOf : MDk yX5_takeStateOf 1 := ⟨by decide +kernel, by decide +kernel, by decide +kernel⟩
theorem pn_X5_takeStateOf : plainName yX5_takeStateOf.cls = true := by decide +kernel
theorem md_X7_init : MDk yX7_init 0 := ⟨by decide +kernel, by decide +kernel, by decide +kernel⟩
theorem pn_X7_init : plainName yX7_init.cls = true := by decide +kernel
theorem md_X7_act : MDk yX7_act 6 := ⟨by decide +kernel, by decide +kernel, by decide +kernel⟩
theorem pn_X7_act : plainName yX7_act.cls = true := by decide +kernel
theorem md_X7_addAsked : MDk yX7_addAsked 2 := ⟨by decide +kernel, by decide +kernel, by decide +kernel⟩
theorem pn_X7_addAsked : plainName yX7_addAsked.cls = true := by decide +kernel
theorem md_X7_asks : MDk yX7_asks 2 := ⟨by decide +kernel, by decide +kernel, by decide +kernel⟩
theorem pn_X7_asks : plainName yX7_asks.cls = true := by decide +kernel
theorem md_X7_began : MDk yX7_began 2 := ⟨by decide +kernel, by decide +kernel, by decide +kernel⟩
theorem pn_X7_began : plainName yX7_began.cls = true := by decide +kernel
theorem md_X7_below : MDk yX7_below 2 := ⟨by decide +kernel, by decide +kernel, by decide +kernel⟩
theorem pn_X7_below : plainName yX7_below.cls = true := by decide +kernel
theorem md_X7_cameTo : MDk yX7_cameTo 0 := ⟨by decide +kernel, by decide +kernel, by decide +kernel⟩
theorem pn_X7_cameTo : plainName yX7_cameTo.cls = true := by decide +kernel
theorem md_X7_cls : MDk yX7_cls 2 := ⟨by decide +kernel, by decide +kernel, by decide +kernel⟩
theorem pn_X7_cls : plainName yX7_cls.cls = true := by decide +kernel
theorem md_X7_copy : MDk yX7_copy 2 := ⟨by decide +kernel, by decide +kernel, by decide +kernel⟩
theorem pn_X7_copy : plainName yX7_copy.cls = true := by decide +kernel
theorem md_X7_did : MDk yX7_did 1 := ⟨by decide +kernel, by decide +kernel, by decide +kernel⟩
theorem pn_X7_did : plainName yX7_did.cls = true := by decide +kernel
theorem md_X7_differs : MDk yX7_differs 2 := ⟨by decide +kernel, by decide +kernel, by decide +kernel⟩
theorem pn_X7_differs : plainName yX7_differs.cls = true := by decide +kernel
theorem md_X7_face : MDk yX7_face 1 := ⟨by decide +kernel, by decide +kernel, by decide +kernel⟩
theorem pn_X7_face : plainName yX7_face.cls = true := by decide +kernel
theorem md_X7_fail : MDk yX7_fail 2 := ⟨by decide +kernel, by decide +kernel, by decide +kernel⟩
theorem pn_X7_fail : plainName yX7_fail.cls = true := by decide +kernel
theorem md_X7_failed : MDk yX7_failed 2 := ⟨by decide +kernel, by decide +kernel, by decide +kernel⟩
theorem pn_X7_failed : plainName yX7_failed.cls = true := by decide +kernel
theorem md_X7_field : MDk yX7_field 4 := ⟨by decide +kernel, by decide +kernel, by decide +kernel⟩
theorem pn_X7_field : plainName yX7_field.cls = true := by decide +kernel
theorem md_X7_findField : MDk yX7_findField 2 := ⟨by decide +kernel, by decide +kernel, by decide +kernel⟩
theorem pn_X7_findField : plainName yX7_findField.cls = true := by decide +kernel
theorem md_X7_findMethod : MDk yX7_findMethod 2 := ⟨by decide +kernel, by decide +kernel, by decide +kernel⟩
theorem pn_X7_findMethod : plainName yX7_findMethod.cls = true := by decide +kernel
theorem md_X7_foretell : MDk yX7_foretell 5 := ⟨by decide +kernel, by decide +kernel, by decide +kernel⟩
theorem pn_X7_foretell : plainName yX7_foretell.cls = true := by decide +kernel
theorem md_X7_found : MDk yX7_found 3 := ⟨by decide +kernel, by decide +kernel, by decide +kernel⟩
theorem pn_X7_found : plainName yX7_found.cls = true := by decide +kernel
theorem md_X7_go : MDk yX7_go 5 := ⟨by decide +kernel, by decide +kernel, by decide +kernel⟩
theorem pn_X7_go : plainName yX7_go.cls = true := by decide +kernel
theorem md_X7_goBehind : MDk yX7_goBehind 1 := ⟨by decide +kernel, by decide +kernel, by decide +kernel⟩
theorem pn_X7_goBehind : plainName yX7_goBehind.cls = true := by decide +kernel
theorem md_X7_goDown : MDk yX7_goDown 0 := ⟨by decide +kernel, by decide +kernel, by decide +kernel⟩
theorem pn_X7_goDown : plainName yX7_goDown.cls = true := by decide +kernel
theorem md_X7_goOnBody : MDk yX7_goOnBody 0 := ⟨by decide +kernel, by decide +kernel, by decide +kernel⟩
theorem pn_X7_goOnBody : plainName yX7_goOnBody.cls = true := by decide +kernel
theorem md_X7_goOnStart : MDk yX7_goOnStart 0 := ⟨by decide +kernel, by decide +kernel, by decide +kernel⟩
theorem pn_X7_goOnStart : plainName yX7_goOnStart.cls = true := by decide +kernel
theorem md_X7_gone : MDk yX7_gone 0 := ⟨by decide +kernel, by decide +kernel, by decide +kernel⟩
theorem pn_X7_gone : plainName yX7_gone.cls = true := by decide +kernel
theorem md_X7_in : MDk yX7_in 3 := ⟨by decide +kernel, by decide +kernel, by decide +kernel⟩
theorem pn_X7_in : plainName yX7_in.cls = true := by decide +kernel
theorem md_X7_isRound : MDk yX7_isRound 1 := ⟨by decide +kernel, by decide +kernel, by decide +kernel⟩
theorem pn_X7_isRound : plainName yX7_isRound.cls = true := by decide +kernel
theorem md_X7_isRuled : MDk yX7_isRuled 3 := ⟨by decide +kernel, by decide +kernel, by decide +kernel⟩
theorem pn_X7_isRuled : plainName yX7_isRuled.cls = true := by decide +kernel
theorem md_X7_isType : MDk yX7_isType 1 := ⟨by decide +kernel, by decide +kernel, by decide +kernel⟩
theorem pn_X7_isType : plainName yX7_isType.cls = true := by decide +kernel
theorem md_X7_isWorld : MDk yX7_isWorld 1 := ⟨by decide +kernel, by decide +kernel, by decide +kernel⟩
theorem pn_X7_isWorld : plainName yX7_isWorld.cls = true := by decide +kernel
theorem md_X7_kindAt : MDk yX7_kindAt 1 := ⟨by decide +kernel, by decide +kernel, by decide +kernel⟩
theorem pn_X7_kindAt : plainName yX7_kindAt.cls = true := by decide +kernel
theorem md_X7_leads : MDk yX7_leads 2 := ⟨by decide +kernel, by decide +kernel, by decide +kernel⟩
theorem pn_X7_leads : plainName yX7_leads.cls = true := by decide +kernel
theorem md_X7_listAsked : MDk yX7_listAsked 1 := ⟨by decide +kernel, by decide +kernel, by decide +kernel⟩
theorem pn_X7_listAsked : plainName yX7_listAsked.cls = true := by decide +kernel
theorem md_X7_listFirst : MDk yX7_listFirst 1 := ⟨by decide +kernel, by decide +kernel, by decide +kernel⟩
theorem pn_X7_listFirst : plainName yX7_listFirst.cls = true := by decide +kernel
theorem md_X7_make : MDk yX7_make 3 := ⟨by decide +kernel, by decide +kernel, by decide +kernel⟩
theorem pn_X7_make : plainName yX7_make.cls = true := by decide +kernel
theorem md_X7_many : MDk yX7_many 2 := ⟨by decide +kernel, by decide +kernel, by decide +kernel⟩
theorem pn_X7_many : plainName yX7_many.cls = true := by decide +kernel
theorem md_X7_method : MDk yX7_method 2 := ⟨by decide +kernel, by decide +kernel, by decide +kernel⟩
theorem pn_X7_method : plainName yX7_method.cls = true := by decide +kernel
theorem md_X7_nameAt : MDk yX7_nameAt 1 := ⟨by decide +kernel, by decide +kernel, by decide +kernel⟩
theorem pn_X7_nameAt : plainName yX7_nameAt.cls = true := by decide +kernel
theorem md_X7_onTape : MDk yX7_onTape 1 := ⟨by decide +kernel, by decide +kernel, by decide +kernel⟩
theorem pn_X7_onTape : plainName yX7_onTape.cls = true := by decide +kernel
theorem md_X7_ownField : MDk yX7_ownField 2 := ⟨by decide +kernel, by decide +kernel, by decide +kernel⟩
theorem pn_X7_ownField : plainName yX7_ownField.cls = true := by decide +kernel
theorem md_X7_ownMethod : MDk yX7_ownMethod 2 := ⟨by decide +kernel, by decide +kernel, by decide +kernel⟩
theorem pn_X7_ownMethod : plainName yX7_ownMethod.cls = true := by decide +kernel
theorem md_X7_pushBody : MDk yX7_pushBody 1 := ⟨by decide +kernel, by decide +kernel, by decide +kernel⟩
theorem pn_X7_pushBody : plainName yX7_pushBody.cls = true := by decide +kernel
theorem md_X7_refusal : MDk yX7_refusal 4 := ⟨by decide +kernel, by decide +kernel, by decide +kernel⟩
theorem pn_X7_refusal : plainName yX7_refusal.cls = true := by decide +kernel
theorem md_X7_round : MDk yX7_round 1 := ⟨by decide +kernel, by decide +kernel, by decide +kernel⟩
theorem pn_X7_round : plainName yX7_round.cls = true := by decide +kernel
theorem md_X7_sizeOf : MDk yX7_sizeOf 1 := ⟨by decide +kernel, by decide +kernel, by decide +kernel⟩
theorem pn_X7_sizeOf : plainName yX7_sizeOf.cls = true := by decide +kernel
theorem md_X7_spent : MDk yX7_spent 2 := ⟨by decide +kernel, by decide +kernel, by decide +kernel⟩
theorem pn_X7_spent : plainName yX7_spent.cls = true := by decide +kernel
theorem md_X7_start : MDk yX7_start 1 := ⟨by decide +kernel, by decide +kernel, by decide +kernel⟩
theorem pn_X7_start : plainName yX7_start.cls = true := by decide +kernel
theorem md_X7_started : MDk yX7_started 3 := ⟨by decide +kernel, by decide +kernel, by decide +kernel⟩
theorem pn_X7_started : plainName yX7_started.cls = true := by decide +kernel
theorem md_X7_state : MDk yX7_state 2 := ⟨by decide +kernel, by decide +kernel, by decide +kernel⟩
theorem pn_X7_state : plainName yX7_state.cls = true := by decide +kernel
theorem md_X7_tape : MDk yX7_tape 2 := ⟨by decide +kernel, by decide +kernel, by decide +kernel⟩
theorem pn_X7_tape : plainName yX7_tape.cls = true := by decide +kernel
theorem md_X7_told : MDk yX7_told 2 := ⟨by decide +kernel, by decide +kernel, by decide +kernel⟩
theorem pn_X7_told : plainName yX7_told.cls = true := by decide +kernel
theorem md_X7_touch : MDk yX7_touch 5 := ⟨by decide +kernel, by decide +kernel, by decide +kernel⟩
theorem pn_X7_touch : plainName yX7_touch.cls = true := by decide +kernel
theorem md_X7_typeAt : MDk yX7_typeAt 1 := ⟨by decide +kernel, by decide +kernel, by decide +kernel⟩
theorem pn_X7_typeAt : plainName yX7_typeAt.cls = true := by decide +kernel
theorem md_X7_under : MDk yX7_under 2 := ⟨by decide +kernel, by decide +kernel, by decide +kernel⟩
theorem pn_X7_under : plainName yX7_under.cls = true := by decide +kernel
theorem md_X7_value : MDk yX7_value 3 := ⟨by decide +kernel, by decide +kernel, by decide +kernel⟩
theorem pn_X7_value : plainName yX7_value.cls = true := by decide +kernel
theorem md_X7_valueAt : MDk yX7_valueAt 1 := ⟨by decide +kernel, by decide +kernel, by decide +kernel⟩
theorem pn_X7_valueAt : plainName yX7_valueAt.cls = true := by decide +kernel
theorem md_X7_world : MDk yX7_world 0 := ⟨by decide +kernel, by decide +kernel, by decide +kernel⟩
theorem pn_X7_world : plainName yX7_world.cls = true := by decide +kernel
theorem md_J9_max_7cf53 : MDk yJ9_max_7cf53 2 := ⟨by decide +kernel, by decide +kernel, by decide +kernel⟩
theorem md_J7_fill_53178 : MDk yJ7_fill_53178 2 := ⟨by decide +kernel, by decide +kernel, by decide +kernel⟩
theorem pn_J7_fill_53178 : plainName yJ7_fill_53178.cls = true := by decide +kernel
end
section
/-! THE REFERENCE: its object is token 0, the array of its field k is token k+1; M k i is place i of that array, M k 0 a plain field -/
def mSh : Nat → Nat × Nat := fun k => match k with
  | 1 => (21, 40)
  | 2 => (21, 40)
  | 3 => (20, 40)
  | 4 => (20, 40)
  | 5 => (20, 160)
  | 6 => (20, 40)
  | 7 => (20, 240)
  | 8 => (21, 240)
  | 9 => (20, 240)
  | 10 => (20, 40)
  | 11 => (20, 160)
  | 12 => (20, 200)
  | 13 => (20, 2400)
  | 14 => (20, 2400)
  | 15 => (20, 2400)
  | 16 => (20, 2400)
  | 18 => (20, 400)
  | 19 => (21, 40)
  | 20 => (20, 41)
  | 22 => (21, 40)
  | 23 => (21, 400)
  | 24 => (20, 60)
  | 26 => (21, 40)
  | 27 => (20, 1700)
  | 28 => (20, 520)
  | 29 => (20, 3120)
  | 30 => (20, 13)
  | 31 => (20, 3900)
  | 32 => (20, 13)
  | 33 => (20, 520)
  | 34 => (20, 12)
  | 35 => (20, 12)
  | 36 => (20, 48)
  | 39 => (21, 100)
  | 40 => (20, 100)
  | 41 => (20, 100)
  | 42 => (20, 100)
  | 43 => (21, 100)
  | 57 => (21, 100)
  | _ => (0, 0)
def gα (αC : Sh) : Sh := fun t => if t = 0 then (8, 0) else if 1 ≤ t ∧ t ≤ 58 then mSh (t - 1).toNat else αC t
def mm (M C : Mem) : Mem := fun t i => if t = 0 then (if (mSh i.toNat).1 = 0 then M i 0 else i + 1) else if 1 ≤ t ∧ t ≤ 58 then (if (mSh (t - 1).toNat).1 = 0 then 0 else M (t - 1) i) else C t i
theorem gα_0 {αC : Sh} : (gα αC 0) = (7 + 1, 0) := rfl
theorem gα_a {αC : Sh} {k : Nat} {t : Int} (ht : t = k + 1) (hk : k < 58) : gα αC t = mSh k := by
  subst ht
  unfold gα
  rw [if_neg (by omega), if_pos (by omega)]
  congr 1
  omega
theorem gα_c {αC : Sh} {t : Int} (ht : t < 0 ∨ 59 ≤ t) : gα αC t = αC t := by
  unfold gα
  rw [if_neg (by omega), if_neg (by omega)]
theorem mm_0 {M C : Mem} {k : Nat} (h : (mSh k).1 = 0) : mm M C 0 k = M k 0 := by
  unfold mm
  rw [if_pos rfl, Int.toNat_natCast, if_pos h]
theorem mm_r {M C : Mem} {k : Nat} (h : (mSh k).1 ≠ 0) : mm M C 0 k = k + 1 := by
  unfold mm
  rw [if_pos rfl, Int.toNat_natCast, if_neg h]
theorem mm_a {M C : Mem} {k : Nat} {t i : Int} (ht : t = k + 1) (hk : k < 58) (h : (mSh k).1 ≠ 0) : mm M C t i = M k i := by
  subst ht
  unfold mm
  rw [if_neg (by omega), if_pos (by omega), show ((k : Int) + 1 - 1).toNat = k by omega, if_neg h, show (k : Int) + 1 - 1 = k by omega]
theorem mm_c {M C : Mem} {t : Int} (ht : t < 0 ∨ 59 ≤ t) (i : Int) : mm M C t i = C t i := by
  unfold mm
  rw [if_neg (by omega), if_neg (by omega)]
theorem mm_put {M C : Mem} {k : Nat} {x : Int} (h : (mSh k).1 = 0) (hk : k < 58) : mu (mm M C) 0 k x = mm (mu M k 0 x) C := by
  funext t i
  by_cases ht : t = 0
  · subst ht
    by_cases hi : i = k
    · subst hi
      rw [mu_s, mm_0 h, mu_s]
    · rw [mu_i _ _ _ _ hi]
      unfold mm
      rw [if_pos rfl, if_pos rfl, mu_t _ _ _ _ hi]
  · rw [mu_t _ _ _ _ ht]
    unfold mm
    rw [if_neg ht, if_neg ht]
    split
    · rename_i h1
      split
      · rfl
      · rename_i h2
        rw [mu_t _ _ _ _ (fun h3 => h2 (by rw [show (t - 1).toNat = k by omega]; exact h))]
    · rfl
theorem mm_ast {M C : Mem} {k : Nat} {t i x : Int} (ht : t = k + 1) (hk : k < 58) (h : (mSh k).1 ≠ 0) : mu (mm M C) t i x = mm (mu M k i x) C := by
  subst ht
  funext u j
  by_cases hu : u = k + 1
  · subst hu
    rw [mm_a rfl hk h]
    by_cases hj : j = i
    · subst hj
      rw [mu_s, mu_s]
    · rw [mu_i _ _ _ _ hj, mu_i _ _ _ _ hj, mm_a rfl hk h]
  · rw [mu_t _ _ _ _ hu]
    unfold mm
    split
    · rename_i h0
      split
      · rename_i h1
        rw [mu_t _ _ _ _ (fun h3 => h (by rw [show k = j.toNat by omega]; exact h1))]
      · rfl
    · split
      · split
        · rfl
        · rw [mu_t _ _ _ _ (by omega)]
      · rfl

section VM
variable {Γ : GC} {αC : Sh} {C M : Mem} {ad0 : Ad} {Z : ZT} {R : Room} {cc : ByteArray} {nL : Nat} {ret : Option FieldType} {nm : String} {pc q : Nat} {st lv : List AV} {cs sl : Nat}
theorem VM_getI {k idx : Nat} (ki : Int) (hd : decode cc pc = .ok (.getfield idx, 3)) (hp : pc + 3 = q) (fl : FL RX7 idx 7 k) (hki : (k : Int) = ki) (hk : kX7 k = 0) (hs : (mSh k).1 = 0) (kk : ∀ z : Int, z = M ki 0 → inI z → V Γ (gα αC) ad0 Z R RX7 cc nL ret nm q ((0, z) :: st) lv (gα αC) (mm M C) cs sl) : V Γ (gα αC) ad0 Z R RX7 cc nL ret nm pc ((3, 0) :: st) lv (gα αC) (mm M C) cs sl := by
  subst hki
  refine V_getI (ci := 7) k hd hp fl (by decide) rfl rfl hk fun z hz h => kk z ?_ h
  rw [hz, mm_0 hs]
theorem VM_putI {k idx : Nat} {x : Int} (ki : Int) (hd : decode cc pc = .ok (.putfield idx, 3)) (hp : pc + 3 = q) (fl : FL RX7 idx 7 k) (hki : (k : Int) = ki) (hk : kX7 k = 0) (hs : (mSh k).1 = 0) (hfin : (TX7 k).2.2.2 = false) (kk : ∀ M1, M1 = mu M ki 0 x → V Γ (gα αC) ad0 Z R RX7 cc nL ret nm q st lv (gα αC) (mm M1 C) cs sl) : V Γ (gα αC) ad0 Z R RX7 cc nL ret nm pc ((0, x) :: (3, 0) :: st) lv (gα αC) (mm M C) cs sl := by
  subst hki
  refine V_putI (ci := 7) k hd hp fl (Or.inl hfin) (by decide) rfl rfl hk fun μ1 hμ => ?_
  rw [mm_put hs fl.2.1] at hμ
  subst hμ
  exact kk _ rfl
theorem VM_getZ {k idx : Nat} (ki : Int) (hd : decode cc pc = .ok (.getfield idx, 3)) (hp : pc + 3 = q) (fl : FL RX7 idx 7 k) (hki : (k : Int) = ki) (hk : kX7 k = 1) (hs : (mSh k).1 = 0) (kk : ∀ z : Int, z = M ki 0 → 0 ≤ z ∧ z ≤ 1 → V Γ (gα αC) ad0 Z R RX7 cc nL ret nm q ((0, z) :: st) lv (gα αC) (mm M C) cs sl) : V Γ (gα αC) ad0 Z R RX7 cc nL ret nm pc ((3, 0) :: st) lv (gα αC) (mm M C) cs sl := by
  subst hki
  refine V_getZ (ci := 7) k hd hp fl (by decide) rfl rfl hk fun z hz h => kk z ?_ h
  rw [hz, mm_0 hs]
theorem VM_putZ {k idx : Nat} {x : Int} (ki : Int) (hd : decode cc pc = .ok (.putfield idx, 3)) (hp : pc + 3 = q) (fl : FL RX7 idx 7 k) (hki : (k : Int) = ki) (hk : kX7 k = 1) (hs : (mSh k).1 = 0) (hfin : (TX7 k).2.2.2 = false) (hx : 0 ≤ x ∧ x ≤ 1) (kk : ∀ M1, M1 = mu M ki 0 x → V Γ (gα αC) ad0 Z R RX7 cc nL ret nm q st lv (gα αC) (mm M1 C) cs sl) : V Γ (gα αC) ad0 Z R RX7 cc nL ret nm pc ((0, x) :: (3, 0) :: st) lv (gα αC) (mm M C) cs sl := by
  subst hki
  refine V_putZ (ci := 7) k hd hp fl (Or.inl hfin) (by decide) rfl rfl hk hx fun μ1 hμ => ?_
  rw [mm_put hs fl.2.1] at hμ
  subst hμ
  exact kk _ rfl
theorem VM_getA {k idx : Nat} (k1 : Int) (hd : decode cc pc = .ok (.getfield idx, 3)) (hp : pc + 3 = q) (fl : FL RX7 idx 7 k) (hki : (k : Int) + 1 = k1) (hk : kX7 k = 3) (hs : (mSh k).1 ≠ 0) (kk : V Γ (gα αC) ad0 Z R RX7 cc nL ret nm q ((3, k1) :: st) lv (gα αC) (mm M C) cs sl) : V Γ (gα αC) ad0 Z R RX7 cc nL ret nm pc ((3, 0) :: st) lv (gα αC) (mm M C) cs sl := by
  refine V_getA (ci := 7) k hd hp fl (by decide) rfl rfl hk fun z hz h => ?_
  rw [mm_r hs, hki] at hz
  subst hz
  exact kk
theorem VM_iald {t i : Int} {k n : Nat} (ki : Int) (hd : decode cc pc = .ok (.iaload, 1)) (hp : pc + 1 = q) (hs : mSh k = (20, n)) (hk : k < 58) (hki : (k : Int) = ki) (ht : ki + 1 = t) (hi : 0 ≤ i ∧ i < n) (kk : ∀ z : Int, z = M ki i → inI z → V Γ (gα αC) ad0 Z R RX7 cc nL ret nm q ((0, z) :: st) lv (gα αC) (mm M C) cs sl) : V Γ (gα αC) ad0 Z R RX7 cc nL ret nm pc ((0, i) :: (3, t) :: st) lv (gα αC) (mm M C) cs sl := by
  subst hki
  refine V_iald (n := n) hd hp (by omega) ((gα_a ht.symm hk).trans hs) hi fun z hz h => kk z ?_ h
  rw [hz, mm_a ht.symm hk (by rw [hs]; exact Nat.succ_ne_zero _)]
theorem VM_zald {t i : Int} {k n : Nat} (ki : Int) (hd : decode cc pc = .ok (.baload, 1)) (hp : pc + 1 = q) (hs : mSh k = (21, n)) (hk : k < 58) (hki : (k : Int) = ki) (ht : ki + 1 = t) (hi : 0 ≤ i ∧ i < n) (kk : ∀ z : Int, z = M ki i → 0 ≤ z ∧ z ≤ 1 → V Γ (gα αC) ad0 Z R RX7 cc nL ret nm q ((0, z) :: st) lv (gα αC) (mm M C) cs sl) : V Γ (gα αC) ad0 Z R RX7 cc nL ret nm pc ((0, i) :: (3, t) :: st) lv (gα αC) (mm M C) cs sl := by
  subst hki
  refine V_zald (n := n) hd hp (by omega) ((gα_a ht.symm hk).trans hs) hi fun z hz h => kk z ?_ h
  rw [hz, mm_a ht.symm hk (by rw [hs]; exact Nat.succ_ne_zero _)]
theorem VM_iast {t i x : Int} {k n : Nat} (ki : Int) (hd : decode cc pc = .ok (.iastore, 1)) (hp : pc + 1 = q) (hs : mSh k = (20, n)) (hk : k < 58) (hki : (k : Int) = ki) (ht : ki + 1 = t) (hi : 0 ≤ i ∧ i < n) (kk : ∀ M1, M1 = mu M ki i x → V Γ (gα αC) ad0 Z R RX7 cc nL ret nm q st lv (gα αC) (mm M1 C) cs sl) : V Γ (gα αC) ad0 Z R RX7 cc nL ret nm pc ((0, x) :: (0, i) :: (3, t) :: st) lv (gα αC) (mm M C) cs sl := by
  subst hki
  refine V_iast (n := n) hd hp (by omega) ((gα_a ht.symm hk).trans hs) hi fun μ1 hμ => ?_
  rw [mm_ast ht.symm hk (by rw [hs]; exact Nat.succ_ne_zero _)] at hμ
  subst hμ
  exact kk _ rfl
theorem VM_zast {t i x : Int} {k n : Nat} (ki : Int) (hd : decode cc pc = .ok (.bastore, 1)) (hp : pc + 1 = q) (hs : mSh k = (21, n)) (hk : k < 58) (hki : (k : Int) = ki) (ht : ki + 1 = t) (hi : 0 ≤ i ∧ i < n) (hx : 0 ≤ x ∧ x ≤ 1) (kk : ∀ M1, M1 = mu M ki i x → V Γ (gα αC) ad0 Z R RX7 cc nL ret nm q st lv (gα αC) (mm M1 C) cs sl) : V Γ (gα αC) ad0 Z R RX7 cc nL ret nm pc ((0, x) :: (0, i) :: (3, t) :: st) lv (gα αC) (mm M C) cs sl := by
  subst hki
  refine V_zast (n := n) hd hp (by omega) ((gα_a ht.symm hk).trans hs) hi hx fun μ1 hμ => ?_
  rw [mm_ast ht.symm hk (by rw [hs]; exact Nat.succ_ne_zero _)] at hμ
  subst hμ
  exact kk _ rfl
/-- the end of a method of the reference -/
def mQ (αC : Sh) (C : Mem) (Q : Option AV → Mem → Prop) : Option AV → Sh → Mem → Prop := fun r α1 μ1 => α1 = gα αC ∧ ∃ M1, μ1 = mm M1 C ∧ Q r M1
def MM (Γ : GC) (y : MethodName) (cc : ByteArray) (maxL : Nat) (ret : Option FieldType) (d : Nat) (args : List AV) (αC : Sh) (C M : Mem) (Q : Option AV → Mem → Prop) : Prop := MT Γ y cc maxL ret d 0 0 ((3, 0) :: args) (gα αC) (mm M C) (mQ αC C Q)
def mI (P : Int → Mem → Prop) : Option AV → Mem → Prop := fun r M => ∃ v, r = some (0, v) ∧ P v M
def mN (P : Mem → Prop) : Option AV → Mem → Prop := fun r M => r = none ∧ P M
theorem MM_of {Γ : GC} {y : MethodName} {cc : ByteArray} {maxL k : Nat} {ret : Option FieldType} {d : Nat} {args : List AV} {αC : Sh} {C M : Mem} {Q : Option AV → Mem → Prop} (lv : List AV) (hy : plainName y.cls = true) (hc : y.cls = RX7) (hlv : lv = ent ((3, 0) :: args) ++ List.replicate k (9, 0)) (hle : (ent ((3, 0) :: args)).length + k = maxL)
    (body : ∀ ad0, V Γ (gα αC) ad0 (ZM Γ (gα αC) ad0 (mQ αC C Q) 0 0) (RM d 0 0) RX7 cc maxL ret y.name 0 [] lv (gα αC) (mm M C) 0 0) : MM Γ y cc maxL ret d args αC C M Q :=
  MT_of lv hy hlv hle (fun ad0 => by rw [hc]; exact body ad0)
section VMI
variable {d : Nat}
theorem VM_callI {idx n d1 mL : Nat} {y : MethodName} {cy : ByteArray} {ry : Option FieldType} {As stk : List AV} {P : Int → Mem → Prop} (hM : MM Γ y cy mL ry d1 As αC C M (mI P)) (hd : decode cc pc = .ok (.invokevirtual idx, 3)) (hp : pc + 3 = q) (ml : MLk RX7 idx y) (mw : MWk y cy mL ry) (im : IMk y) (sk : SLk y) (md : MDk y n) (hci : RX7 = y.cls) (hn : As.length = n) (hstk : stk = As.reverse ++ (3, 0) :: st) (hf : d1 + 1 ≤ R.frames) (hlo : 8 + (mL + 11) + 64 * d1 ≤ R.locals) (hcs : cs ≤ R.cells) (hsl : sl ≤ R.slots) (hcat : catL st ≤ 8)
    (kk : ∀ v M1, inI v → P v M1 → V Γ (gα αC) ad0 Z R RX7 cc nL ret nm q ((0, v) :: st) lv (gα αC) (mm M1 C) cs sl) : V Γ (gα αC) ad0 Z R RX7 cc nL ret nm pc stk lv (gα αC) (mm M C) cs sl := by
  refine V_invV hM hd hp ml mw im sk md (ci := 7) hci (by decide) (by decide) rfl hn hstk hf hlo hcs hsl hcat ?_
  rintro r α1 μ1 he hr ⟨rfl, M1, rfl, v, rfl, hP⟩
  exact kk v M1 (hr _ rfl) hP
theorem VM_callN {idx n d1 mL : Nat} {y : MethodName} {cy : ByteArray} {As stk : List AV} {P : Mem → Prop} (hM : MM Γ y cy mL none d1 As αC C M (mN P)) (hd : decode cc pc = .ok (.invokevirtual idx, 3)) (hp : pc + 3 = q) (ml : MLk RX7 idx y) (mw : MWk y cy mL none) (im : IMk y) (sk : SLk y) (md : MDk y n) (hci : RX7 = y.cls) (hn : As.length = n) (hstk : stk = As.reverse ++ (3, 0) :: st) (hf : d1 + 1 ≤ R.frames) (hlo : 8 + (mL + 11) + 64 * d1 ≤ R.locals) (hcs : cs ≤ R.cells) (hsl : sl ≤ R.slots) (hcat : catL st ≤ 8)
    (kk : ∀ M1, P M1 → V Γ (gα αC) ad0 Z R RX7 cc nL ret nm q st lv (gα αC) (mm M1 C) cs sl) : V Γ (gα αC) ad0 Z R RX7 cc nL ret nm pc stk lv (gα αC) (mm M C) cs sl := by
  refine V_invV hM hd hp ml mw im sk md (ci := 7) hci (by decide) (by decide) rfl hn hstk hf hlo hcs hsl hcat ?_
  rintro r α1 μ1 he hr ⟨rfl, M1, rfl, rfl, hP⟩
  exact kk M1 hP
theorem VM_iret {x : Int} {Q : Option AV → Mem → Prop} (hd : decode cc pc = .ok (.ireturn, 1)) (hq : Q (some (0, x)) M) : V Γ (gα αC) ad0 (ZM Γ (gα αC) ad0 (mQ αC C Q) 0 0) R RX7 cc nL (some .int) nm pc [(0, x)] lv (gα αC) (mm M C) 0 0 :=
  V_iret hd (Nat.le_refl _) (Nat.le_refl _) ⟨rfl, M, rfl, hq⟩
theorem VM_zret {x : Int} {Q : Option AV → Mem → Prop} (hd : decode cc pc = .ok (.ireturn, 1)) (hb : 0 ≤ x ∧ x ≤ 1) (hq : Q (some (0, x)) M) : V Γ (gα αC) ad0 (ZM Γ (gα αC) ad0 (mQ αC C Q) 0 0) R RX7 cc nL (some .boolean) nm pc [(0, x)] lv (gα αC) (mm M C) 0 0 :=
  V_zret hd hb (Nat.le_refl _) (Nat.le_refl _) ⟨rfl, M, rfl, hq⟩
theorem VM_vret {Q : Option AV → Mem → Prop} (hd : decode cc pc = .ok (.return_, 1)) (hq : Q none M) : V Γ (gα αC) ad0 (ZM Γ (gα αC) ad0 (mQ αC C Q) 0 0) R RX7 cc nL none nm pc [] lv (gα αC) (mm M C) 0 0 :=
  V_vret hd (Nat.le_refl _) (Nat.le_refl _) ⟨rfl, M, rfl, hq⟩
end VMI
end VM
end
section
/-! THE DESCRIPTION as the reference keeps it (M k i: place i of its field k): what is found by names, and what always holds -/
theorem loop_wf {σ : Type} (G : σ → Prop) (ms : σ → Nat) (I : σ → Prop) (step : ∀ s, I s → (∀ s1, I s1 → ms s1 < ms s → G s1) → G s) : ∀ s, I s → G s := by
  have h : ∀ n s, ms s ≤ n → I s → G s := by
    intro n
    induction n with
    | zero => intro s hs hi; exact step s hi (fun s1 _ h => absurd h (by omega))
    | succ n ih => intro s hs hi; exact step s hi (fun s1 h1 h2 => ih s1 (by omega) h1)
  exact fun s => h _ s (Nat.le_refl _)
/-- the last place below k of a row of names that has the name -/
def lastAt (f : Int → Int) (b nm : Int) : Nat → Int
  | 0 => -6
  | k + 1 => if f (b + k) = nm then k else lastAt f b nm k
theorem lastAt_lt (f : Int → Int) (b nm : Int) : ∀ k : Nat, lastAt f b nm k = -6 ∨ (0 ≤ lastAt f b nm k ∧ lastAt f b nm k < k ∧ f (b + lastAt f b nm k) = nm) := by
  intro k
  induction k with
  | zero => exact Or.inl rfl
  | succ k ih =>
    unfold lastAt
    split
    · rename_i h; exact Or.inr ⟨by omega, by omega, h⟩
    · rcases ih with h | h
      · exact Or.inl h
      · exact Or.inr ⟨h.1, by omega, h.2.2⟩
theorem lastAt_none (f : Int → Int) (b nm : Int) : ∀ k : Nat, (∀ j : Int, 0 ≤ j → j < k → f (b + j) ≠ nm) → lastAt f b nm k = -6 := by
  intro k
  induction k with
  | zero => intro _; rfl
  | succ k ih =>
    intro h
    unfold lastAt
    rw [if_neg (h k (by omega) (by omega))]
    exact ih (fun j h0 h1 => h j h0 (by omega))
theorem lastAt_some (f : Int → Int) (b nm : Int) (k : Nat) (h : lastAt f b nm k = -6) : ∀ j : Int, 0 ≤ j → j < k → f (b + j) ≠ nm := by
  induction k with
  | zero => intro j h0 h1; omega
  | succ k ih =>
    intro j h0 h1
    unfold lastAt at h
    split at h
    · omega
    · rename_i hne
      by_cases hj : j = k
      · rw [hj]; exact hne
      · exact ih h j h0 (by omega)
/-- the number (in its type) of a type's own field, method by a name; -6: none -/
def oF (M : Mem) (t nm : Int) : Int := lastAt (M 7) (6 * t) nm (M 6 t).toNat
def oM (M : Mem) (t nm : Int) : Int := lastAt (M 11) (4 * t) nm (M 10 t).toNat
/-- the place of an own field -/
def pF (M : Mem) (t nm : Int) : Int := if oF M t nm < 0 then -6 else 6 * t + oF M t nm
theorem oF_rng (M : Mem) (t nm : Int) : oF M t nm = -6 ∨ (0 ≤ oF M t nm ∧ oF M t nm < M 6 t ∧ M 7 (6 * t + oF M t nm) = nm) := by
  rcases lastAt_lt (M 7) (6 * t) nm (M 6 t).toNat with h | h
  · exact Or.inl h
  · refine Or.inr ⟨h.1, ?_, h.2.2⟩
    have := h.1
    have := h.2.1
    unfold oF
    omega
theorem oM_rng (M : Mem) (t nm : Int) : oM M t nm = -6 ∨ (0 ≤ oM M t nm ∧ oM M t nm < M 10 t ∧ M 11 (4 * t + oM M t nm) = nm) := by
  rcases lastAt_lt (M 11) (4 * t) nm (M 10 t).toNat with h | h
  · exact Or.inl h
  · refine Or.inr ⟨h.1, ?_, h.2.2⟩
    have := h.1
    have := h.2.1
    unfold oM
    omega
def lastI (f : Int → Int) (b nm k : Int) : Int := lastAt f b nm k.toNat
theorem lastI_s (f : Int → Int) (b nm k : Int) (h : 0 ≤ k) : lastI f b nm (k + 1) = if f (b + k) = nm then k else lastI f b nm k := by
  unfold lastI
  rw [show (k + 1).toNat = k.toNat + 1 by omega]
  show (if f (b + (k.toNat : Nat)) = nm then ((k.toNat : Nat) : Int) else _) = _
  rw [show ((k.toNat : Nat) : Int) = k by omega]
/-- the same, moved to its place b in the row; -6: none -/
def placeI (f : Int → Int) (b c nm k : Int) : Int := if lastI f b nm k < 0 then -6 else c + lastI f b nm k
theorem placeI_s (f : Int → Int) (b c nm k : Int) (h : 0 ≤ k) : placeI f b c nm (k + 1) = if f (b + k) = nm then c + k else placeI f b c nm k := by
  unfold placeI
  rw [lastI_s f b nm k h]
  by_cases h1 : f (b + k) = nm
  · rw [if_pos h1, if_pos h1, if_neg (by omega)]
  · rw [if_neg h1, if_neg h1]
theorem pF_eq (M : Mem) (t nm : Int) : placeI (M 7) (6 * t) (6 * t) nm (M 6 t) = pF M t nm := rfl
theorem oM_eq (M : Mem) (t nm : Int) : placeI (M 11) (4 * t) 0 nm (M 10 t) = oM M t nm := by
  unfold placeI
  show (if oM M t nm < 0 then (-6 : Int) else 0 + oM M t nm) = oM M t nm
  rcases oM_rng M t nm with h | h
  · rw [if_pos (by omega), h]
  · rw [if_neg (by omega)]; omega
theorem pF_rng (M : Mem) (t nm : Int) : pF M t nm = -6 ∨ (6 * t ≤ pF M t nm ∧ pF M t nm < 6 * t + M 6 t ∧ M 7 (pF M t nm) = nm) := by
  unfold pF
  rcases oF_rng M t nm with h | ⟨h1, h2, h3⟩
  · rw [if_pos (by omega)]; exact Or.inl rfl
  · rw [if_neg (by omega)]; exact Or.inr ⟨by omega, by omega, h3⟩
end
section
/-- a row of locals with some of them forgotten -/
def fgt : List AV → List AV → Prop
  | [], [] => True
  | v :: r, u :: q => (v = u ∨ v.1 = 9) ∧ fgt r q
  | _, _ => False
theorem fgt_at : ∀ (l1 l : List AV), fgt l1 l → ∀ (i : Nat) (v : AV), l1[i]? = some v → v.1 ≠ 9 → l[i]? = some v := by
  intro l1
  induction l1 with
  | nil => intro l _ i v h; simp at h
  | cons a r ih =>
    intro l h i v hv h9
    cases l with
    | nil => exact absurd h id
    | cons b q =>
      cases i with
      | zero =>
        simp at hv ⊢
        rcases h.1 with h1 | h1
        · rw [← h1]; exact hv
        · rw [hv] at h1; exact absurd h1 h9
      | succ j =>
        simp at hv ⊢
        exact ih q h.2 j v hv h9
theorem V_fgt {Γ : GC} {α0 : Sh} {ad0 : Ad} {Z : ZT} {R : Room} {own : String} {cc : ByteArray} {nL : Nat} {ret : Option FieldType} {nm : String} {pc : Nat} {st lv : List AV} {α : Sh} {μ : Mem} {cs sl : Nat} (lv1 : List AV) (h : fgt lv1 lv) (k : V Γ α0 ad0 Z R own cc nL ret nm pc st lv1 α μ cs sl) : V Γ α0 ad0 Z R own cc nL ret nm pc st lv α μ cs sl := by
  intro p e s m args below meth c ad H ls locs F hH hE hst hlv hl hS
  refine k p e s m args below meth c ad H ls locs F hH hE hst (fun v hv => ?_) ⟨hl.1, hl.2.1, fun q hq => ?_⟩ hS
  · by_cases h9 : v.1 = 9
    · obtain ⟨k, x⟩ := v
      cases h9
      trivial
    · obtain ⟨i, hi⟩ := List.mem_iff_getElem?.mp hv
      exact hlv v (List.mem_of_getElem? (fgt_at _ _ h i v hi h9))
  · obtain ⟨i, v, e1, e2, rfl⟩ := asc_of _ _ _ hq
    have h1 := asc_mem (ad := ad) lv 0 i v (fgt_at _ _ h i v e1 e2) e2
    exact hl.2.2 _ h1
theorem loop1 {A : Type} (G : A → Prop) (ms : A → Nat) (I : A → Prop) (step : ∀ a, I a → (∀ a1, I a1 → ms a1 < ms a → G a1) → G a) : ∀ a, I a → G a := loop_wf G ms I step
theorem loop2 {A B : Type} (G : A → B → Prop) (ms : A → B → Nat) (I : A → B → Prop) (step : ∀ a b, I a b → (∀ a1 b1, I a1 b1 → ms a1 b1 < ms a b → G a1 b1) → G a b) : ∀ a b, I a b → G a b := fun a b => loop_wf (fun s : A × B => G s.1 s.2) (fun s => ms s.1 s.2) (fun s => I s.1 s.2) (fun s h ih => step s.1 s.2 h (fun a1 b1 h1 h2 => ih (a1, b1) h1 h2)) (a, b)
theorem loop3 {A B D : Type} (G : A → B → D → Prop) (ms : A → B → D → Nat) (I : A → B → D → Prop) (step : ∀ a b c, I a b c → (∀ a1 b1 c1, I a1 b1 c1 → ms a1 b1 c1 < ms a b c → G a1 b1 c1) → G a b c) : ∀ a b c, I a b c → G a b c := fun a b c => loop_wf (fun s : A × B × D => G s.1 s.2.1 s.2.2) (fun s => ms s.1 s.2.1 s.2.2) (fun s => I s.1 s.2.1 s.2.2) (fun s h ih => step s.1 s.2.1 s.2.2 h (fun a1 b1 c1 h1 h2 => ih (a1, b1, c1) h1 h2)) (a, b, c)
theorem loop4 {A B D E : Type} (G : A → B → D → E → Prop) (ms : A → B → D → E → Nat) (I : A → B → D → E → Prop) (step : ∀ a b c e, I a b c e → (∀ a1 b1 c1 e1, I a1 b1 c1 e1 → ms a1 b1 c1 e1 < ms a b c e → G a1 b1 c1 e1) → G a b c e) : ∀ a b c e, I a b c e → G a b c e := fun a b c e => loop_wf (fun s : A × B × D × E => G s.1 s.2.1 s.2.2.1 s.2.2.2) (fun s => ms s.1 s.2.1 s.2.2.1 s.2.2.2) (fun s => I s.1 s.2.1 s.2.2.1 s.2.2.2) (fun s h ih => step s.1 s.2.1 s.2.2.1 s.2.2.2 h (fun a1 b1 c1 e1 h1 h2 => ih (a1, b1, c1, e1) h1 h2)) (a, b, c, e)
end
section
theorem tX7_in {Γ : GC} {α : Sh} {μ : Mem} {v lo hi : Int} : MT Γ yX7_in cX7_in 3 (some .boolean) 0 0 0 [(0, v), (0, lo), (0, hi)] α μ (QI fun r α1 μ1 => α1 = α ∧ μ1 = μ ∧ (0 ≤ r ∧ r ≤ 1) ∧ (r = 1 ↔ (lo ≤ v ∧ v ≤ hi))) := by
  refine MT_of (k := 0) [(0, v), (0, lo), (0, hi)] pn_X7_in rfl rfl (fun ad0 => ?_)
  refine V_iload_n (q := 1) dX7_in_0 rfl rfl rfl ?_
  refine V_iload_n (q := 2) dX7_in_1 rfl rfl rfl ?_
  refine V_icmp_lt (q := 5) (tgt := 14) dX7_in_2 (by decide) rfl (fun c2 => ?_) (fun c2 => ?_)
  · refine V_iconst (q := 15) dX7_in_14 rfl (by decide) ?_
    exact V_zret dX7_in_15 (by decide) (Nat.le_refl _) (Nat.le_refl _) ⟨_, rfl, rfl, rfl, by omega, by omega⟩
  · refine V_iload_n (q := 6) dX7_in_5 rfl rfl rfl ?_
    refine V_iload_n (q := 7) dX7_in_6 rfl rfl rfl ?_
    refine V_icmp_gt (q := 10) (tgt := 14) dX7_in_7 (by decide) rfl (fun c7 => ?_) (fun c7 => ?_)
    · refine V_iconst (q := 15) dX7_in_14 rfl (by decide) ?_
      exact V_zret dX7_in_15 (by decide) (Nat.le_refl _) (Nat.le_refl _) ⟨_, rfl, rfl, rfl, by omega, by omega⟩
    · refine V_iconst (q := 11) dX7_in_10 rfl (by decide) ?_
      refine V_goto (tgt := 15) dX7_in_11 (by decide) ?_
      exact V_zret dX7_in_15 (by decide) (Nat.le_refl _) (Nat.le_refl _) ⟨_, rfl, rfl, rfl, by omega, by omega⟩
theorem V_in {Γ : GC} {α0 : Sh} {ad0 : Ad} {Z : ZT} {R : Room} {cc : ByteArray} {nL : Nat} {ret : Option FieldType} {nm : String} {pc q idx : Nat} {st lv : List AV} {α : Sh} {μ : Mem} {cs sl : Nat} {v lo hi : Int} (hd : decode cc pc = .ok (.invokestatic idx, 3)) (hp : pc + 3 = q) (ml : MLk RX7 idx yX7_in) (hf : 1 ≤ R.frames) (hlo : 22 ≤ R.locals) (hcs : cs ≤ R.cells) (hsl : sl ≤ R.slots) (hcat : catL st ≤ 8) (kk : ∀ r : Int, (0 ≤ r ∧ r ≤ 1) → (r = 1 ↔ (lo ≤ v ∧ v ≤ hi)) → V Γ α0 ad0 Z R RX7 cc nL ret nm q ((0, r) :: st) lv α μ cs sl) : V Γ α0 ad0 Z R RX7 cc nL ret nm pc ((0, hi) :: (0, lo) :: (0, v) :: st) lv α μ cs sl := by
  refine V_invS (As := [(0, v), (0, lo), (0, hi)]) tX7_in hd hp ml mw_X7_in sm_X7_in md_X7_in rfl rfl hf hlo hcs hsl hcat ?_
  rintro r α1 μ1 he hr ⟨v1, rfl, rfl, rfl, h1, h2⟩
  exact kk v1 h1 h2
theorem tX7_isType {Γ : GC} {αC : Sh} {C M : Mem} {x : Int} (h0 : 0 ≤ M 0 0) : MM Γ yX7_isType cX7_isType 2 (some .boolean) 1 [(0, x)] αC C M (mI fun r M1 => M1 = M ∧ (0 ≤ r ∧ r ≤ 1) ∧ (r = 1 ↔ (0 ≤ x ∧ x < M 0 0))) := by
  refine MM_of (k := 0) [(3, 0), (0, x)] pn_X7_isType rfl rfl rfl (fun ad0 => ?_)
  refine V_iload_n (q := 1) dX7_isType_0 rfl rfl rfl ?_
  refine V_iconst (q := 2) dX7_isType_1 rfl (by decide) ?_
  refine V_aload_n (q := 3) dX7_isType_2 rfl rfl rfl ?_
  refine VM_getI (q := 6) 0 dX7_isType_3 rfl flX7_128 rfl rfl rfl (fun z3 ez3 rz3 => ?_)
  refine V_iconst (q := 7) dX7_isType_6 rfl (by decide) ?_
  refine V_isub (q := 8) dX7_isType_7 rfl (by omega) (fun z7 ez7 => ?_)
  refine V_in (q := 11) dX7_isType_8 rfl mlX7_132 (by decide) (by decide) (Nat.le_refl _) (Nat.le_refl _) (by decide) (fun z8 rz8 ez8 => ?_)
  exact VM_zret dX7_isType_11 (by omega) ⟨_, rfl, rfl, by omega, by omega⟩
theorem tX7_isWorld {Γ : GC} {αC : Sh} {C M : Mem} {x : Int} (h0 : 0 ≤ M 17 0) : MM Γ yX7_isWorld cX7_isWorld 2 (some .boolean) 1 [(0, x)] αC C M (mI fun r M1 => M1 = M ∧ (0 ≤ r ∧ r ≤ 1) ∧ (r = 1 ↔ (0 ≤ x ∧ x < M 17 0))) := by
  refine MM_of (k := 0) [(3, 0), (0, x)] pn_X7_isWorld rfl rfl rfl (fun ad0 => ?_)
  refine V_iload_n (q := 1) dX7_isWorld_0 rfl rfl rfl ?_
  refine V_iconst (q := 2) dX7_isWorld_1 rfl (by decide) ?_
  refine V_aload_n (q := 3) dX7_isWorld_2 rfl rfl rfl ?_
  refine VM_getI (q := 6) 17 dX7_isWorld_3 rfl flX7_140 rfl rfl rfl (fun z3 ez3 rz3 => ?_)
  refine V_iconst (q := 7) dX7_isWorld_6 rfl (by decide) ?_
  refine V_isub (q := 8) dX7_isWorld_7 rfl (by omega) (fun z7 ez7 => ?_)
  refine V_in (q := 11) dX7_isWorld_8 rfl mlX7_132 (by decide) (by decide) (Nat.le_refl _) (Nat.le_refl _) (by decide) (fun z8 rz8 ez8 => ?_)
  exact VM_zret dX7_isWorld_11 (by omega) ⟨_, rfl, rfl, by omega, by omega⟩
theorem tX7_ownField {Γ : GC} {αC : Sh} {C M : Mem} {t nm : Int} (ht : 0 ≤ t ∧ t < 40) (hf : 0 ≤ M 6 t ∧ M 6 t ≤ 6) : MM Γ yX7_ownField cX7_ownField 5 (some .int) 0 [(0, t), (0, nm)] αC C M (mI fun r M1 => M1 = M ∧ r = pF M t nm) := by
  refine MM_of (k := 2) [(3, 0), (0, t), (0, nm), (9, 0), (9, 0)] pn_X7_ownField rfl rfl rfl (fun ad0 => ?_)
  have loop : ∀ s : Int × Int, (0 ≤ s.1 ∧ s.1 ≤ M 6 t ∧ s.2 = placeI (M 7) (6 * t) (6 * t) nm s.1) → V Γ (gα αC) ad0 (ZM Γ (gα αC) ad0 (mQ αC C (mI fun r M1 => M1 = M ∧ r = pF M t nm)) 0 0) (RM 0 0 0) RX7 cX7_ownField 5 (some .int) yX7_ownField.name 6 [] [(3, 0), (0, t), (0, nm), (0, s.2), (0, s.1)] (gα αC) (mm M C) 0 0 := by
    refine loop_wf _ (fun s => (M 6 t - s.1).toNat) _ ?_
    rintro ⟨k, is⟩ ⟨h1, h2, h3⟩ ih
    simp only [] at h1 h2 h3 ⊢
    refine V_iload (q := 8) dX7_ownField_6 rfl rfl ?_
    refine V_aload_n (q := 9) dX7_ownField_8 rfl rfl rfl ?_
    refine VM_getA (q := 12) 7 dX7_ownField_9 rfl flX7_26 rfl rfl (Nat.succ_ne_zero _) ?_
    refine V_iload_n (q := 13) dX7_ownField_12 rfl rfl rfl ?_
    refine VM_iald (q := 14) 6 dX7_ownField_13 rfl rfl (by decide) rfl rfl (by omega) (fun z13 ez13 rz13 => ?_)
    refine V_icmp_ge (q := 17) (tgt := 51) dX7_ownField_14 (by decide) rfl (fun c14 => ?_) (fun c14 => ?_)
    · refine V_iload_n (q := 52) dX7_ownField_51 rfl rfl rfl ?_
      exact VM_iret dX7_ownField_52 ⟨_, rfl, rfl, by rw [h3, show k = M 6 t by omega]; exact pF_eq M t nm⟩
    · refine V_aload_n (q := 18) dX7_ownField_17 rfl rfl rfl ?_
      refine VM_getA (q := 21) 8 dX7_ownField_18 rfl flX7_29 rfl rfl (Nat.succ_ne_zero _) ?_
      refine V_bipush (q := 23) dX7_ownField_21 rfl (by decide) ?_
      refine V_iload_n (q := 24) dX7_ownField_23 rfl rfl rfl ?_
      refine V_imul (q := 25) dX7_ownField_24 rfl (by omega) (fun z24 ez24 => ?_)
      refine V_iload (q := 27) dX7_ownField_25 rfl rfl ?_
      refine V_iadd (q := 28) dX7_ownField_27 rfl (by omega) (fun z27 ez27 => ?_)
      refine VM_iald (q := 29) 7 dX7_ownField_28 rfl rfl (by decide) rfl rfl (by omega) (fun z28 ez28 rz28 => ?_)
      refine V_iload_n (q := 30) dX7_ownField_29 rfl rfl rfl ?_
      refine V_icmp_ne (q := 33) (tgt := 43) dX7_ownField_30 (by decide) rfl (fun c30 => ?_) (fun c30 => ?_)
      · refine V_iload_n (q := 44) dX7_ownField_43 rfl rfl rfl ?_
        refine V_istore_n (q := 45) (lv1 := [(3, 0), (0, t), (0, nm), (0, is), (0, k)]) dX7_ownField_44 rfl rfl (by decide) rfl rfl ?_
        refine V_iinc (q := 48) dX7_ownField_45 rfl rfl (by decide) rfl (by omega) (fun z45 lz45 ez45 hlz45 => ?_)
        obtain rfl : lz45 = [(3, 0), (0, t), (0, nm), (0, is), (0, z45)] := hlz45
        refine V_goto (tgt := 6) dX7_ownField_48 (by decide) ?_
        have e := placeI_s (M 7) (6 * t) (6 * t) nm k h1
        exact ih (z45, is) ⟨by simp only []; omega, by simp only []; omega, by { simp only []; subst_vars; first | (rw [if_pos (by first | assumption | rfl)] at e; omega) | (rw [if_neg (by assumption)] at e; omega) }⟩ (by simp only []; omega)
      · refine V_bipush (q := 35) dX7_ownField_33 rfl (by decide) ?_
        refine V_iload_n (q := 36) dX7_ownField_35 rfl rfl rfl ?_
        refine V_imul (q := 37) dX7_ownField_36 rfl (by omega) (fun z36 ez36 => ?_)
        refine V_iload (q := 39) dX7_ownField_37 rfl rfl ?_
        refine V_iadd (q := 40) dX7_ownField_39 rfl (by omega) (fun z39 ez39 => ?_)
        refine V_goto (tgt := 44) dX7_ownField_40 (by decide) ?_
        refine V_istore_n (q := 45) (lv1 := [(3, 0), (0, t), (0, nm), (0, z39), (0, k)]) dX7_ownField_44 rfl rfl (by decide) rfl rfl ?_
        refine V_iinc (q := 48) dX7_ownField_45 rfl rfl (by decide) rfl (by omega) (fun z45_2 lz45_2 ez45_2 hlz45_2 => ?_)
        obtain rfl : lz45_2 = [(3, 0), (0, t), (0, nm), (0, z39), (0, z45_2)] := hlz45_2
        refine V_goto (tgt := 6) dX7_ownField_48 (by decide) ?_
        have e := placeI_s (M 7) (6 * t) (6 * t) nm k h1
        exact ih (z45_2, z39) ⟨by simp only []; omega, by simp only []; omega, by { simp only []; subst_vars; first | (rw [if_pos (by first | assumption | rfl)] at e; omega) | (rw [if_neg (by assumption)] at e; omega) }⟩ (by simp only []; omega)
  refine V_bipush (q := 2) dX7_ownField_0 rfl (by decide) ?_
  refine V_istore_n (q := 3) (lv1 := [(3, 0), (0, t), (0, nm), (0, (-6)), (9, 0)]) dX7_ownField_2 rfl rfl (by decide) rfl rfl ?_
  refine V_iconst (q := 4) dX7_ownField_3 rfl (by decide) ?_
  refine V_istore (q := 6) (lv1 := [(3, 0), (0, t), (0, nm), (0, (-6)), (0, 0)]) dX7_ownField_4 rfl (by decide) rfl rfl ?_
  exact loop (0, (-6)) ⟨by decide, hf.1, rfl⟩
theorem tX7_ownMethod {Γ : GC} {αC : Sh} {C M : Mem} {t nm : Int} (ht : 0 ≤ t ∧ t < 40) (hf : 0 ≤ M 10 t ∧ M 10 t ≤ 4) : MM Γ yX7_ownMethod cX7_ownMethod 5 (some .int) 0 [(0, t), (0, nm)] αC C M (mI fun r M1 => M1 = M ∧ r = oM M t nm) := by
  refine MM_of (k := 2) [(3, 0), (0, t), (0, nm), (9, 0), (9, 0)] pn_X7_ownMethod rfl rfl rfl (fun ad0 => ?_)
  have loop : ∀ s : Int × Int, (0 ≤ s.1 ∧ s.1 ≤ M 10 t ∧ s.2 = placeI (M 11) (4 * t) 0 nm s.1) → V Γ (gα αC) ad0 (ZM Γ (gα αC) ad0 (mQ αC C (mI fun r M1 => M1 = M ∧ r = oM M t nm)) 0 0) (RM 0 0 0) RX7 cX7_ownMethod 5 (some .int) yX7_ownMethod.name 6 [] [(3, 0), (0, t), (0, nm), (0, s.2), (0, s.1)] (gα αC) (mm M C) 0 0 := by
    refine loop_wf _ (fun s => (M 10 t - s.1).toNat) _ ?_
    rintro ⟨k, is⟩ ⟨h1, h2, h3⟩ ih
    simp only [] at h1 h2 h3 ⊢
    refine V_iload (q := 8) dX7_ownMethod_6 rfl rfl ?_
    refine V_aload_n (q := 9) dX7_ownMethod_8 rfl rfl rfl ?_
    refine VM_getA (q := 12) 11 dX7_ownMethod_9 rfl flX7_38 rfl rfl (Nat.succ_ne_zero _) ?_
    refine V_iload_n (q := 13) dX7_ownMethod_12 rfl rfl rfl ?_
    refine VM_iald (q := 14) 10 dX7_ownMethod_13 rfl rfl (by decide) rfl rfl (by omega) (fun z13 ez13 rz13 => ?_)
    refine V_icmp_ge (q := 17) (tgt := 45) dX7_ownMethod_14 (by decide) rfl (fun c14 => ?_) (fun c14 => ?_)
    · refine V_iload_n (q := 46) dX7_ownMethod_45 rfl rfl rfl ?_
      exact VM_iret dX7_ownMethod_46 ⟨_, rfl, rfl, by rw [h3, show k = M 10 t by omega]; exact oM_eq M t nm⟩
    · refine V_aload_n (q := 18) dX7_ownMethod_17 rfl rfl rfl ?_
      refine VM_getA (q := 21) 12 dX7_ownMethod_18 rfl flX7_41 rfl rfl (Nat.succ_ne_zero _) ?_
      refine V_iconst (q := 22) dX7_ownMethod_21 rfl (by decide) ?_
      refine V_iload_n (q := 23) dX7_ownMethod_22 rfl rfl rfl ?_
      refine V_imul (q := 24) dX7_ownMethod_23 rfl (by omega) (fun z23 ez23 => ?_)
      refine V_iload (q := 26) dX7_ownMethod_24 rfl rfl ?_
      refine V_iadd (q := 27) dX7_ownMethod_26 rfl (by omega) (fun z26 ez26 => ?_)
      refine VM_iald (q := 28) 11 dX7_ownMethod_27 rfl rfl (by decide) rfl rfl (by omega) (fun z27 ez27 rz27 => ?_)
      refine V_iload_n (q := 29) dX7_ownMethod_28 rfl rfl rfl ?_
      refine V_icmp_ne (q := 32) (tgt := 37) dX7_ownMethod_29 (by decide) rfl (fun c29 => ?_) (fun c29 => ?_)
      · refine V_iload_n (q := 38) dX7_ownMethod_37 rfl rfl rfl ?_
        refine V_istore_n (q := 39) (lv1 := [(3, 0), (0, t), (0, nm), (0, is), (0, k)]) dX7_ownMethod_38 rfl rfl (by decide) rfl rfl ?_
        refine V_iinc (q := 42) dX7_ownMethod_39 rfl rfl (by decide) rfl (by omega) (fun z39 lz39 ez39 hlz39 => ?_)
        obtain rfl : lz39 = [(3, 0), (0, t), (0, nm), (0, is), (0, z39)] := hlz39
        refine V_goto (tgt := 6) dX7_ownMethod_42 (by decide) ?_
        have e := placeI_s (M 11) (4 * t) 0 nm k h1
        exact ih (z39, is) ⟨by simp only []; omega, by simp only []; omega, by { simp only []; subst_vars; first | (rw [if_pos (by first | assumption | rfl)] at e; omega) | (rw [if_neg (by assumption)] at e; omega) }⟩ (by simp only []; omega)
      · refine V_iload (q := 34) dX7_ownMethod_32 rfl rfl ?_
        refine V_goto (tgt := 38) dX7_ownMethod_34 (by decide) ?_
        refine V_istore_n (q := 39) (lv1 := [(3, 0), (0, t), (0, nm), (0, k), (0, k)]) dX7_ownMethod_38 rfl rfl (by decide) rfl rfl ?_
        refine V_iinc (q := 42) dX7_ownMethod_39 rfl rfl (by decide) rfl (by omega) (fun z39_2 lz39_2 ez39_2 hlz39_2 => ?_)
        obtain rfl : lz39_2 = [(3, 0), (0, t), (0, nm), (0, k), (0, z39_2)] := hlz39_2
        refine V_goto (tgt := 6) dX7_ownMethod_42 (by decide) ?_
        have e := placeI_s (M 11) (4 * t) 0 nm k h1
        exact ih (z39_2, k) ⟨by simp only []; omega, by simp only []; omega, by { simp only []; subst_vars; first | (rw [if_pos (by first | assumption | rfl)] at e; omega) | (rw [if_neg (by assumption)] at e; omega) }⟩ (by simp only []; omega)
  refine V_bipush (q := 2) dX7_ownMethod_0 rfl (by decide) ?_
  refine V_istore_n (q := 3) (lv1 := [(3, 0), (0, t), (0, nm), (0, (-6)), (9, 0)]) dX7_ownMethod_2 rfl rfl (by decide) rfl rfl ?_
  refine V_iconst (q := 4) dX7_ownMethod_3 rfl (by decide) ?_
  refine V_istore (q := 6) (lv1 := [(3, 0), (0, t), (0, nm), (0, (-6)), (0, 0)]) dX7_ownMethod_4 rfl (by decide) rfl rfl ?_
  exact loop (0, (-6)) ⟨by decide, hf.1, rfl⟩
end
section
/-! WAYS by ABOVE and UNDER in the description; what holds of a description; counting -/
def edge (M : Mem) (a b : Int) : Prop := 0 ≤ a ∧ a < M 0 0 ∧ ((b = M 3 a ∧ 0 ≤ b) ∨ ∃ k : Int, 0 ≤ k ∧ k < M 4 a ∧ b = M 5 (4 * a + k))
abbrev RT (M : Mem) : Int → Int → Prop := Relation.TransGen (edge M)
def RS (M : Mem) (a b : Int) : Prop := a = b ∨ RT M a b
theorem RS.tail {M : Mem} {a b c : Int} (h : RS M a b) (e : edge M b c) : RS M a c := by
  rcases h with h | h
  · subst h; exact Or.inr (.single e)
  · exact Or.inr (.tail h e)
theorem RT.of_RS {M : Mem} {a b c : Int} (h : RS M a b) (e : edge M b c) : RT M a c := by
  rcases h with h | h
  · subst h; exact .single e
  · exact .tail h e
theorem RS.trans {M : Mem} {a b c : Int} (h : RS M a b) (h1 : RS M b c) : RS M a c := by
  rcases h with h | h
  · subst h; exact h1
  · rcases h1 with h1 | h1
    · subst h1; exact Or.inr h
    · exact Or.inr (h.trans h1)
theorem RT.RS_l {M : Mem} {a b c : Int} (h : RS M a b) (h1 : RT M b c) : RT M a c := by
  rcases h with h | h
  · subst h; exact h1
  · exact h.trans h1
theorem RT.RS_r {M : Mem} {a b c : Int} (h : RT M a b) (h1 : RS M b c) : RT M a c := by
  rcases h1 with h1 | h1
  · subst h1; exact h
  · exact h.trans h1
/-- a set closed under the edges that holds a holds all that a leads to -/
theorem RS.closed {M : Mem} {P : Int → Prop} {a b : Int} (h : RS M a b) (ha : P a) (hc : ∀ x y, P x → edge M x y → P y) : P b := by
  rcases h with h | h
  · exact h ▸ ha
  · induction h with
    | single e => exact hc _ _ ha e
    | tail _ e ih => exact hc _ _ ih e
/-- the first step of a way -/
theorem RT.head {M : Mem} {a b : Int} (h : RT M a b) : ∃ c, edge M a c ∧ RS M c b := by
  induction h with
  | single e => exact ⟨_, e, Or.inl rfl⟩
  | tail _ e ih => obtain ⟨c, h1, h2⟩ := ih; exact ⟨c, h1, h2.tail e⟩
def ACT (M : Mem) (a : Int) : Prop := (0 ≤ M 13 a ∧ M 13 a ≤ 8) ∧ (1 ≤ M 13 a → M 13 a ≤ 6 → 0 ≤ M 14 a ∧ M 14 a < M 0 0) ∧ (1 ≤ M 13 a → M 13 a ≤ 3 → 0 ≤ M 15 a ∧ M 15 a ≤ 9) ∧ (M 13 a = 7 → 0 ≤ M 16 a ∧ M 16 a ≤ 19) ∧ (M 13 a = 8 → -1 ≤ M 16 a ∧ M 16 a ≤ 22)
/-- what always holds of the description -/
def WFD (M : Mem) : Prop :=
  (0 ≤ M 0 0 ∧ M 0 0 ≤ 40) ∧
  (∀ t : Int, 0 ≤ t → t < 40 → (0 ≤ M 4 t ∧ M 4 t ≤ 4) ∧ (0 ≤ M 6 t ∧ M 6 t ≤ 6) ∧ (0 ≤ M 10 t ∧ M 10 t ≤ 4)) ∧
  (∀ t : Int, 0 ≤ t → t < M 0 0 → -1 ≤ M 3 t ∧ M 3 t < t) ∧
  (∀ t k : Int, 0 ≤ t → t < M 0 0 → 0 ≤ k → k < M 4 t → 0 ≤ M 5 (4 * t + k) ∧ M 5 (4 * t + k) < M 0 0 ∧ M 1 (M 5 (4 * t + k)) = 1) ∧
  (∀ t k : Int, 0 ≤ t → t < M 0 0 → 0 ≤ k → k < M 6 t → 0 ≤ M 7 (6 * t + k) ∧ M 7 (6 * t + k) ≤ 9) ∧
  (∀ t k l : Int, 0 ≤ t → t < M 0 0 → 0 ≤ k → k < M 6 t → 0 ≤ l → l < M 6 t → M 7 (6 * t + k) = M 7 (6 * t + l) → k = l) ∧
  (∀ t k : Int, 0 ≤ t → t < M 0 0 → 0 ≤ k → k < M 10 t → 0 ≤ M 11 (4 * t + k) ∧ M 11 (4 * t + k) ≤ 9) ∧
  (∀ t k l : Int, 0 ≤ t → t < M 0 0 → 0 ≤ k → k < M 10 t → 0 ≤ l → l < M 10 t → M 11 (4 * t + k) = M 11 (4 * t + l) → k = l) ∧
  (∀ b : Int, 0 ≤ b → b < 200 → 0 ≤ M 12 b ∧ M 12 b ≤ 12) ∧
  (∀ b j : Int, 0 ≤ b → b < 200 → 0 ≤ j → j < M 12 b → ACT M (12 * b + j)) ∧
  (∀ t : Int, M 0 0 ≤ t → t < 40 → M 4 t = 0 ∧ M 6 t = 0 ∧ M 10 t = 0 ∧ M 12 (5 * t) = 0) ∧
  (∀ t m : Int, 0 ≤ t → t < 40 → M 10 t ≤ m → m < 4 → M 12 (5 * t + 1 + m) = 0) ∧
  (∀ t : Int, 0 ≤ t → t < M 0 0 → M 1 t = 1 → M 3 t = -1) ∧
  (0 ≤ M 17 0 ∧ M 17 0 ≤ 12) ∧
  (∀ t : Int, ¬ RT M t t)
theorem WFD.n {M : Mem} (h : WFD M) : 0 ≤ M 0 0 ∧ M 0 0 ≤ 40 := h.1
theorem WFD.cnt {M : Mem} (h : WFD M) (t : Int) (h0 : 0 ≤ t) (h1 : t < 40) : (0 ≤ M 4 t ∧ M 4 t ≤ 4) ∧ (0 ≤ M 6 t ∧ M 6 t ≤ 6) ∧ (0 ≤ M 10 t ∧ M 10 t ≤ 4) := h.2.1 t h0 h1
theorem WFD.above {M : Mem} (h : WFD M) (t : Int) (h0 : 0 ≤ t) (h1 : t < M 0 0) : -1 ≤ M 3 t ∧ M 3 t < t := h.2.2.1 t h0 h1
theorem WFD.face {M : Mem} (h : WFD M) (t k : Int) (h0 : 0 ≤ t) (h1 : t < M 0 0) (h2 : 0 ≤ k) (h3 : k < M 4 t) : 0 ≤ M 5 (4 * t + k) ∧ M 5 (4 * t + k) < M 0 0 ∧ M 1 (M 5 (4 * t + k)) = 1 := h.2.2.2.1 t k h0 h1 h2 h3
theorem WFD.fname {M : Mem} (h : WFD M) (t k : Int) (h0 : 0 ≤ t) (h1 : t < M 0 0) (h2 : 0 ≤ k) (h3 : k < M 6 t) : 0 ≤ M 7 (6 * t + k) ∧ M 7 (6 * t + k) ≤ 9 := h.2.2.2.2.1 t k h0 h1 h2 h3
theorem WFD.size {M : Mem} (h : WFD M) (b : Int) (h0 : 0 ≤ b) (h1 : b < 200) : 0 ≤ M 12 b ∧ M 12 b ≤ 12 := h.2.2.2.2.2.2.2.2.1 b h0 h1
theorem WFD.act {M : Mem} (h : WFD M) (b j : Int) (h0 : 0 ≤ b) (h1 : b < 200) (h2 : 0 ≤ j) (h3 : j < M 12 b) : ACT M (12 * b + j) := h.2.2.2.2.2.2.2.2.2.1 b j h0 h1 h2 h3
theorem WFD.acyc {M : Mem} (h : WFD M) (t : Int) : ¬ RT M t t := h.2.2.2.2.2.2.2.2.2.2.2.2.2.2 t
theorem WFD.w {M : Mem} (h : WFD M) : 0 ≤ M 17 0 ∧ M 17 0 ≤ 12 := h.2.2.2.2.2.2.2.2.2.2.2.2.2.1
theorem WFD_edge {M : Mem} (h : WFD M) {a b : Int} (e : edge M a b) : 0 ≤ b ∧ b < M 0 0 := by
  obtain ⟨h0, h1, ⟨h2, h3⟩ | ⟨k, h2, h3, h4⟩⟩ := e
  · have := h.above a h0 h1
    omega
  · have := h.face a k h0 h1 h2 h3
    rw [h4]
    exact ⟨this.1, this.2.1⟩
/-- two memories with the same description -/
def SD (M M1 : Mem) : Prop := ∀ k : Int, 0 ≤ k → k ≤ 17 → M1 k = M k
theorem SD.rf {M : Mem} : SD M M := fun _ _ _ => rfl
theorem SD.trans {M M1 M2 : Mem} (h : SD M M1) (h1 : SD M1 M2) : SD M M2 := fun k h0 h17 => (h1 k h0 h17).trans (h k h0 h17)
theorem SD_edge {M M1 : Mem} (h : SD M M1) : edge M1 = edge M := by
  funext a b
  unfold edge
  rw [h 0 (by decide) (by decide), h 3 (by decide) (by decide), h 4 (by decide) (by decide), h 5 (by decide) (by decide)]
theorem SD_WFD {M M1 : Mem} (h : SD M M1) (w : WFD M) : WFD M1 := by
  unfold WFD RT ACT at *
  rw [SD_edge h, h 0 (by decide) (by decide), h 1 (by decide) (by decide), h 3 (by decide) (by decide), h 4 (by decide) (by decide), h 5 (by decide) (by decide), h 6 (by decide) (by decide), h 7 (by decide) (by decide), h 10 (by decide) (by decide), h 11 (by decide) (by decide), h 12 (by decide) (by decide), h 13 (by decide) (by decide), h 14 (by decide) (by decide), h 15 (by decide) (by decide), h 16 (by decide) (by decide), h 17 (by decide) (by decide)]
  exact w
/-- how many of the first places hold 0 -/
def cntz (f : Int → Int) : Nat → Nat
  | 0 => 0
  | n + 1 => cntz f n + (if f n = 0 then 1 else 0)
theorem cntz_le (f : Int → Int) : ∀ n, cntz f n ≤ n := by
  intro n
  induction n with
  | zero => exact Nat.le_refl _
  | succ n ih => unfold cntz; split <;> omega
theorem cntz_congr {f g : Int → Int} : ∀ n : Nat, (∀ i : Int, 0 ≤ i → i < n → f i = g i) → cntz f n = cntz g n := by
  intro n
  induction n with
  | zero => intro _; rfl
  | succ n ih => intro h; unfold cntz; rw [ih (fun i h0 h1 => h i h0 (by omega)), h n (by omega) (by omega)]
theorem cntz_upd {f g : Int → Int} {i : Int} (hi : f i = 0) (hg : g i ≠ 0) (ho : ∀ j, j ≠ i → g j = f j) : ∀ n : Nat, 0 ≤ i → i < n → cntz g n + 1 = cntz f n := by
  intro n
  induction n with
  | zero => intro h0 h1; omega
  | succ n ih =>
    intro h0 h1
    unfold cntz
    by_cases h : i = n
    · rw [← h, if_pos hi, if_neg hg, cntz_congr (g := f) n (fun j h2 h3 => ho j (by omega))]
    · rw [ho n (by omega), ← ih h0 (by omega)]
      omega
end
section
/-- what holds as the reference goes through the ways: n places wait, a is where it began -/
def LI (M : Mem) (a n : Int) (M1 : Mem) : Prop :=
  (∀ k : Int, k ≠ 18 → k ≠ 19 → M1 k = M k) ∧ 0 ≤ n ∧ n + 5 * (cntz (M1 19) (M 0 0).toNat : Int) ≤ 201 ∧
  (∀ i : Int, 0 ≤ i → i < n → (M1 18 i < 0 ∨ (0 ≤ M1 18 i ∧ M1 18 i < M 0 0 ∧ RS M a (M1 18 i)))) ∧
  (∀ x : Int, 0 ≤ x → x < M 0 0 → M1 19 x = 1 → RS M a x) ∧
  (∀ x y : Int, 0 ≤ x → x < M 0 0 → M1 19 x = 1 → edge M x y → M1 19 y = 1 ∨ ∃ i : Int, 0 ≤ i ∧ i < n ∧ M1 18 i = y) ∧
  (M1 19 a = 1 ∨ ∃ i : Int, 0 ≤ i ∧ i < n ∧ M1 18 i = a)
theorem LI_skip {M : Mem} {a n m : Int} {M1 : Mem} (w : WFD M) (h : LI M a n M1) (ha : 0 ≤ a) (hn : 0 < n) (hm : m = n - 1) (hs : M1 18 m < 0 ∨ M1 19 (M1 18 m) = 1) : LI M a m M1 := by
  subst hm
  obtain ⟨h1, h2, h3, h4, h5, h6, h7⟩ := h
  refine ⟨h1, by omega, by omega, fun i hi hj => h4 i hi (by omega), h5, fun x y hx hy hz he => ?_, ?_⟩
  · rcases h6 x y hx hy hz he with h | ⟨i, i0, i1, i2⟩
    · exact Or.inl h
    · by_cases hi : i = n - 1
      · subst hi
        have := WFD_edge w he
        rcases hs with hs | hs
        · omega
        · rw [i2] at hs; exact Or.inl hs
      · exact Or.inr ⟨i, i0, by omega, i2⟩
  · rcases h7 with h | ⟨i, i0, i1, i2⟩
    · exact Or.inl h
    · by_cases hi : i = n - 1
      · subst hi
        rcases hs with hs | hs
        · omega
        · rw [i2] at hs; exact Or.inl hs
      · exact Or.inr ⟨i, i0, by omega, i2⟩
theorem LI_push {M : Mem} {a n t m : Int} {M1 M2 : Mem} (w : WFD M) (h : LI M a n M1) (hn : 0 < n) (hm : m = n - 1) (ht : M1 18 m = t) (h0 : 0 ≤ t) (hz : M1 19 t = 0)
    (e1 : ∀ k : Int, k ≠ 18 → k ≠ 19 → M2 k = M k) (e2 : M2 19 t = 1) (e3 : ∀ x, x ≠ t → M2 19 x = M1 19 x) (e4 : ∀ i : Int, 0 ≤ i → i < m → M2 18 i = M1 18 i) (e5 : M2 18 m = M 3 t) (e6 : ∀ j : Int, 0 ≤ j → j < M 4 t → M2 18 (n + j) = M 5 (4 * t + j)) :
    LI M a (n + M 4 t) M2 ∧ cntz (M2 19) (M 0 0).toNat + 1 = cntz (M1 19) (M 0 0).toNat := by
  subst hm
  obtain ⟨h1, h2, h3, h4, h5, h6, h7⟩ := h
  have hn0 := w.n
  obtain ⟨t0, t1, tR⟩ : 0 ≤ t ∧ t < M 0 0 ∧ RS M a t := by
    rcases h4 (n - 1) (by omega) (by omega) with h | h
    · omega
    · rw [ht] at h; exact h
  have hc := (w.cnt t t0 (by omega)).1
  have hcz := cntz_upd (f := M1 19) (g := M2 19) (i := t) hz (by rw [e2]; decide) (fun j hj => e3 j hj) (M 0 0).toNat t0 (by omega)
  have hab := w.above t t0 t1
  refine ⟨⟨e1, by omega, by omega, fun i hi hj => ?_, fun x hx hy hs => ?_, fun x y hx hy hs he => ?_, ?_⟩, hcz⟩
  · by_cases c1 : i < n - 1
    · rw [e4 i hi c1]; exact h4 i hi (by omega)
    · by_cases c2 : i = n - 1
      · subst c2
        rw [e5]
        by_cases c3 : M 3 t < 0
        · exact Or.inl c3
        · exact Or.inr ⟨by omega, by omega, tR.tail ⟨t0, t1, Or.inl ⟨rfl, by omega⟩⟩⟩
      · have hf := w.face t (i - n) t0 t1 (by omega) (by omega)
        have := e6 (i - n) (by omega) (by omega)
        rw [show n + (i - n) = i by omega] at this
        rw [this]
        exact Or.inr ⟨hf.1, hf.2.1, tR.tail ⟨t0, t1, Or.inr ⟨i - n, by omega, by omega, rfl⟩⟩⟩
  · by_cases hxt : x = t
    · rw [hxt]; exact tR
    · rw [e3 x hxt] at hs; exact h5 x hx hy hs
  · by_cases hxt : x = t
    · subst hxt
      obtain ⟨-, -, ⟨hb, hb2⟩ | ⟨k, k0, k1, k2⟩⟩ := he
      · exact Or.inr ⟨n - 1, by omega, by omega, by rw [e5, hb]⟩
      · exact Or.inr ⟨n + k, by omega, by omega, by rw [e6 k k0 k1, k2]⟩
    · rw [e3 x hxt] at hs
      by_cases hyt : y = t
      · subst hyt; exact Or.inl e2
      · rcases h6 x y hx hy hs he with h | ⟨i, i0, i1, i2⟩
        · exact Or.inl (by rw [e3 y hyt]; exact h)
        · have : i ≠ n - 1 := fun hh => hyt (by rw [← i2, hh, ht])
          exact Or.inr ⟨i, i0, by omega, by rw [e4 i i0 (by omega)]; exact i2⟩
  · by_cases hat : a = t
    · exact Or.inl (by rw [hat]; exact e2)
    · rcases h7 with h | ⟨i, i0, i1, i2⟩
      · exact Or.inl (by rw [e3 a hat]; exact h)
      · have : i ≠ n - 1 := fun hh => hat (by rw [← i2, hh, ht])
        exact Or.inr ⟨i, i0, by omega, by rw [e4 i i0 (by omega)]; exact i2⟩
theorem LI_end {M : Mem} {a b n : Int} {M1 : Mem} (w : WFD M) (h : LI M a n M1) (hn : n ≤ 0) (hb : 0 ≤ b) (hb1 : b < M 0 0) : M1 19 b = 1 ↔ RS M a b := by
  obtain ⟨h1, h2, h3, h4, h5, h6, h7⟩ := h
  refine ⟨h5 b hb hb1, fun hr => ?_⟩
  refine RS.closed (P := fun x => M1 19 x = 1) hr ?_ (fun x y hx he => ?_)
  · rcases h7 with h | ⟨i, i0, i1, -⟩
    · exact h
    · omega
  · rcases h6 x y he.1 he.2.1 hx he with h | ⟨i, i0, i1, -⟩
    · exact h
    · omega
theorem tX7_leads {Γ : GC} {αC : Sh} {C M : Mem} {a b : Int} (w : WFD M) (ha : 0 ≤ a ∧ a < M 0 0) (hb : 0 ≤ b ∧ b < M 0 0) : MM Γ yX7_leads cX7_leads 6 (some .boolean) 0 [(0, a), (0, b)] αC C M (mI fun r M1 => (∀ k : Int, k ≠ 18 → k ≠ 19 → M1 k = M k) ∧ (0 ≤ r ∧ r ≤ 1) ∧ (r = 1 ↔ (a ≠ b ∧ RS M a b))) := by
  have hn0 := w.n
  refine MM_of (k := 3) [(3, 0), (0, a), (0, b), (9, 0), (9, 0), (9, 0)] pn_X7_leads rfl rfl rfl (fun ad0 => ?_)
  have outer : ∀ (n : Int) (M1 : Mem), LI M a n M1 → V Γ (gα αC) ad0 (ZM Γ (gα αC) ad0 (mQ αC C (mI fun r M1 => (∀ k : Int, k ≠ 18 → k ≠ 19 → M1 k = M k) ∧ (0 ≤ r ∧ r ≤ 1) ∧ (r = 1 ↔ (a ≠ b ∧ RS M a b)))) 0 0) (RM 0 0 0) RX7 cX7_leads 6 (some .boolean) yX7_leads.name 32 [] [(3, 0), (0, a), (0, b), (0, n), (9, 0), (9, 0)] (gα αC) (mm M1 C) 0 0 := by
    refine loop2 _ (fun n M1 => 6 * cntz (M1 19) (M 0 0).toNat + n.toNat) _ ?_
    intro n M1 hI ih
    have fM1 := hI.1
    have fl := hI.1
    have hsz0 := hI.2.2.1
    refine V_iload_n (q := 33) dX7_leads_32 rfl rfl rfl ?_
    refine V_if_le (q := 36) (tgt := 134) dX7_leads_33 (by decide) rfl (fun c33 => ?_) (fun c33 => ?_)
    · refine V_iload_n (q := 135) dX7_leads_134 rfl rfl rfl ?_
      refine V_iload_n (q := 136) dX7_leads_135 rfl rfl rfl ?_
      refine V_icmp_eq (q := 139) (tgt := 152) dX7_leads_136 (by decide) rfl (fun c136 => ?_) (fun c136 => ?_)
      · refine V_iconst (q := 153) dX7_leads_152 rfl (by decide) ?_
        exact VM_zret dX7_leads_153 (by decide) ⟨_, rfl, fl, by decide, ⟨fun h => absurd h (by decide), fun h => absurd c136 h.1⟩⟩
      · refine V_aload_n (q := 140) dX7_leads_139 rfl rfl rfl ?_
        refine VM_getA (q := 143) 20 dX7_leads_140 rfl flX7_62 rfl rfl (Nat.succ_ne_zero _) ?_
        refine V_iload_n (q := 144) dX7_leads_143 rfl rfl rfl ?_
        refine VM_zald (q := 145) 19 dX7_leads_144 rfl rfl (by decide) rfl rfl (by omega) (fun z144 ez144 rz144 => ?_)
        refine V_if_eq (q := 148) (tgt := 152) dX7_leads_145 (by decide) rfl (fun c145 => ?_) (fun c145 => ?_)
        · refine V_iconst (q := 153) dX7_leads_152 rfl (by decide) ?_
          exact VM_zret dX7_leads_153 (by decide) ⟨_, rfl, fl, by decide, ⟨fun h => absurd h (by decide), fun h => absurd ((LI_end w hI (by omega) hb.1 hb.2).mpr h.2) (by rw [← ez144]; omega)⟩⟩
        · refine V_iconst (q := 149) dX7_leads_148 rfl (by decide) ?_
          refine V_goto (tgt := 153) dX7_leads_149 (by decide) ?_
          exact VM_zret dX7_leads_153 (by decide) ⟨_, rfl, fl, by decide, ⟨fun _ => ⟨c136, (LI_end w hI (by omega) hb.1 hb.2).mp (by rw [← ez144]; omega)⟩, fun _ => rfl⟩⟩
    · refine V_iinc (q := 39) dX7_leads_36 rfl rfl (by decide) rfl (by omega) (fun z36 lz36 ez36 hlz36 => ?_)
      obtain rfl : lz36 = [(3, 0), (0, a), (0, b), (0, z36), (9, 0), (9, 0)] := hlz36
      have hpos : 0 < n := by omega
      refine V_aload_n (q := 40) dX7_leads_39 rfl rfl rfl ?_
      refine VM_getA (q := 43) 19 dX7_leads_40 rfl flX7_59 rfl rfl (Nat.succ_ne_zero _) ?_
      refine V_iload_n (q := 44) dX7_leads_43 rfl rfl rfl ?_
      refine VM_iald (q := 45) 18 dX7_leads_44 rfl rfl (by decide) rfl rfl (by omega) (fun z44 ez44 rz44 => ?_)
      refine V_istore (q := 47) (lv1 := [(3, 0), (0, a), (0, b), (0, z36), (0, z44), (9, 0)]) dX7_leads_45 rfl (by decide) rfl rfl ?_
      have hIn := hI.2.2.2.1 z36 (by omega) (by omega)
      rw [← ez44] at hIn
      refine V_iload (q := 49) dX7_leads_47 rfl rfl ?_
      refine V_if_lt (q := 52) (tgt := 32) dX7_leads_49 (by decide) rfl (fun c49 => ?_) (fun c49 => ?_)
      · refine V_fgt [(3, 0), (0, a), (0, b), (0, z36), (9, 0), (9, 0)] ⟨Or.inl rfl, Or.inl rfl, Or.inl rfl, Or.inl rfl, Or.inr rfl, Or.inr rfl, trivial⟩ ?_
        exact ih (z36) M1 (LI_skip w hI ha.1 hpos (by omega) (Or.inl (by rw [← ez44]; exact c49))) (by omega)
      · have hlt : 0 ≤ z44 ∧ z44 < 40 := by omega
        refine V_aload_n (q := 53) dX7_leads_52 rfl rfl rfl ?_
        refine VM_getA (q := 56) 20 dX7_leads_53 rfl flX7_62 rfl rfl (Nat.succ_ne_zero _) ?_
        refine V_iload (q := 58) dX7_leads_56 rfl rfl ?_
        refine VM_zald (q := 59) 19 dX7_leads_58 rfl rfl (by decide) rfl rfl (by omega) (fun z58 ez58 rz58 => ?_)
        refine V_if_eq (q := 62) (tgt := 65) dX7_leads_59 (by decide) rfl (fun c59 => ?_) (fun c59 => ?_)
        · have t0 : 0 ≤ z44 := by omega
          have t1 : z44 < M 0 0 := by omega
          have hc4 := (w.cnt z44 t0 (by omega)).1
          have hsz := hI.2.2.1
          refine V_aload_n (q := 66) dX7_leads_65 rfl rfl rfl ?_
          refine VM_getA (q := 69) 20 dX7_leads_66 rfl flX7_62 rfl rfl (Nat.succ_ne_zero _) ?_
          refine V_iload (q := 71) dX7_leads_69 rfl rfl ?_
          refine V_iconst (q := 72) dX7_leads_71 rfl (by decide) ?_
          refine VM_zast (q := 73) 19 dX7_leads_72 rfl rfl (by decide) rfl rfl (by omega) (by omega) (fun M72 eM72 => ?_)
          have fM72 : ∀ k : Int, k ≠ 18 → k ≠ 19 → M72 k = M k := by intro k h1 h2; rw [eM72, mu_f _ _ _ _ h2]; exact fM1 k h1 h2
          refine V_aload_n (q := 74) dX7_leads_73 rfl rfl rfl ?_
          refine VM_getA (q := 77) 19 dX7_leads_74 rfl flX7_59 rfl rfl (Nat.succ_ne_zero _) ?_
          refine V_iload_n (q := 78) dX7_leads_77 rfl rfl rfl ?_
          refine V_aload_n (q := 79) dX7_leads_78 rfl rfl rfl ?_
          refine VM_getA (q := 82) 4 dX7_leads_79 rfl flX7_16 rfl rfl (Nat.succ_ne_zero _) ?_
          refine V_iload (q := 84) dX7_leads_82 rfl rfl ?_
          refine VM_iald (q := 85) 3 dX7_leads_84 rfl rfl (by decide) rfl rfl (by omega) (fun z84 ez84 rz84 => ?_)
          rw [fM72 3 (by decide) (by decide)] at ez84
          refine VM_iast (q := 86) 18 dX7_leads_85 rfl rfl (by decide) rfl rfl (by omega) (fun M85 eM85 => ?_)
          have fM85 : ∀ k : Int, k ≠ 18 → k ≠ 19 → M85 k = M k := by intro k h1 h2; rw [eM85, mu_f _ _ _ _ h1]; exact fM72 k h1 h2
          refine V_iinc (q := 89) dX7_leads_86 rfl rfl (by decide) rfl (by omega) (fun z86 lz86 ez86 hlz86 => ?_)
          obtain rfl : lz86 = [(3, 0), (0, a), (0, b), (0, z86), (0, z44), (9, 0)] := hlz86
          refine V_iconst (q := 90) dX7_leads_89 rfl (by decide) ?_
          refine V_istore (q := 92) (lv1 := [(3, 0), (0, a), (0, b), (0, z86), (0, z44), (0, 0)]) dX7_leads_90 rfl (by decide) rfl rfl ?_
          have inner : ∀ (k n1 : Int) (M2 : Mem), (0 ≤ k ∧ k ≤ M 4 z44 ∧ n1 = n + k ∧ (∀ k : Int, k ≠ 18 → k ≠ 19 → M2 k = M k) ∧ M2 19 z44 = 1 ∧ (∀ x, x ≠ z44 → M2 19 x = M1 19 x) ∧ (∀ i : Int, 0 ≤ i → i < z36 → M2 18 i = M1 18 i) ∧ M2 18 z36 = M 3 z44 ∧ (∀ j : Int, 0 ≤ j → j < k → M2 18 (n + j) = M 5 (4 * z44 + j))) → V Γ (gα αC) ad0 (ZM Γ (gα αC) ad0 (mQ αC C (mI fun r M1 => (∀ k : Int, k ≠ 18 → k ≠ 19 → M1 k = M k) ∧ (0 ≤ r ∧ r ≤ 1) ∧ (r = 1 ↔ (a ≠ b ∧ RS M a b)))) 0 0) (RM 0 0 0) RX7 cX7_leads 6 (some .boolean) yX7_leads.name 92 [] [(3, 0), (0, a), (0, b), (0, n1), (0, z44), (0, k)] (gα αC) (mm M2 C) 0 0 := by
            refine loop3 _ (fun k _ _ => (M 4 z44 - k).toNat) _ ?_
            rintro k n1 M2 ⟨j0, j1, jn, j2, j3, j4, j5, j6, j7⟩ ih2
            have fM2 := j2
            refine V_iload (q := 94) dX7_leads_92 rfl rfl ?_
            refine V_aload_n (q := 95) dX7_leads_94 rfl rfl rfl ?_
            refine VM_getA (q := 98) 5 dX7_leads_95 rfl flX7_20 rfl rfl (Nat.succ_ne_zero _) ?_
            refine V_iload (q := 100) dX7_leads_98 rfl rfl ?_
            refine VM_iald (q := 101) 4 dX7_leads_100 rfl rfl (by decide) rfl rfl (by omega) (fun z100 ez100 rz100 => ?_)
            rw [fM2 4 (by decide) (by decide)] at ez100
            refine V_icmp_ge (q := 104) (tgt := 131) dX7_leads_101 (by decide) rfl (fun c101 => ?_) (fun c101 => ?_)
            · refine V_goto (tgt := 32) dX7_leads_131 (by decide) ?_
              refine V_fgt [(3, 0), (0, a), (0, b), (0, n1), (9, 0), (9, 0)] ⟨Or.inl rfl, Or.inl rfl, Or.inl rfl, Or.inl rfl, Or.inr rfl, Or.inr rfl, trivial⟩ ?_
              obtain ⟨hL, hcz⟩ := LI_push w hI hpos (show z36 = n - 1 by omega) ez44.symm t0 (by rw [← ez58]; exact c59) j2 j3 j4 j5 j6 (by rw [show k = M 4 z44 by omega] at j7; exact j7)
              exact ih n1 M2 (by rw [show n1 = n + M 4 z44 by omega]; exact hL) (by omega)
            · refine V_aload_n (q := 105) dX7_leads_104 rfl rfl rfl ?_
              refine VM_getA (q := 108) 19 dX7_leads_105 rfl flX7_59 rfl rfl (Nat.succ_ne_zero _) ?_
              refine V_iload_n (q := 109) dX7_leads_108 rfl rfl rfl ?_
              refine V_aload_n (q := 110) dX7_leads_109 rfl rfl rfl ?_
              have hfc := w.face z44 k t0 t1 (by omega) (by omega)
              refine VM_getA (q := 113) 6 dX7_leads_110 rfl flX7_23 rfl rfl (Nat.succ_ne_zero _) ?_
              refine V_iconst (q := 114) dX7_leads_113 rfl (by decide) ?_
              refine V_iload (q := 116) dX7_leads_114 rfl rfl ?_
              refine V_imul (q := 117) dX7_leads_116 rfl (by omega) (fun z116 ez116 => ?_)
              refine V_iload (q := 119) dX7_leads_117 rfl rfl ?_
              refine V_iadd (q := 120) dX7_leads_119 rfl (by omega) (fun z119 ez119 => ?_)
              refine VM_iald (q := 121) 5 dX7_leads_120 rfl rfl (by decide) rfl rfl (by omega) (fun z120 ez120 rz120 => ?_)
              rw [fM2 5 (by decide) (by decide)] at ez120
              refine VM_iast (q := 122) 18 dX7_leads_121 rfl rfl (by decide) rfl rfl (by omega) (fun M121 eM121 => ?_)
              have fM121 : ∀ k : Int, k ≠ 18 → k ≠ 19 → M121 k = M k := by intro k h1 h2; rw [eM121, mu_f _ _ _ _ h1]; exact fM2 k h1 h2
              refine V_iinc (q := 125) dX7_leads_122 rfl rfl (by decide) rfl (by omega) (fun z122 lz122 ez122 hlz122 => ?_)
              obtain rfl : lz122 = [(3, 0), (0, a), (0, b), (0, z122), (0, z44), (0, k)] := hlz122
              refine V_iinc (q := 128) dX7_leads_125 rfl rfl (by decide) rfl (by omega) (fun z125 lz125 ez125 hlz125 => ?_)
              obtain rfl : lz125 = [(3, 0), (0, a), (0, b), (0, z122), (0, z44), (0, z125)] := hlz125
              refine V_goto (tgt := 92) dX7_leads_128 (by decide) ?_
              exact ih2 (z125) (z122) M121 ⟨by omega, by omega, by omega, fM121, by { rw [eM121, mu_f _ _ _ _ (by decide)]; exact j3 }, fun x hx => by { rw [eM121, mu_f _ _ _ _ (by decide)]; exact j4 x hx }, fun i i0 i1 => by { rw [eM121, mu_i _ _ _ _ (by omega)]; exact j5 i i0 i1 }, by { rw [eM121, mu_i _ _ _ _ (by omega)]; exact j6 }, fun j j0 jl => by { rw [eM121]; by_cases hj : j = k; { rw [hj, show n + k = n1 by omega, mu_s, ez120, show z119 = 4 * z44 + k by omega] }; { rw [mu_i _ _ _ _ (by omega)]; exact j7 j j0 (by omega) } }⟩ (by omega)
          exact inner (0) (z86) M85 ⟨by omega, by omega, by omega, fM85, by { rw [eM85, mu_f _ _ _ _ (by decide), eM72, mu_s] }, fun x hx => by { rw [eM85, mu_f _ _ _ _ (by decide), eM72, mu_i _ _ _ _ hx] }, fun i i0 i1 => by { rw [eM85, mu_i _ _ _ _ (by omega), eM72, mu_f _ _ _ _ (by decide)] }, by { rw [eM85, mu_s, ez84] }, fun j j0 j1 => absurd j1 (by omega)⟩
        · refine V_goto (tgt := 32) dX7_leads_62 (by decide) ?_
          refine V_fgt [(3, 0), (0, a), (0, b), (0, z36), (9, 0), (9, 0)] ⟨Or.inl rfl, Or.inl rfl, Or.inl rfl, Or.inl rfl, Or.inr rfl, Or.inr rfl, trivial⟩ ?_
          exact ih (z36) M1 (LI_skip w hI ha.1 hpos (by omega) (Or.inr (by rw [← ez44, ← ez58]; omega))) (by omega)
  have clr : ∀ (t : Int) (M1 : Mem), (0 ≤ t ∧ t ≤ M 0 0 ∧ (∀ k : Int, k ≠ 18 → k ≠ 19 → M1 k = M k) ∧ (∀ i : Int, 0 ≤ i → i < t → M1 19 i = 0)) → V Γ (gα αC) ad0 (ZM Γ (gα αC) ad0 (mQ αC C (mI fun r M1 => (∀ k : Int, k ≠ 18 → k ≠ 19 → M1 k = M k) ∧ (0 ≤ r ∧ r ≤ 1) ∧ (r = 1 ↔ (a ≠ b ∧ RS M a b)))) 0 0) (RM 0 0 0) RX7 cX7_leads 6 (some .boolean) yX7_leads.name 2 [] [(3, 0), (0, a), (0, b), (0, t), (9, 0), (9, 0)] (gα αC) (mm M1 C) 0 0 := by
    refine loop2 _ (fun t _ => (M 0 0 - t).toNat) _ ?_
    rintro t M1 ⟨g1, g2, g3, g4⟩ ih
    have fM1 := g3
    refine V_iload_n (q := 3) dX7_leads_2 rfl rfl rfl ?_
    refine V_aload_n (q := 4) dX7_leads_3 rfl rfl rfl ?_
    refine VM_getI (q := 7) 0 dX7_leads_4 rfl flX7_128 rfl rfl rfl (fun z4 ez4 rz4 => ?_)
    rw [fM1 0 (by decide) (by decide)] at ez4
    refine V_icmp_ge (q := 10) (tgt := 23) dX7_leads_7 (by decide) rfl (fun c7 => ?_) (fun c7 => ?_)
    · refine V_iconst (q := 24) dX7_leads_23 rfl (by decide) ?_
      refine V_istore_n (q := 25) (lv1 := [(3, 0), (0, a), (0, b), (0, 1), (9, 0), (9, 0)]) dX7_leads_24 rfl rfl (by decide) rfl rfl ?_
      refine V_aload_n (q := 26) dX7_leads_25 rfl rfl rfl ?_
      refine VM_getA (q := 29) 19 dX7_leads_26 rfl flX7_59 rfl rfl (Nat.succ_ne_zero _) ?_
      refine V_iconst (q := 30) dX7_leads_29 rfl (by decide) ?_
      refine V_iload_n (q := 31) dX7_leads_30 rfl rfl rfl ?_
      refine VM_iast (q := 32) 18 dX7_leads_31 rfl rfl (by decide) rfl rfl (by omega) (fun M31 eM31 => ?_)
      have fM31 : ∀ k : Int, k ≠ 18 → k ≠ 19 → M31 k = M k := by intro k h1 h2; rw [eM31, mu_f _ _ _ _ h1]; exact fM1 k h1 h2
      exact outer (1) M31 ⟨fM31, by decide, by { have := cntz_le (M31 19) (M 0 0).toNat; omega }, fun i h0 h1 => by { rw [show i = 0 by omega, eM31, mu_s]; exact Or.inr ⟨ha.1, ha.2, Or.inl rfl⟩ }, fun x h0 h1 h2 => by { rw [eM31, mu_f _ _ _ _ (by decide), g4 x h0 (by omega)] at h2; exact absurd h2 (by decide) }, fun x y h0 h1 h2 _ => by { rw [eM31, mu_f _ _ _ _ (by decide), g4 x h0 (by omega)] at h2; exact absurd h2 (by decide) }, Or.inr ⟨0, by decide, by decide, by { rw [eM31, mu_s] }⟩⟩
    · refine V_aload_n (q := 11) dX7_leads_10 rfl rfl rfl ?_
      refine VM_getA (q := 14) 20 dX7_leads_11 rfl flX7_62 rfl rfl (Nat.succ_ne_zero _) ?_
      refine V_iload_n (q := 15) dX7_leads_14 rfl rfl rfl ?_
      refine V_iconst (q := 16) dX7_leads_15 rfl (by decide) ?_
      refine VM_zast (q := 17) 19 dX7_leads_16 rfl rfl (by decide) rfl rfl (by omega) (by omega) (fun M16 eM16 => ?_)
      have fM16 : ∀ k : Int, k ≠ 18 → k ≠ 19 → M16 k = M k := by intro k h1 h2; rw [eM16, mu_f _ _ _ _ h2]; exact fM1 k h1 h2
      refine V_iinc (q := 20) dX7_leads_17 rfl rfl (by decide) rfl (by omega) (fun z17 lz17 ez17 hlz17 => ?_)
      obtain rfl : lz17 = [(3, 0), (0, a), (0, b), (0, z17), (9, 0), (9, 0)] := hlz17
      refine V_goto (tgt := 2) dX7_leads_20 (by decide) ?_
      exact ih (z17) M16 ⟨by omega, by omega, fM16, fun i h0 h1 => by { rw [eM16]; by_cases hi : i = t; { rw [hi, mu_s] }; { rw [mu_i _ _ _ _ hi]; exact g4 i h0 (by omega) } }⟩ (by omega)
  refine V_iconst (q := 1) dX7_leads_0 rfl (by decide) ?_
  refine V_istore_n (q := 2) (lv1 := [(3, 0), (0, a), (0, b), (0, 0), (9, 0), (9, 0)]) dX7_leads_1 rfl rfl (by decide) rfl rfl ?_
  exact clr 0 M ⟨by decide, hn0.1, fun _ _ _ => rfl, fun i h0 h1 => absurd h1 (by omega)⟩
end
section
/-! WHAT IS FOUND: by the ways down, each first of all faces, then the one above -/
noncomputable def cntP (p : Int → Prop) : Nat → Nat
  | 0 => 0
  | n + 1 => cntP p n + @ite Nat (p n) (Classical.propDecidable _) 1 0
theorem cntP_le (p : Int → Prop) : ∀ n, cntP p n ≤ n := by
  intro n
  induction n with
  | zero => exact Nat.le_refl _
  | succ n ih => unfold cntP; split <;> omega
theorem cntP_mono {p r : Int → Prop} : ∀ n : Nat, (∀ i : Int, 0 ≤ i → i < n → p i → r i) → cntP p n ≤ cntP r n := by
  intro n
  induction n with
  | zero => intro _; exact Nat.le_refl _
  | succ n ih =>
    intro h
    have h1 := ih (fun i h0 h1 => h i h0 (by omega))
    unfold cntP
    by_cases hp : p n
    · rw [if_pos hp, if_pos (h n (by omega) (by omega) hp)]; omega
    · rw [if_neg hp]; omega
theorem cntP_lt {p r : Int → Prop} {j : Int} (hj : ¬ p j) (hr : r j) : ∀ n : Nat, (∀ i : Int, 0 ≤ i → i < n → p i → r i) → 0 ≤ j → j < n → cntP p n < cntP r n := by
  intro n
  induction n with
  | zero => intro _ h0 h1; omega
  | succ n ih =>
    intro h h0 h1
    unfold cntP
    by_cases hjn : j = n
    · rw [← hjn, if_neg hj, if_pos hr]
      have := cntP_mono (p := p) (r := r) n (fun i h2 h3 => h i h2 (by omega))
      omega
    · have h2 := ih (fun i h2 h3 => h i h2 (by omega)) h0 (by omega)
      by_cases hp : p n
      · rw [if_pos hp, if_pos (h n (by omega) (by omega) hp)]; omega
      · rw [if_neg hp]; omega
/-- how many a type leads to: less than its own for each that it leads to -/
noncomputable def rk (M : Mem) (t : Int) : Nat := cntP (RT M t) (M 0 0).toNat
theorem rk_edge {M : Mem} (w : WFD M) {a b : Int} (e : edge M a b) : rk M b < rk M a := by
  have hb := WFD_edge w e
  exact cntP_lt (j := b) (w.acyc b) (.single e) _ (fun i _ _ h => RT.RS_l (Or.inr (.single e)) h) hb.1 (by omega)
theorem rk_lt {M : Mem} (w : WFD M) {a : Int} (h0 : 0 ≤ a) (h1 : a < M 0 0) : rk M a < 40 := by
  have hn := w.n
  have h := cntP_lt (p := RT M a) (r := fun _ => True) (j := a) (w.acyc a) trivial (M 0 0).toNat (fun _ _ _ _ => trivial) h0 (by omega)
  have := cntP_le (fun _ => True) (M 0 0).toNat
  unfold rk
  omega
def FC (g : Int → Int) (M : Mem) (t : Int) : Nat → Int
  | 0 => if M 3 t < 0 then -6 else g (M 3 t)
  | j + 1 => if 0 ≤ g (M 5 (4 * t + (M 4 t - 1 - j))) then g (M 5 (4 * t + (M 4 t - 1 - j))) else FC g M t j
def ffd (M : Mem) (nm : Int) : Nat → Int → Int
  | 0, _ => -6
  | h + 1, t => if t < 0 then -6 else if 0 ≤ pF M t nm then pF M t nm else FC (ffd M nm h) M t (M 4 t).toNat
/-- the place of the field that is found; -6: none -/
def FF (M : Mem) (nm t : Int) : Int := ffd M nm 41 t
theorem FC_congr {g g1 : Int → Int} {M : Mem} {t : Int} (h0 : 0 ≤ t) (h1 : t < M 0 0) (h : ∀ u, edge M t u → g u = g1 u) : ∀ j : Nat, j ≤ (M 4 t).toNat → FC g M t j = FC g1 M t j := by
  intro j
  induction j with
  | zero =>
    intro _
    unfold FC
    split
    · rfl
    · exact h _ ⟨h0, h1, Or.inl ⟨rfl, by omega⟩⟩
  | succ j ih =>
    intro hj
    unfold FC
    rw [ih (by omega), h _ ⟨h0, h1, Or.inr ⟨M 4 t - 1 - j, by omega, by omega, rfl⟩⟩]
theorem ffd_st {M : Mem} (w : WFD M) (nm : Int) : ∀ (h h1 : Nat) (t : Int), 0 ≤ t → t < M 0 0 → rk M t < h → rk M t < h1 → ffd M nm h t = ffd M nm h1 t := by
  intro h
  induction h with
  | zero => intro h1 t _ _ hh; omega
  | succ h ih =>
    intro h1 t t0 t1 hh hh1
    cases h1 with
    | zero => omega
    | succ h1 =>
      unfold ffd
      rw [FC_congr t0 t1 (fun u hu => ?_) _ (Nat.le_refl _)]
      have := WFD_edge w hu
      have := rk_edge w hu
      exact ih h1 u (by omega) (by omega) (by omega) (by omega)
theorem FF_eq {M : Mem} (w : WFD M) (nm : Int) {t : Int} (t0 : 0 ≤ t) (t1 : t < M 0 0) : FF M nm t = if 0 ≤ pF M t nm then pF M t nm else FC (FF M nm) M t (M 4 t).toNat := by
  unfold FF
  conv => lhs; unfold ffd
  rw [if_neg (by omega), FC_congr t0 t1 (fun u hu => ?_) _ (Nat.le_refl _)]
  have h1 := WFD_edge w hu
  have h2 := rk_edge w hu
  have h3 := rk_lt w t0 t1
  exact ffd_st w nm 40 41 u h1.1 h1.2 (by omega) (by omega)
theorem FF_neg {M : Mem} {nm t : Int} (h : t < 0) : FF M nm t = -6 := by
  unfold FF ffd
  rw [if_pos h]
theorem FC_rng {g : Int → Int} {P : Int → Prop} {M : Mem} {t : Int} (h : ∀ u, g u = -6 ∨ (0 ≤ g u ∧ P (g u))) : ∀ j : Nat, FC g M t j = -6 ∨ (0 ≤ FC g M t j ∧ P (FC g M t j)) := by
  intro j
  induction j with
  | zero =>
    unfold FC
    split
    · exact Or.inl rfl
    · exact h _
  | succ j ih =>
    unfold FC
    split
    · rename_i h1
      rcases h (M 5 (4 * t + (M 4 t - 1 - j))) with h2 | h2
      · omega
      · exact Or.inr h2
    · exact ih
theorem ffd_rng {M : Mem} {nm : Int} : ∀ (h : Nat) (t : Int), ffd M nm h t = -6 ∨ (0 ≤ ffd M nm h t ∧ ∃ u, ffd M nm h t = pF M u nm ∧ 0 ≤ u) := by
  intro h
  induction h with
  | zero => intro t; exact Or.inl rfl
  | succ h ih =>
    intro t
    unfold ffd
    split
    · exact Or.inl rfl
    · split
      · rename_i h1 h2
        exact Or.inr ⟨h2, t, rfl, by omega⟩
      · exact FC_rng (P := fun z => ∃ u, z = pF M u nm ∧ 0 ≤ u) ih _
/-- the first that answers, of m places of a row from s on, the last place first -/
def FS (g : Int → Int) (W : Int → Int) (s : Int) : Nat → Int
  | 0 => -6
  | m + 1 => if 0 ≤ g (W (s + m)) then g (W (s + m)) else FS g W s m
theorem FS_s (g W : Int → Int) (s : Int) (m : Nat) : FS g W s (m + 1) = if 0 ≤ g (W (s + m)) then g (W (s + m)) else FS g W s m := rfl
theorem FS_congr {g W W1 : Int → Int} {s : Int} : ∀ m : Nat, (∀ i : Int, s ≤ i → i < s + m → W i = W1 i) → FS g W s m = FS g W1 s m := by
  intro m
  induction m with
  | zero => intro _; rfl
  | succ m ih => intro h; unfold FS; rw [ih (fun i h0 h1 => h i h0 (by omega)), h (s + m) (by omega) (by omega)]
theorem FS_app {g W : Int → Int} {s : Int} (a : Nat) : ∀ b : Nat, FS g W s (a + b) = if 0 ≤ FS g W (s + a) b then FS g W (s + a) b else FS g W s a := by
  intro b
  induction b with
  | zero => show FS g W s a = if 0 ≤ (-6 : Int) then _ else _; rw [if_neg (by decide)]
  | succ b ih =>
    show FS g W s (a + b + 1) = _
    rw [FS_s g W s (a + b), FS_s g W (s + a) b, show s + ((a + b : Nat) : Int) = s + a + b by omega]
    by_cases h : 0 ≤ g (W (s + a + b))
    · rw [if_pos h, if_pos h, if_pos h]
    · rw [if_neg h, if_neg h, ih]
theorem FS_FC {g W : Int → Int} {M : Mem} {t p : Int} (hg : ∀ u, u < 0 → g u = -6) (h1 : ∀ u, g u = -6 ∨ 0 ≤ g u) (hp : W p = M 3 t) : ∀ j : Nat, (∀ i : Int, 0 ≤ i → i < j → W (p + 1 + i) = M 5 (4 * t + (M 4 t - 1 - i))) → FS g W p (j + 1) = FC g M t j := by
  intro j
  induction j with
  | zero =>
    intro _
    unfold FS FC
    rw [show p + ((0 : Nat) : Int) = p by omega, hp]
    by_cases h : M 3 t < 0
    · rw [if_pos h, if_neg (by rw [hg _ h]; decide)]; rfl
    · rw [if_neg h]
      rcases h1 (M 3 t) with h2 | h2
      · rw [if_neg (by omega), h2]; rfl
      · rw [if_pos h2]
  | succ j ih =>
    intro h
    have hh := h j (by omega) (by omega)
    have := ih (fun i i0 i1 => h i i0 (by omega))
    unfold FS FC
    rw [show p + ((j + 1 : Nat) : Int) = p + 1 + j by omega, hh, this]
theorem pF_congr {M M1 : Mem} (h6 : M1 6 = M 6) (h7 : M1 7 = M 7) (t nm : Int) : pF M1 t nm = pF M t nm := by
  unfold pF oF
  rw [h6, h7]
/-- what holds as the reference looks for a field by a name, of type a, with n places waiting -/
def FI (M : Mem) (nm a n : Int) (M1 : Mem) : Prop :=
  (∀ k : Int, k ≠ 18 → k ≠ 19 → M1 k = M k) ∧ 0 ≤ n ∧ n + 5 * (cntz (M1 19) (M 0 0).toNat : Int) ≤ 201 ∧
  (∀ i : Int, 0 ≤ i → i < n → (M1 18 i < 0 ∨ (0 ≤ M1 18 i ∧ M1 18 i < M 0 0))) ∧
  FS (FF M nm) (M1 18) 0 n.toNat = FF M nm a ∧
  (∀ x : Int, 0 ≤ x → x < M 0 0 → M1 19 x = 1 → FF M nm x = -6 ∨ ∃ s : Int, 0 ≤ s ∧ s ≤ n ∧ (∀ i : Int, s ≤ i → i < n → M1 18 i < 0 ∨ RT M x (M1 18 i)) ∧ FS (FF M nm) (M1 18) s (n - s).toNat = FF M nm x)
theorem FI_drop {M : Mem} {nm a n m : Int} {M1 : Mem} (h : FI M nm a n M1) (hn : 0 < n) (hm : m = n - 1) (hg : FF M nm (M1 18 m) = -6) : FI M nm a m M1 := by
  subst hm
  obtain ⟨h1, h2, h3, h4, h5, h6⟩ := h
  have hd : ∀ s : Int, 0 ≤ s → s ≤ n - 1 → FS (FF M nm) (M1 18) s (n - s).toNat = FS (FF M nm) (M1 18) s (n - 1 - s).toNat := by
    intro s s0 s1
    rw [show (n - s).toNat = (n - 1 - s).toNat + 1 by omega]
    conv => lhs; unfold FS
    rw [show s + (((n - 1 - s).toNat : Nat) : Int) = n - 1 by omega, hg, if_neg (by decide)]
  refine ⟨h1, by omega, by omega, fun i i0 i1 => h4 i i0 (by omega), ?_, fun x x0 x1 xs => ?_⟩
  · rw [← h5]
    have := hd 0 (by omega) (by omega)
    rw [show n - 0 = n by omega, show n - 1 - 0 = n - 1 by omega] at this
    exact this.symm
  · rcases h6 x x0 x1 xs with h | ⟨s, s0, s1, s2, s3⟩
    · exact Or.inl h
    · by_cases hs : s = n
      · subst hs
        rw [show (s - s).toNat = 0 by omega] at s3
        exact Or.inl s3.symm
      · exact Or.inr ⟨s, s0, by omega, fun i i0 i1 => s2 i i0 (by omega), by rw [← hd s s0 (by omega)]; exact s3⟩
theorem FI_seen {M : Mem} {nm a n m : Int} {M1 : Mem} (w : WFD M) (h : FI M nm a n M1) (hn : 0 < n) (hm : m = n - 1) (h0 : 0 ≤ M1 18 m) (hs : M1 19 (M1 18 m) = 1) : FF M nm (M1 18 m) = -6 := by
  subst hm
  obtain ⟨h1, h2, h3, h4, h5, h6⟩ := h
  have ht := h4 (n - 1) (by omega) (by omega)
  rcases h6 (M1 18 (n - 1)) h0 (by omega) hs with h | ⟨s, s0, s1, s2, s3⟩
  · exact h
  · by_cases hsn : s = n
    · subst hsn
      rw [show (s - s).toNat = 0 by omega] at s3
      exact s3.symm
    · rcases s2 (n - 1) (by omega) (by omega) with h7 | h7
      · omega
      · exact absurd h7 (w.acyc _)
theorem FI_own {M : Mem} {nm a n m t : Int} {M1 : Mem} (w : WFD M) (h : FI M nm a n M1) (hn : 0 < n) (hm : m = n - 1) (ht : M1 18 m = t) (h0 : 0 ≤ t) (h1 : t < M 0 0) (hp : 0 ≤ pF M t nm) : pF M t nm = FF M nm a := by
  subst hm
  obtain ⟨-, -, -, -, h5, -⟩ := h
  rw [← h5, show n.toNat = (n - 1).toNat + 1 by omega]
  unfold FS
  rw [show (0 : Int) + (((n - 1).toNat : Nat) : Int) = n - 1 by omega, ht, FF_eq w nm h0 h1, if_pos hp, if_pos hp]
theorem FI_push {M : Mem} {nm a n t m : Int} {M1 M2 : Mem} (w : WFD M) (h : FI M nm a n M1) (hn : 0 < n) (hm : m = n - 1) (ht : M1 18 m = t) (h0 : 0 ≤ t) (t1 : t < M 0 0) (hz : M1 19 t = 0) (hp : pF M t nm < 0)
    (e1 : ∀ k : Int, k ≠ 18 → k ≠ 19 → M2 k = M k) (e2 : M2 19 t = 1) (e3 : ∀ x, x ≠ t → M2 19 x = M1 19 x) (e4 : ∀ i : Int, 0 ≤ i → i < m → M2 18 i = M1 18 i) (e5 : M2 18 m = M 3 t) (e6 : ∀ j : Int, 0 ≤ j → j < M 4 t → M2 18 (n + j) = M 5 (4 * t + (M 4 t - 1 - j))) :
    FI M nm a (n + M 4 t) M2 ∧ cntz (M2 19) (M 0 0).toNat + 1 = cntz (M1 19) (M 0 0).toNat := by
  subst hm
  obtain ⟨h1, h2, h3, h4, h5, h6⟩ := h
  have hn0 := w.n
  have hc := (w.cnt t h0 (by omega)).1
  have hcz := cntz_upd (f := M1 19) (g := M2 19) (i := t) hz (by rw [e2]; decide) (fun j hj => e3 j hj) (M 0 0).toNat h0 (by omega)
  have hab := w.above t h0 t1
  have hgr : ∀ u, FF M nm u = -6 ∨ 0 ≤ FF M nm u := fun u => (ffd_rng 41 u).imp id (fun h => h.1)
  have htop : FS (FF M nm) (M2 18) (n - 1) ((M 4 t).toNat + 1) = FF M nm t := by
    rw [FS_FC (fun u hu => FF_neg hu) hgr e5 (M 4 t).toNat (fun i i0 i1 => by rw [show n - 1 + 1 + i = n + i by omega]; exact e6 i i0 (by omega)), FF_eq w nm h0 t1, if_neg (by omega)]
  have hseg : ∀ s : Int, 0 ≤ s → s ≤ n - 1 → FS (FF M nm) (M2 18) s (n + M 4 t - s).toNat = FS (FF M nm) (M1 18) s (n - s).toNat := by
    intro s s0 s1
    rw [show (n + M 4 t - s).toNat = (n - 1 - s).toNat + ((M 4 t).toNat + 1) by omega, FS_app, show s + (((n - 1 - s).toNat : Nat) : Int) = n - 1 by omega, htop, show (n - s).toNat = (n - 1 - s).toNat + 1 by omega]
    conv => rhs; unfold FS
    rw [show s + (((n - 1 - s).toNat : Nat) : Int) = n - 1 by omega, ht, FS_congr (W1 := M1 18) _ (fun i i0 i1 => e4 i (by omega) (by omega))]
  refine ⟨⟨e1, by omega, by omega, fun i i0 i1 => ?_, ?_, fun x x0 x1 xs => ?_⟩, hcz⟩
  · by_cases c1 : i < n - 1
    · rw [e4 i i0 c1]; exact h4 i i0 (by omega)
    · by_cases c2 : i = n - 1
      · subst c2; rw [e5]; omega
      · have hf := w.face t (M 4 t - 1 - (i - n)) h0 t1 (by omega) (by omega)
        have := e6 (i - n) (by omega) (by omega)
        rw [show n + (i - n) = i by omega] at this
        rw [this]
        exact Or.inr ⟨hf.1, hf.2.1⟩
  · have := hseg 0 (by omega) (by omega)
    rw [show n + M 4 t - 0 = n + M 4 t by omega, show n - 0 = n by omega] at this
    rw [this, h5]
  · by_cases hxt : x = t
    · subst hxt
      refine Or.inr ⟨n - 1, by omega, by omega, fun i i0 i1 => ?_, ?_⟩
      · by_cases c2 : i = n - 1
        · subst c2
          rw [e5]
          by_cases c3 : M 3 x < 0
          · exact Or.inl c3
          · exact Or.inr (.single ⟨h0, t1, Or.inl ⟨rfl, by omega⟩⟩)
        · have := e6 (i - n) (by omega) (by omega)
          rw [show n + (i - n) = i by omega] at this
          rw [this]
          exact Or.inr (.single ⟨h0, t1, Or.inr ⟨M 4 x - 1 - (i - n), by omega, by omega, rfl⟩⟩)
      · rw [show (n + M 4 x - (n - 1)).toNat = (M 4 x).toNat + 1 by omega]; exact htop
    · rw [e3 x hxt] at xs
      rcases h6 x x0 x1 xs with h | ⟨s, s0, s1, s2, s3⟩
      · exact Or.inl h
      · by_cases hs : s = n
        · subst hs
          rw [show (s - s).toNat = 0 by omega] at s3
          exact Or.inl s3.symm
        · refine Or.inr ⟨s, s0, by omega, fun i i0 i1 => ?_, by rw [hseg s s0 (by omega)]; exact s3⟩
          have htx : RT M x t := by
            rcases s2 (n - 1) (by omega) (by omega) with h7 | h7
            · omega
            · rw [ht] at h7; exact h7
          by_cases c1 : i < n - 1
          · rw [e4 i (by omega) c1]; exact s2 i i0 (by omega)
          · by_cases c2 : i = n - 1
            · subst c2
              rw [e5]
              by_cases c3 : M 3 t < 0
              · exact Or.inl c3
              · exact Or.inr (.tail htx ⟨h0, t1, Or.inl ⟨rfl, by omega⟩⟩)
            · have := e6 (i - n) (by omega) (by omega)
              rw [show n + (i - n) = i by omega] at this
              rw [this]
              exact Or.inr (.tail htx ⟨h0, t1, Or.inr ⟨M 4 t - 1 - (i - n), by omega, by omega, rfl⟩⟩)
theorem FI_end {M : Mem} {nm a n : Int} {M1 : Mem} (h : FI M nm a n M1) (hn : n ≤ 0) : FF M nm a = -6 := by
  obtain ⟨h1, h2, h3, h4, h5, h6⟩ := h
  rw [← h5, show n.toNat = 0 by omega]
  rfl
end
section
theorem FI_init {M : Mem} {nm a : Int} {M1 : Mem} (w : WFD M) (f : ∀ k : Int, k ≠ 18 → k ≠ 19 → M1 k = M k) (h0 : M1 18 0 = a) (ha : 0 ≤ a ∧ a < M 0 0) (hz : ∀ i : Int, 0 ≤ i → i < M 0 0 → M1 19 i = 0) : FI M nm a 1 M1 := by
  have hn := w.n
  have hl := cntz_le (M1 19) (M 0 0).toNat
  refine ⟨f, by decide, by omega, fun i i0 i1 => ?_, ?_, fun x x0 x1 xs => ?_⟩
  · rw [show i = 0 by omega, h0]; exact Or.inr ha
  · show (if 0 ≤ FF M nm (M1 18 (0 + ((0 : Nat) : Int))) then FF M nm (M1 18 (0 + ((0 : Nat) : Int))) else -6) = _
    rw [show (0 : Int) + ((0 : Nat) : Int) = 0 from rfl, h0]
    rcases ffd_rng (M := M) (nm := nm) 41 a with h | h
    · rw [show FF M nm a = -6 from h, if_neg (by decide)]
    · rw [if_pos (show 0 ≤ FF M nm a from h.1)]
  · rw [hz x x0 x1] at xs; exact absurd xs (by decide)
theorem tX7_findField {Γ : GC} {αC : Sh} {C M : Mem} {a nm : Int} (w : WFD M) (ha : 0 ≤ a ∧ a < M 0 0) : MM Γ yX7_findField cX7_findField 7 (some .int) 1 [(0, a), (0, nm)] αC C M (mI fun r M1 => (∀ k : Int, k ≠ 18 → k ≠ 19 → M1 k = M k) ∧ r = FF M nm a) := by
  have hn0 := w.n
  refine MM_of (k := 4) [(3, 0), (0, a), (0, nm), (9, 0), (9, 0), (9, 0), (9, 0)] pn_X7_findField rfl rfl rfl (fun ad0 => ?_)
  have outer : ∀ (n : Int) (M1 : Mem), FI M nm a n M1 → V Γ (gα αC) ad0 (ZM Γ (gα αC) ad0 (mQ αC C (mI fun r M1 => (∀ k : Int, k ≠ 18 → k ≠ 19 → M1 k = M k) ∧ r = FF M nm a)) 0 0) (RM 1 0 0) RX7 cX7_findField 7 (some .int) yX7_findField.name 35 [] [(3, 0), (0, a), (0, nm), (0, n), (9, 0), (9, 0), (9, 0)] (gα αC) (mm M1 C) 0 0 := by
    refine loop2 _ (fun n M1 => 6 * cntz (M1 19) (M 0 0).toNat + n.toNat) _ ?_
    intro n M1 hI ih
    have fM1 := hI.1
    have hsz := hI.2.2.1
    refine V_iload_n (q := 36) dX7_findField_35 rfl rfl rfl ?_
    refine V_if_le (q := 39) (tgt := 155) dX7_findField_36 (by decide) rfl (fun c36 => ?_) (fun c36 => ?_)
    · refine V_bipush (q := 157) dX7_findField_155 rfl (by decide) ?_
      exact VM_iret dX7_findField_157 ⟨_, rfl, fM1, (FI_end hI (by omega)).symm⟩
    · refine V_iinc (q := 42) dX7_findField_39 rfl rfl (by decide) rfl (by omega) (fun z39 lz39 ez39 hlz39 => ?_)
      obtain rfl : lz39 = [(3, 0), (0, a), (0, nm), (0, z39), (9, 0), (9, 0), (9, 0)] := hlz39
      have hpos : 0 < n := by omega
      refine V_aload_n (q := 43) dX7_findField_42 rfl rfl rfl ?_
      refine VM_getA (q := 46) 19 dX7_findField_43 rfl flX7_59 rfl rfl (Nat.succ_ne_zero _) ?_
      refine V_iload_n (q := 47) dX7_findField_46 rfl rfl rfl ?_
      refine VM_iald (q := 48) 18 dX7_findField_47 rfl rfl (by decide) rfl rfl (by omega) (fun z47 ez47 rz47 => ?_)
      refine V_istore (q := 50) (lv1 := [(3, 0), (0, a), (0, nm), (0, z39), (0, z47), (9, 0), (9, 0)]) dX7_findField_48 rfl (by decide) rfl rfl ?_
      have hIn := hI.2.2.2.1 z39 (by omega) (by omega)
      rw [← ez47] at hIn
      refine V_iload (q := 52) dX7_findField_50 rfl rfl ?_
      refine V_if_lt (q := 55) (tgt := 35) dX7_findField_52 (by decide) rfl (fun c52 => ?_) (fun c52 => ?_)
      · refine V_fgt [(3, 0), (0, a), (0, nm), (0, z39), (9, 0), (9, 0), (9, 0)] ⟨Or.inl rfl, Or.inl rfl, Or.inl rfl, Or.inl rfl, Or.inr rfl, Or.inr rfl, Or.inr rfl, trivial⟩ ?_
        exact ih (z39) M1 (FI_drop hI hpos (by omega) (by rw [← ez47]; exact FF_neg c52)) (by omega)
      · have t0 : 0 ≤ z47 := by omega
        have t1 : z47 < M 0 0 := by omega
        refine V_aload_n (q := 56) dX7_findField_55 rfl rfl rfl ?_
        refine VM_getA (q := 59) 20 dX7_findField_56 rfl flX7_62 rfl rfl (Nat.succ_ne_zero _) ?_
        refine V_iload (q := 61) dX7_findField_59 rfl rfl ?_
        refine VM_zald (q := 62) 19 dX7_findField_61 rfl rfl (by decide) rfl rfl (by omega) (fun z61 ez61 rz61 => ?_)
        refine V_if_eq (q := 65) (tgt := 68) dX7_findField_62 (by decide) rfl (fun c62 => ?_) (fun c62 => ?_)
        · have hc4 := (w.cnt z47 t0 (by omega)).1
          refine V_aload_n (q := 69) dX7_findField_68 rfl rfl rfl ?_
          refine VM_getA (q := 72) 20 dX7_findField_69 rfl flX7_62 rfl rfl (Nat.succ_ne_zero _) ?_
          refine V_iload (q := 74) dX7_findField_72 rfl rfl ?_
          refine V_iconst (q := 75) dX7_findField_74 rfl (by decide) ?_
          refine VM_zast (q := 76) 19 dX7_findField_75 rfl rfl (by decide) rfl rfl (by omega) (by omega) (fun M75 eM75 => ?_)
          have fM75 : ∀ k : Int, k ≠ 18 → k ≠ 19 → M75 k = M k := by intro k h1 h2; rw [eM75, mu_f _ _ _ _ h2]; exact fM1 k h1 h2
          refine V_aload_n (q := 77) dX7_findField_76 rfl rfl rfl ?_
          refine V_iload (q := 79) dX7_findField_77 rfl rfl ?_
          refine V_iload_n (q := 80) dX7_findField_79 rfl rfl rfl ?_
          refine VM_callI (q := 83) (As := [(0, z47), (0, nm)]) (tX7_ownField (C := C) (M := M75) ⟨t0, by omega⟩ (by rw [fM75 6 (by decide) (by decide)]; exact (w.cnt z47 t0 (by omega)).2.1)) dX7_findField_80 rfl mlX7_151 mw_X7_ownField im_X7_ownField sl_X7_ownField md_X7_ownField rfl rfl rfl (by decide) (by decide) (Nat.le_refl _) (Nat.le_refl _) (by decide) (fun z80 M80 rz80 hz80 => ?_)
          obtain ⟨hm, hpz80⟩ := hz80
          replace hm := hm.symm
          subst hm
          rw [pF_congr (fM75 6 (by decide) (by decide)) (fM75 7 (by decide) (by decide))] at hpz80
          refine V_istore (q := 85) (lv1 := [(3, 0), (0, a), (0, nm), (0, z39), (0, z47), (0, z80), (9, 0)]) dX7_findField_83 rfl (by decide) rfl rfl ?_
          refine V_iload (q := 87) dX7_findField_85 rfl rfl ?_
          refine V_if_lt (q := 90) (tgt := 93) dX7_findField_87 (by decide) rfl (fun c87 => ?_) (fun c87 => ?_)
          · have hpz : pF M z47 nm < 0 := by omega
            refine V_aload_n (q := 94) dX7_findField_93 rfl rfl rfl ?_
            refine VM_getA (q := 97) 19 dX7_findField_94 rfl flX7_59 rfl rfl (Nat.succ_ne_zero _) ?_
            refine V_iload_n (q := 98) dX7_findField_97 rfl rfl rfl ?_
            refine V_aload_n (q := 99) dX7_findField_98 rfl rfl rfl ?_
            refine VM_getA (q := 102) 4 dX7_findField_99 rfl flX7_16 rfl rfl (Nat.succ_ne_zero _) ?_
            refine V_iload (q := 104) dX7_findField_102 rfl rfl ?_
            refine VM_iald (q := 105) 3 dX7_findField_104 rfl rfl (by decide) rfl rfl (by omega) (fun z104 ez104 rz104 => ?_)
            rw [fM75 3 (by decide) (by decide)] at ez104
            refine VM_iast (q := 106) 18 dX7_findField_105 rfl rfl (by decide) rfl rfl (by omega) (fun M105 eM105 => ?_)
            have fM105 : ∀ k : Int, k ≠ 18 → k ≠ 19 → M105 k = M k := by intro k h1 h2; rw [eM105, mu_f _ _ _ _ h1]; exact fM75 k h1 h2
            refine V_iinc (q := 109) dX7_findField_106 rfl rfl (by decide) rfl (by omega) (fun z106 lz106 ez106 hlz106 => ?_)
            obtain rfl : lz106 = [(3, 0), (0, a), (0, nm), (0, z106), (0, z47), (0, z80), (9, 0)] := hlz106
            refine V_aload_n (q := 110) dX7_findField_109 rfl rfl rfl ?_
            refine VM_getA (q := 113) 5 dX7_findField_110 rfl flX7_20 rfl rfl (Nat.succ_ne_zero _) ?_
            refine V_iload (q := 115) dX7_findField_113 rfl rfl ?_
            refine VM_iald (q := 116) 4 dX7_findField_115 rfl rfl (by decide) rfl rfl (by omega) (fun z115 ez115 rz115 => ?_)
            rw [fM105 4 (by decide) (by decide)] at ez115
            refine V_iconst (q := 117) dX7_findField_116 rfl (by decide) ?_
            refine V_isub (q := 118) dX7_findField_117 rfl (by omega) (fun z117 ez117 => ?_)
            refine V_istore (q := 120) (lv1 := [(3, 0), (0, a), (0, nm), (0, z106), (0, z47), (0, z80), (0, z117)]) dX7_findField_118 rfl (by decide) rfl rfl ?_
            have inner : ∀ (k n1 : Int) (M2 : Mem), (-1 ≤ k ∧ k < M 4 z47 ∧ n1 = n + (M 4 z47 - 1 - k) ∧ (∀ k : Int, k ≠ 18 → k ≠ 19 → M2 k = M k) ∧ M2 19 z47 = 1 ∧ (∀ x, x ≠ z47 → M2 19 x = M1 19 x) ∧ (∀ i : Int, 0 ≤ i → i < z39 → M2 18 i = M1 18 i) ∧ M2 18 z39 = M 3 z47 ∧ (∀ j : Int, 0 ≤ j → j < M 4 z47 - 1 - k → M2 18 (n + j) = M 5 (4 * z47 + (M 4 z47 - 1 - j)))) → V Γ (gα αC) ad0 (ZM Γ (gα αC) ad0 (mQ αC C (mI fun r M1 => (∀ k : Int, k ≠ 18 → k ≠ 19 → M1 k = M k) ∧ r = FF M nm a)) 0 0) (RM 1 0 0) RX7 cX7_findField 7 (some .int) yX7_findField.name 120 [] [(3, 0), (0, a), (0, nm), (0, n1), (0, z47), (9, 0), (0, k)] (gα αC) (mm M2 C) 0 0 := by
              refine loop3 _ (fun k _ _ => (k + 1).toNat) _ ?_
              rintro k n1 M2 ⟨j0, j1, jn, j2, j3, j4, j5, j6, j7⟩ ih2
              have fM2 := j2
              refine V_iload (q := 122) dX7_findField_120 rfl rfl ?_
              refine V_if_lt (q := 125) (tgt := 152) dX7_findField_122 (by decide) rfl (fun c122 => ?_) (fun c122 => ?_)
              · refine V_goto (tgt := 35) dX7_findField_152 (by decide) ?_
                refine V_fgt [(3, 0), (0, a), (0, nm), (0, n1), (9, 0), (9, 0), (9, 0)] ⟨Or.inl rfl, Or.inl rfl, Or.inl rfl, Or.inl rfl, Or.inr rfl, Or.inr rfl, Or.inr rfl, trivial⟩ ?_
                obtain ⟨hL, hcz⟩ := FI_push w hI hpos (show z39 = n - 1 by omega) ez47.symm t0 t1 (by rw [← ez61]; exact c62) hpz j2 j3 j4 j5 j6 (fun j jj0 jj1 => j7 j jj0 (by omega))
                exact ih n1 M2 (by rw [show n1 = n + M 4 z47 by omega]; exact hL) (by omega)
              · have hfc := w.face z47 k t0 t1 (by omega) (by omega)
                refine V_aload_n (q := 126) dX7_findField_125 rfl rfl rfl ?_
                refine VM_getA (q := 129) 19 dX7_findField_126 rfl flX7_59 rfl rfl (Nat.succ_ne_zero _) ?_
                refine V_iload_n (q := 130) dX7_findField_129 rfl rfl rfl ?_
                refine V_aload_n (q := 131) dX7_findField_130 rfl rfl rfl ?_
                refine VM_getA (q := 134) 6 dX7_findField_131 rfl flX7_23 rfl rfl (Nat.succ_ne_zero _) ?_
                refine V_iconst (q := 135) dX7_findField_134 rfl (by decide) ?_
                refine V_iload (q := 137) dX7_findField_135 rfl rfl ?_
                refine V_imul (q := 138) dX7_findField_137 rfl (by omega) (fun z137 ez137 => ?_)
                refine V_iload (q := 140) dX7_findField_138 rfl rfl ?_
                refine V_iadd (q := 141) dX7_findField_140 rfl (by omega) (fun z140 ez140 => ?_)
                refine VM_iald (q := 142) 5 dX7_findField_141 rfl rfl (by decide) rfl rfl (by omega) (fun z141 ez141 rz141 => ?_)
                rw [fM2 5 (by decide) (by decide)] at ez141
                refine VM_iast (q := 143) 18 dX7_findField_142 rfl rfl (by decide) rfl rfl (by omega) (fun M142 eM142 => ?_)
                have fM142 : ∀ k : Int, k ≠ 18 → k ≠ 19 → M142 k = M k := by intro k h1 h2; rw [eM142, mu_f _ _ _ _ h1]; exact fM2 k h1 h2
                refine V_iinc (q := 146) dX7_findField_143 rfl rfl (by decide) rfl (by omega) (fun z143 lz143 ez143 hlz143 => ?_)
                obtain rfl : lz143 = [(3, 0), (0, a), (0, nm), (0, z143), (0, z47), (9, 0), (0, k)] := hlz143
                refine V_iinc (q := 149) dX7_findField_146 rfl rfl (by decide) rfl (by omega) (fun z146 lz146 ez146 hlz146 => ?_)
                obtain rfl : lz146 = [(3, 0), (0, a), (0, nm), (0, z143), (0, z47), (9, 0), (0, z146)] := hlz146
                refine V_goto (tgt := 120) dX7_findField_149 (by decide) ?_
                exact ih2 (z146) (z143) M142 ⟨by omega, by omega, by omega, fM142, by rw [eM142, mu_f _ _ _ _ (by decide)]; exact j3, fun x hx => by rw [eM142, mu_f _ _ _ _ (by decide)]; exact j4 x hx, fun i i0 i1 => by rw [eM142, mu_i _ _ _ _ (by omega)]; exact j5 i i0 i1, by rw [eM142, mu_i _ _ _ _ (by omega)]; exact j6, fun j jj0 jj1 => by { rw [eM142]; by_cases hj : n + j = n1; { rw [hj, mu_s, ez141, show z140 = 4 * z47 + (M 4 z47 - 1 - j) by omega] }; { rw [mu_i _ _ _ _ hj]; exact j7 j jj0 (by omega) } }⟩ (by omega)
            refine V_fgt [(3, 0), (0, a), (0, nm), (0, z106), (0, z47), (9, 0), (0, z117)] ⟨Or.inl rfl, Or.inl rfl, Or.inl rfl, Or.inl rfl, Or.inl rfl, Or.inr rfl, Or.inl rfl, trivial⟩ ?_
            exact inner (z117) (z106) M105 ⟨by omega, by omega, by omega, fM105, by rw [eM105, mu_f _ _ _ _ (by decide), eM75, mu_s], fun x hx => by rw [eM105, mu_f _ _ _ _ (by decide), eM75, mu_i _ _ _ _ hx], fun i i0 i1 => by rw [eM105, mu_i _ _ _ _ (by omega), eM75, mu_f _ _ _ _ (by decide)], by rw [eM105, mu_s, ez104], fun j jj0 jj1 => absurd jj1 (by omega)⟩
          · refine V_iload (q := 92) dX7_findField_90 rfl rfl ?_
            have hpz0 : z80 = pF M z47 nm := hpz80
            exact VM_iret dX7_findField_92 ⟨_, rfl, fM75, by rw [hpz0] at *; exact FI_own w hI hpos (by omega) ez47.symm t0 t1 (by omega)⟩
        · refine V_goto (tgt := 35) dX7_findField_65 (by decide) ?_
          refine V_fgt [(3, 0), (0, a), (0, nm), (0, z39), (9, 0), (9, 0), (9, 0)] ⟨Or.inl rfl, Or.inl rfl, Or.inl rfl, Or.inl rfl, Or.inr rfl, Or.inr rfl, Or.inr rfl, trivial⟩ ?_
          exact ih (z39) M1 (FI_drop hI hpos (by omega) (FI_seen w hI hpos (by omega) (by rw [← ez47]; omega) (by rw [← ez47, ← ez61]; omega))) (by omega)
  have clr : ∀ (t : Int) (M1 : Mem), (0 ≤ t ∧ t ≤ M 0 0 ∧ (∀ k : Int, k ≠ 18 → k ≠ 19 → M1 k = M k) ∧ M1 18 0 = a ∧ (∀ i : Int, 0 ≤ i → i < t → M1 19 i = 0)) → V Γ (gα αC) ad0 (ZM Γ (gα αC) ad0 (mQ αC C (mI fun r M1 => (∀ k : Int, k ≠ 18 → k ≠ 19 → M1 k = M k) ∧ r = FF M nm a)) 0 0) (RM 1 0 0) RX7 cX7_findField 7 (some .int) yX7_findField.name 12 [] [(3, 0), (0, a), (0, nm), (0, 1), (0, t), (9, 0), (9, 0)] (gα αC) (mm M1 C) 0 0 := by
    refine loop2 _ (fun t _ => (M 0 0 - t).toNat) _ ?_
    rintro t M1 ⟨g1, g2, g3, g5, g4⟩ ih
    have fM1 := g3
    refine V_iload (q := 14) dX7_findField_12 rfl rfl ?_
    refine V_aload_n (q := 15) dX7_findField_14 rfl rfl rfl ?_
    refine VM_getI (q := 18) 0 dX7_findField_15 rfl flX7_128 rfl rfl rfl (fun z15 ez15 rz15 => ?_)
    rw [fM1 0 (by decide) (by decide)] at ez15
    refine V_icmp_ge (q := 21) (tgt := 35) dX7_findField_18 (by decide) rfl (fun c18 => ?_) (fun c18 => ?_)
    · refine V_fgt [(3, 0), (0, a), (0, nm), (0, 1), (9, 0), (9, 0), (9, 0)] ⟨Or.inl rfl, Or.inl rfl, Or.inl rfl, Or.inl rfl, Or.inr rfl, Or.inr rfl, Or.inr rfl, trivial⟩ ?_
      exact outer 1 M1 (FI_init w fM1 g5 ha (fun i i0 i1 => g4 i i0 (by omega)))
    · refine V_aload_n (q := 22) dX7_findField_21 rfl rfl rfl ?_
      refine VM_getA (q := 25) 20 dX7_findField_22 rfl flX7_62 rfl rfl (Nat.succ_ne_zero _) ?_
      refine V_iload (q := 27) dX7_findField_25 rfl rfl ?_
      refine V_iconst (q := 28) dX7_findField_27 rfl (by decide) ?_
      refine VM_zast (q := 29) 19 dX7_findField_28 rfl rfl (by decide) rfl rfl (by omega) (by omega) (fun M28 eM28 => ?_)
      have fM28 : ∀ k : Int, k ≠ 18 → k ≠ 19 → M28 k = M k := by intro k h1 h2; rw [eM28, mu_f _ _ _ _ h2]; exact fM1 k h1 h2
      refine V_iinc (q := 32) dX7_findField_29 rfl rfl (by decide) rfl (by omega) (fun z29 lz29 ez29 hlz29 => ?_)
      obtain rfl : lz29 = [(3, 0), (0, a), (0, nm), (0, 1), (0, z29), (9, 0), (9, 0)] := hlz29
      refine V_goto (tgt := 12) dX7_findField_32 (by decide) ?_
      exact ih (z29) M28 ⟨by omega, by omega, fM28, by rw [eM28, mu_f _ _ _ _ (by decide)]; exact g5, fun i h0 h1 => by { rw [eM28]; by_cases hi : i = t; { rw [hi, mu_s] }; { rw [mu_i _ _ _ _ hi]; exact g4 i h0 (by omega) } }⟩ (by omega)
  refine V_iconst (q := 1) dX7_findField_0 rfl (by decide) ?_
  refine V_istore_n (q := 2) (lv1 := [(3, 0), (0, a), (0, nm), (0, 1), (9, 0), (9, 0), (9, 0)]) dX7_findField_1 rfl rfl (by decide) rfl rfl ?_
  refine V_aload_n (q := 3) dX7_findField_2 rfl rfl rfl ?_
  refine VM_getA (q := 6) 19 dX7_findField_3 rfl flX7_59 rfl rfl (Nat.succ_ne_zero _) ?_
  refine V_iconst (q := 7) dX7_findField_6 rfl (by decide) ?_
  refine V_iload_n (q := 8) dX7_findField_7 rfl rfl rfl ?_
  refine VM_iast (q := 9) 18 dX7_findField_8 rfl rfl (by decide) rfl rfl (by omega) (fun M8 eM8 => ?_)
  have fM8 : ∀ k : Int, k ≠ 18 → k ≠ 19 → M8 k = M k := by intro k h1 h2; rw [eM8, mu_f _ _ _ _ h1]
  refine V_iconst (q := 10) dX7_findField_9 rfl (by decide) ?_
  refine V_istore (q := 12) (lv1 := [(3, 0), (0, a), (0, nm), (0, 1), (0, 0), (9, 0), (9, 0)]) dX7_findField_10 rfl (by decide) rfl rfl ?_
  exact clr 0 M8 ⟨by decide, hn0.1, fM8, by rw [eM8, mu_s], fun i h0 h1 => absurd h1 (by omega)⟩
end
section
/-! what is found of METHODS; what is RULED; which type an action starts first -/
theorem oM_congr {M M1 : Mem} (h10 : M1 10 = M 10) (h11 : M1 11 = M 11) (t nm : Int) : oM M1 t nm = oM M t nm := by
  unfold oM
  rw [h10, h11]
def fmd (M : Mem) (nm : Int) : Nat → Int → Int
  | 0, _ => -6
  | h + 1, t => if t < 0 then -6 else if 0 ≤ oM M t nm then 5 * t + 1 + oM M t nm else fmd M nm h (M 3 t)
/-- the body of the method that is found; -6: none -/
def FM (M : Mem) (nm t : Int) : Int := fmd M nm 41 t
theorem fmd_st {M : Mem} (w : WFD M) (nm : Int) : ∀ (h h1 : Nat) (t : Int), t < M 0 0 → (t + 1).toNat < h → (t + 1).toNat < h1 → fmd M nm h t = fmd M nm h1 t := by
  intro h
  induction h with
  | zero => intro h1 t _ hh; omega
  | succ h ih =>
    intro h1 t t1 hh hh1
    cases h1 with
    | zero => omega
    | succ h1 =>
      unfold fmd
      by_cases ht : t < 0
      · rw [if_pos ht, if_pos ht]
      · rw [if_neg ht, if_neg ht]
        have := w.above t (by omega) t1
        rw [ih h1 (M 3 t) (by omega) (by omega) (by omega)]
theorem FM_neg {M : Mem} {nm t : Int} (h : t < 0) : FM M nm t = -6 := by
  unfold FM fmd
  rw [if_pos h]
theorem FM_eq {M : Mem} (w : WFD M) (nm : Int) {t : Int} (t0 : 0 ≤ t) (t1 : t < M 0 0) : FM M nm t = if 0 ≤ oM M t nm then 5 * t + 1 + oM M t nm else FM M nm (M 3 t) := by
  have hn := w.n
  have := w.above t t0 t1
  unfold FM
  conv => lhs; unfold fmd
  rw [if_neg (by omega), fmd_st w nm 40 41 (M 3 t) (by omega) (by omega) (by omega)]
theorem fmd_rng {M : Mem} {nm : Int} (w : WFD M) : ∀ (h : Nat) (t : Int), t < M 0 0 → fmd M nm h t = -6 ∨ ∃ u, 0 ≤ u ∧ u ≤ t ∧ fmd M nm h t = 5 * u + 1 + oM M u nm ∧ 0 ≤ oM M u nm ∧ oM M u nm < M 10 u := by
  intro h
  induction h with
  | zero => intro t _; exact Or.inl rfl
  | succ h ih =>
    intro t t1
    unfold fmd
    by_cases ht : t < 0
    · rw [if_pos ht]; exact Or.inl rfl
    · rw [if_neg ht]
      have := w.above t (by omega) t1
      by_cases ho : 0 ≤ oM M t nm
      · rw [if_pos ho]
        rcases oM_rng M t nm with h2 | h2
        · omega
        · exact Or.inr ⟨t, by omega, by omega, rfl, ho, h2.2.1⟩
      · rw [if_neg ho]
        rcases ih (M 3 t) (by omega) with h2 | ⟨u, u0, u1, u2⟩
        · exact Or.inl h2
        · exact Or.inr ⟨u, u0, by omega, u2⟩
theorem FM_rng {M : Mem} {nm t : Int} (w : WFD M) (t1 : t < M 0 0) : FM M nm t = -6 ∨ ∃ u, 0 ≤ u ∧ u ≤ t ∧ FM M nm t = 5 * u + 1 + oM M u nm ∧ 0 ≤ oM M u nm ∧ oM M u nm < M 10 u := fmd_rng w 41 t t1
theorem FF_rng {M : Mem} {nm t : Int} (w : WFD M) (t0 : 0 ≤ t) (t1 : t < M 0 0) : FF M nm t = -6 ∨ ∃ u, 0 ≤ u ∧ u < M 0 0 ∧ FF M nm t = pF M u nm ∧ 6 * u ≤ FF M nm t ∧ FF M nm t < 6 * u + M 6 u ∧ M 6 u ≤ 6 := by
  have key : ∀ (h : Nat) (t : Int), t < M 0 0 → ffd M nm h t = -6 ∨ (0 ≤ ffd M nm h t ∧ ∃ u, 0 ≤ u ∧ u < M 0 0 ∧ ffd M nm h t = pF M u nm) := by
    intro h
    induction h with
    | zero => intro t _; exact Or.inl rfl
    | succ h ih =>
      intro t t1
      unfold ffd
      by_cases ht : t < 0
      · rw [if_pos ht]; exact Or.inl rfl
      · rw [if_neg ht]
        by_cases ho : 0 ≤ pF M t nm
        · rw [if_pos ho]; exact Or.inr ⟨ho, t, by omega, t1, rfl⟩
        · rw [if_neg ho]
          have hj : ∀ j : Nat, j ≤ (M 4 t).toNat → FC (ffd M nm h) M t j = -6 ∨ (0 ≤ FC (ffd M nm h) M t j ∧ ∃ u, 0 ≤ u ∧ u < M 0 0 ∧ FC (ffd M nm h) M t j = pF M u nm) := by
            intro j
            induction j with
            | zero =>
              intro _
              unfold FC
              split
              · exact Or.inl rfl
              · have := w.above t (by omega) t1
                exact ih _ (by omega)
            | succ j ihj =>
              intro hj
              unfold FC
              have hf := w.face t (M 4 t - 1 - j) (by omega) t1 (by omega) (by omega)
              split
              · rename_i h1
                rcases ih _ hf.2.1 with h2 | h2
                · omega
                · exact Or.inr h2
              · exact ihj (by omega)
          exact hj _ (Nat.le_refl _)
  have hn := w.n
  rcases key 41 t t1 with h | ⟨h, u, u0, u1, u2⟩
  · exact Or.inl h
  · have h3 := (w.cnt u u0 (by omega)).2.1
    rcases pF_rng M u nm with h4 | h4
    · have : FF M nm t = -6 := by rw [show FF M nm t = pF M u nm from u2, h4]
      exact Or.inl this
    · refine Or.inr ⟨u, u0, u1, u2, ?_, ?_, h3.2⟩
      · rw [show FF M nm t = pF M u nm from u2]; exact h4.1
      · rw [show FF M nm t = pF M u nm from u2]; exact h4.2.1
theorem SD_FF {M M1 : Mem} (h : SD M M1) (nm t : Int) : FF M1 nm t = FF M nm t := by
  have key : ∀ (n : Nat) (t : Int), ffd M1 nm n t = ffd M nm n t := by
    intro n
    induction n with
    | zero => intro t; rfl
    | succ n ih =>
      intro t
      have hg : ffd M1 nm n = ffd M nm n := funext ih
      have hc : ∀ j, FC (ffd M nm n) M1 t j = FC (ffd M nm n) M t j := by
        intro j
        induction j with
        | zero => unfold FC; rw [h 3 (by decide) (by decide)]
        | succ j ihj => unfold FC; rw [ihj, h 4 (by decide) (by decide), h 5 (by decide) (by decide)]
      unfold ffd
      rw [hg, hc, h 4 (by decide) (by decide), pF_congr (h 6 (by decide) (by decide)) (h 7 (by decide) (by decide))]
  exact key 41 t
theorem SD_FM {M M1 : Mem} (h : SD M M1) (nm t : Int) : FM M1 nm t = FM M nm t := by
  have key : ∀ (n : Nat) (t : Int), fmd M1 nm n t = fmd M nm n t := by
    intro n
    induction n with
    | zero => intro t; rfl
    | succ n ih =>
      intro t
      unfold fmd
      rw [ih, h 3 (by decide) (by decide), oM_congr (h 10 (by decide) (by decide)) (h 11 (by decide) (by decide))]
  exact key 41 t
/-- 1: the action can't be -/
def RUi (M : Mem) (k t n : Int) : Int := if k = 1 then (if FF M n t < 0 then 1 else 0) else if k = 2 then (if FF M n t < 0 then 1 else if M 8 (FF M n t) = 1 then 1 else 0) else if k = 3 then (if FM M n t < 0 then 1 else 0) else if k = 4 then (if M 1 t = 1 then 1 else if M 2 t = 1 then 1 else 0) else 0
theorem RUi_1 (M : Mem) (t n : Int) : RUi M 1 t n = if FF M n t < 0 then 1 else 0 := rfl
theorem RUi_2 (M : Mem) (t n : Int) : RUi M 2 t n = if FF M n t < 0 then 1 else if M 8 (FF M n t) = 1 then 1 else 0 := rfl
theorem RUi_3 (M : Mem) (t n : Int) : RUi M 3 t n = if FM M n t < 0 then 1 else 0 := rfl
theorem RUi_4 (M : Mem) (t n : Int) : RUi M 4 t n = if M 1 t = 1 then 1 else if M 2 t = 1 then 1 else 0 := rfl
theorem RUi_o (M : Mem) {k : Int} (t n : Int) (h1 : k ≠ 1) (h2 : k ≠ 2) (h3 : k ≠ 3) (h4 : k ≠ 4) : RUi M k t n = 0 := by
  unfold RUi
  rw [if_neg h1, if_neg h2, if_neg h3, if_neg h4]
theorem RUi_01 (M : Mem) (k t n : Int) : RUi M k t n = 0 ∨ RUi M k t n = 1 := by
  unfold RUi
  (repeat' split) <;> first | exact Or.inl rfl | exact Or.inr rfl
/-- the type that an action starts first; -6: none -/
def STi (M : Mem) (k t n : Int) : Int := if RUi M k t n = 1 then -6 else if k = 1 ∨ k = 2 then (if M 8 (FF M n t) = 1 then -6 else FF M n t / 6) else if k = 3 then FM M n t / 5 else if k = 4 ∨ k = 5 then t else -6
theorem SD_RUi {M M1 : Mem} (h : SD M M1) (k t n : Int) : RUi M1 k t n = RUi M k t n := by
  unfold RUi
  rw [SD_FF h, SD_FM h, h 8 (by decide) (by decide), h 1 (by decide) (by decide), h 2 (by decide) (by decide)]
theorem SD_STi {M M1 : Mem} (h : SD M M1) (k t n : Int) : STi M1 k t n = STi M k t n := by
  unfold STi
  rw [SD_RUi h, SD_FF h, SD_FM h, h 8 (by decide) (by decide)]
end
section
theorem sdf {M M1 : Mem} (f : ∀ k : Int, k ≠ 18 → k ≠ 19 → M1 k = M k) : SD M M1 := fun k h0 h1 => f k (by omega) (by omega)
theorem tX7_findMethod {Γ : GC} {αC : Sh} {C M : Mem} {a nm : Int} (w : WFD M) (ha : 0 ≤ a ∧ a < M 0 0) : MM Γ yX7_findMethod cX7_findMethod 5 (some .int) 1 [(0, a), (0, nm)] αC C M (mI fun r M1 => M1 = M ∧ r = FM M nm a) := by
  have hn0 := w.n
  refine MM_of (k := 2) [(3, 0), (0, a), (0, nm), (9, 0), (9, 0)] pn_X7_findMethod rfl rfl rfl (fun ad0 => ?_)
  have loop : ∀ (t : Int), (-1 ≤ t ∧ t < M 0 0 ∧ FM M nm t = FM M nm a) → V Γ (gα αC) ad0 (ZM Γ (gα αC) ad0 (mQ αC C (mI fun r M1 => M1 = M ∧ r = FM M nm a)) 0 0) (RM 1 0 0) RX7 cX7_findMethod 5 (some .int) yX7_findMethod.name 2 [] [(3, 0), (0, a), (0, nm), (0, t), (9, 0)] (gα αC) (mm M C) 0 0 := by
    refine loop1 _ (fun t => (t + 1).toNat) _ ?_
    rintro t ⟨h1, h2, h3⟩ ih
    refine V_iload_n (q := 3) dX7_findMethod_2 rfl rfl rfl ?_
    refine V_if_lt (q := 6) (tgt := 38) dX7_findMethod_3 (by decide) rfl (fun c3 => ?_) (fun c3 => ?_)
    · refine V_bipush (q := 40) dX7_findMethod_38 rfl (by decide) ?_
      exact VM_iret dX7_findMethod_40 ⟨_, rfl, rfl, by rw [← h3, FM_neg c3]⟩
    · have t0 : 0 ≤ t := by omega
      have hab := w.above t t0 h2
      refine V_aload_n (q := 7) dX7_findMethod_6 rfl rfl rfl ?_
      refine V_iload_n (q := 8) dX7_findMethod_7 rfl rfl rfl ?_
      refine V_iload_n (q := 9) dX7_findMethod_8 rfl rfl rfl ?_
      refine VM_callI (q := 12) (As := [(0, t), (0, nm)]) (tX7_ownMethod (C := C) (M := M) ⟨t0, by omega⟩ (w.cnt t t0 (by omega)).2.2) dX7_findMethod_9 rfl mlX7_155 mw_X7_ownMethod im_X7_ownMethod sl_X7_ownMethod md_X7_ownMethod rfl rfl rfl (by decide) (by decide) (Nat.le_refl _) (Nat.le_refl _) (by decide) (fun z9 M9 rz9 hz9 => ?_)
      obtain ⟨hm, hpz9⟩ := hz9
      replace hm := hm.symm
      subst hm
      refine V_istore (q := 14) (lv1 := [(3, 0), (0, a), (0, nm), (0, t), (0, z9)]) dX7_findMethod_12 rfl (by decide) rfl rfl ?_
      refine V_iload (q := 16) dX7_findMethod_14 rfl rfl ?_
      refine V_if_lt (q := 19) (tgt := 28) dX7_findMethod_16 (by decide) rfl (fun c16 => ?_) (fun c16 => ?_)
      · refine V_aload_n (q := 29) dX7_findMethod_28 rfl rfl rfl ?_
        refine VM_getA (q := 32) 4 dX7_findMethod_29 rfl flX7_16 rfl rfl (Nat.succ_ne_zero _) ?_
        refine V_iload_n (q := 33) dX7_findMethod_32 rfl rfl rfl ?_
        refine VM_iald (q := 34) 3 dX7_findMethod_33 rfl rfl (by decide) rfl rfl (by omega) (fun z33 ez33 rz33 => ?_)
        refine V_istore_n (q := 35) (lv1 := [(3, 0), (0, a), (0, nm), (0, z33), (0, z9)]) dX7_findMethod_34 rfl rfl (by decide) rfl rfl ?_
        refine V_goto (tgt := 2) dX7_findMethod_35 (by decide) ?_
        refine V_fgt [(3, 0), (0, a), (0, nm), (0, z33), (9, 0)] ⟨Or.inl rfl, Or.inl rfl, Or.inl rfl, Or.inl rfl, Or.inr rfl, trivial⟩ ?_
        exact ih (z33) ⟨by omega, by omega, by { rw [← h3, FM_eq w nm t0 h2, if_neg (by omega), ez33] }⟩ (by omega)
      · have hrm := oM_rng M t nm
        have hc10 := (w.cnt t t0 (by omega)).2.2
        refine V_iconst (q := 20) dX7_findMethod_19 rfl (by decide) ?_
        refine V_iload_n (q := 21) dX7_findMethod_20 rfl rfl rfl ?_
        refine V_imul (q := 22) dX7_findMethod_21 rfl (by omega) (fun z21 ez21 => ?_)
        refine V_iconst (q := 23) dX7_findMethod_22 rfl (by decide) ?_
        refine V_iadd (q := 24) dX7_findMethod_23 rfl (by omega) (fun z23 ez23 => ?_)
        refine V_iload (q := 26) dX7_findMethod_24 rfl rfl ?_
        refine V_iadd (q := 27) dX7_findMethod_26 rfl (by omega) (fun z26 ez26 => ?_)
        exact VM_iret dX7_findMethod_27 ⟨_, rfl, rfl, by rw [← h3, FM_eq w nm t0 h2, if_pos (by omega)]; omega⟩
  refine V_iload_n (q := 1) dX7_findMethod_0 rfl rfl rfl ?_
  refine V_istore_n (q := 2) (lv1 := [(3, 0), (0, a), (0, nm), (0, a), (9, 0)]) dX7_findMethod_1 rfl rfl (by decide) rfl rfl ?_
  exact loop a ⟨by omega, by omega, rfl⟩
theorem tX7_isRuled {Γ : GC} {αC : Sh} {C M : Mem} {k t n : Int} (w : WFD M) (hk : 1 ≤ k → k ≤ 4 → 0 ≤ t ∧ t < M 0 0) : MM Γ yX7_isRuled cX7_isRuled 5 (some .boolean) 2 [(0, k), (0, t), (0, n)] αC C M (mI fun r M1 => (∀ k : Int, k ≠ 18 → k ≠ 19 → M1 k = M k) ∧ r = RUi M k t n) := by
  have hn0 := w.n
  refine MM_of (k := 1) [(3, 0), (0, k), (0, t), (0, n), (9, 0)] pn_X7_isRuled rfl rfl rfl (fun ad0 => ?_)
  refine V_iload_n (q := 1) dX7_isRuled_0 rfl rfl rfl ?_
  rcases (show k = 1 ∨ k = 2 ∨ k = 3 ∨ k = 4 ∨ (k ≠ 1 ∧ k ≠ 2 ∧ k ≠ 3 ∧ k ≠ 4) by omega) with c1 | c1 | c1 | c1 | c1
  · subst c1
    refine V_tswIn (tgt := 32) (off := 31) dX7_isRuled_1 (by decide) (by decide) rfl (by decide) ?_
    refine V_aload_n (q := 33) dX7_isRuled_32 rfl rfl rfl ?_
    refine V_iload_n (q := 34) dX7_isRuled_33 rfl rfl rfl ?_
    refine V_iload_n (q := 35) dX7_isRuled_34 rfl rfl rfl ?_
    refine VM_callI (q := 38) (As := [(0, t), (0, n)]) (tX7_findField (C := C) (M := M) w (hk (by decide) (by decide))) dX7_isRuled_35 rfl mlX7_161 mw_X7_findField im_X7_findField sl_X7_findField md_X7_findField rfl rfl rfl (by decide) (by decide) (Nat.le_refl _) (Nat.le_refl _) (by decide) (fun z35 M35 rz35 hz35 => ?_)
    obtain ⟨gM35, hz35⟩ := hz35
    have fM35 := gM35
    refine V_if_ge (q := 41) (tgt := 45) dX7_isRuled_38 (by decide) rfl (fun c38 => ?_) (fun c38 => ?_)
    · refine V_iconst (q := 46) dX7_isRuled_45 rfl (by decide) ?_
      exact VM_zret dX7_isRuled_46 (by decide) ⟨_, rfl, fM35, by rw [RUi_1, ← hz35, if_neg (by omega)]⟩
    · refine V_iconst (q := 42) dX7_isRuled_41 rfl (by decide) ?_
      refine V_goto (tgt := 46) dX7_isRuled_42 (by decide) ?_
      exact VM_zret dX7_isRuled_46 (by decide) ⟨_, rfl, fM35, by rw [RUi_1, ← hz35, if_pos (by omega)]⟩
  · subst c1
    refine V_tswIn (tgt := 47) (off := 46) dX7_isRuled_1 (by decide) (by decide) rfl (by decide) ?_
    refine V_aload_n (q := 48) dX7_isRuled_47 rfl rfl rfl ?_
    refine V_iload_n (q := 49) dX7_isRuled_48 rfl rfl rfl ?_
    refine V_iload_n (q := 50) dX7_isRuled_49 rfl rfl rfl ?_
    refine VM_callI (q := 53) (As := [(0, t), (0, n)]) (tX7_findField (C := C) (M := M) w (hk (by decide) (by decide))) dX7_isRuled_50 rfl mlX7_161 mw_X7_findField im_X7_findField sl_X7_findField md_X7_findField rfl rfl rfl (by decide) (by decide) (Nat.le_refl _) (Nat.le_refl _) (by decide) (fun z50 M50 rz50 hz50 => ?_)
    obtain ⟨gM50, hz50⟩ := hz50
    have fM50 := gM50
    refine V_istore (q := 55) (lv1 := [(3, 0), (0, 2), (0, t), (0, n), (0, z50)]) dX7_isRuled_53 rfl (by decide) rfl rfl ?_
    refine V_iload (q := 57) dX7_isRuled_55 rfl rfl ?_
    refine V_if_lt (q := 60) (tgt := 70) dX7_isRuled_57 (by decide) rfl (fun c57 => ?_) (fun c57 => ?_)
    · refine V_iconst (q := 71) dX7_isRuled_70 rfl (by decide) ?_
      refine V_goto (tgt := 75) dX7_isRuled_71 (by decide) ?_
      exact VM_zret dX7_isRuled_75 (by decide) ⟨_, rfl, fM50, by rw [RUi_2, ← hz50]; first | rw [if_pos (by omega)] | rw [if_neg (by omega), if_pos (by omega)]⟩
    · have hr := FF_rng (nm := n) w (hk (by decide) (by decide)).1 (hk (by decide) (by decide)).2
      refine V_aload_n (q := 61) dX7_isRuled_60 rfl rfl rfl ?_
      refine VM_getA (q := 64) 9 dX7_isRuled_61 rfl flX7_32 rfl rfl (Nat.succ_ne_zero _) ?_
      refine V_iload (q := 66) dX7_isRuled_64 rfl rfl ?_
      refine VM_zald (q := 67) 8 dX7_isRuled_66 rfl rfl (by decide) rfl rfl (by omega) (fun z66 ez66 rz66 => ?_)
      rw [fM50 8 (by decide) (by decide)] at ez66
      refine V_if_eq (q := 70) (tgt := 74) dX7_isRuled_67 (by decide) rfl (fun c67 => ?_) (fun c67 => ?_)
      · refine V_iconst (q := 75) dX7_isRuled_74 rfl (by decide) ?_
        exact VM_zret dX7_isRuled_75 (by decide) ⟨_, rfl, fM50, by rw [RUi_2, ← hz50, if_neg (by omega), if_neg (by omega)]⟩
      · refine V_iconst (q := 71) dX7_isRuled_70 rfl (by decide) ?_
        refine V_goto (tgt := 75) dX7_isRuled_71 (by decide) ?_
        exact VM_zret dX7_isRuled_75 (by decide) ⟨_, rfl, fM50, by rw [RUi_2, ← hz50]; first | rw [if_pos (by omega)] | rw [if_neg (by omega), if_pos (by omega)]⟩
  · subst c1
    refine V_tswIn (tgt := 76) (off := 75) dX7_isRuled_1 (by decide) (by decide) rfl (by decide) ?_
    refine V_aload_n (q := 77) dX7_isRuled_76 rfl rfl rfl ?_
    refine V_iload_n (q := 78) dX7_isRuled_77 rfl rfl rfl ?_
    refine V_iload_n (q := 79) dX7_isRuled_78 rfl rfl rfl ?_
    refine VM_callI (q := 82) (As := [(0, t), (0, n)]) (tX7_findMethod (C := C) (M := M) w (hk (by decide) (by decide))) dX7_isRuled_79 rfl mlX7_158 mw_X7_findMethod im_X7_findMethod sl_X7_findMethod md_X7_findMethod rfl rfl rfl (by decide) (by decide) (Nat.le_refl _) (Nat.le_refl _) (by decide) (fun z79 M79 rz79 hz79 => ?_)
    obtain ⟨hm, hz79⟩ := hz79
    replace hm := hm.symm
    subst hm
    refine V_if_ge (q := 85) (tgt := 89) dX7_isRuled_82 (by decide) rfl (fun c82 => ?_) (fun c82 => ?_)
    · refine V_iconst (q := 90) dX7_isRuled_89 rfl (by decide) ?_
      exact VM_zret dX7_isRuled_90 (by decide) ⟨_, rfl, fun _ _ _ => rfl, by rw [RUi_3, ← hz79, if_neg (by omega)]⟩
    · refine V_iconst (q := 86) dX7_isRuled_85 rfl (by decide) ?_
      refine V_goto (tgt := 90) dX7_isRuled_86 (by decide) ?_
      exact VM_zret dX7_isRuled_90 (by decide) ⟨_, rfl, fun _ _ _ => rfl, by rw [RUi_3, ← hz79, if_pos (by omega)]⟩
  · subst c1
    refine V_tswIn (tgt := 91) (off := 90) dX7_isRuled_1 (by decide) (by decide) rfl (by decide) ?_
    have hkk := hk (by decide) (by decide)
    refine V_aload_n (q := 92) dX7_isRuled_91 rfl rfl rfl ?_
    refine VM_getA (q := 95) 2 dX7_isRuled_92 rfl flX7_7 rfl rfl (Nat.succ_ne_zero _) ?_
    refine V_iload_n (q := 96) dX7_isRuled_95 rfl rfl rfl ?_
    refine VM_zald (q := 97) 1 dX7_isRuled_96 rfl rfl (by decide) rfl rfl (by omega) (fun z96 ez96 rz96 => ?_)
    refine V_if_ne (q := 100) (tgt := 109) dX7_isRuled_97 (by decide) rfl (fun c97 => ?_) (fun c97 => ?_)
    · refine V_iconst (q := 110) dX7_isRuled_109 rfl (by decide) ?_
      refine V_goto (tgt := 114) dX7_isRuled_110 (by decide) ?_
      exact VM_zret dX7_isRuled_114 (by decide) ⟨_, rfl, fun _ _ _ => rfl, by rw [RUi_4]; first | rw [if_pos (by omega)] | rw [if_neg (by omega), if_pos (by omega)]⟩
    · refine V_aload_n (q := 101) dX7_isRuled_100 rfl rfl rfl ?_
      refine VM_getA (q := 104) 3 dX7_isRuled_101 rfl flX7_13 rfl rfl (Nat.succ_ne_zero _) ?_
      refine V_iload_n (q := 105) dX7_isRuled_104 rfl rfl rfl ?_
      refine VM_zald (q := 106) 2 dX7_isRuled_105 rfl rfl (by decide) rfl rfl (by omega) (fun z105 ez105 rz105 => ?_)
      refine V_if_eq (q := 109) (tgt := 113) dX7_isRuled_106 (by decide) rfl (fun c106 => ?_) (fun c106 => ?_)
      · refine V_iconst (q := 114) dX7_isRuled_113 rfl (by decide) ?_
        exact VM_zret dX7_isRuled_114 (by decide) ⟨_, rfl, fun _ _ _ => rfl, by rw [RUi_4, if_neg (by omega), if_neg (by omega)]⟩
      · refine V_iconst (q := 110) dX7_isRuled_109 rfl (by decide) ?_
        refine V_goto (tgt := 114) dX7_isRuled_110 (by decide) ?_
        exact VM_zret dX7_isRuled_114 (by decide) ⟨_, rfl, fun _ _ _ => rfl, by rw [RUi_4]; first | rw [if_pos (by omega)] | rw [if_neg (by omega), if_pos (by omega)]⟩
  · refine V_tswOut (tgt := 115) dX7_isRuled_1 (by omega) (by decide) ?_
    refine V_iconst (q := 116) dX7_isRuled_115 rfl (by decide) ?_
    exact VM_zret dX7_isRuled_116 (by decide) ⟨_, rfl, fun _ _ _ => rfl, (RUi_o M t n (by omega) (by omega) (by omega) (by omega)).symm⟩
theorem tX7_started {Γ : GC} {αC : Sh} {C M : Mem} {k t n : Int} (w : WFD M) (hk : 1 ≤ k → k ≤ 4 → 0 ≤ t ∧ t < M 0 0) : MM Γ yX7_started cX7_started 5 (some .int) 3 [(0, k), (0, t), (0, n)] αC C M (mI fun r M1 => (∀ k : Int, k ≠ 18 → k ≠ 19 → M1 k = M k) ∧ r = STi M k t n) := by
  have hn0 := w.n
  refine MM_of (k := 1) [(3, 0), (0, k), (0, t), (0, n), (9, 0)] pn_X7_started rfl rfl rfl (fun ad0 => ?_)
  refine V_aload_n (q := 1) dX7_started_0 rfl rfl rfl ?_
  refine V_iload_n (q := 2) dX7_started_1 rfl rfl rfl ?_
  refine V_iload_n (q := 3) dX7_started_2 rfl rfl rfl ?_
  refine V_iload_n (q := 4) dX7_started_3 rfl rfl rfl ?_
  refine VM_callI (q := 7) (As := [(0, k), (0, t), (0, n)]) (tX7_isRuled (C := C) (M := M) w hk) dX7_started_4 rfl mlX7_167 mw_X7_isRuled im_X7_isRuled sl_X7_isRuled md_X7_isRuled rfl rfl rfl (by decide) (by decide) (Nat.le_refl _) (Nat.le_refl _) (by decide) (fun z4 M4 rz4 hz4 => ?_)
  obtain ⟨gM4, hz4⟩ := hz4
  have fM4 := gM4
  have h01 := RUi_01 M k t n
  refine V_if_eq (q := 10) (tgt := 13) dX7_started_7 (by decide) rfl (fun c7 => ?_) (fun c7 => ?_)
  · refine V_iload_n (q := 14) dX7_started_13 rfl rfl rfl ?_
    refine V_iconst (q := 15) dX7_started_14 rfl (by decide) ?_
    refine V_icmp_eq (q := 18) (tgt := 23) dX7_started_15 (by decide) rfl (fun c15 => ?_) (fun c15 => ?_)
    · have hkk := hk (by omega) (by omega)
      have hr := FF_rng (nm := n) w hkk.1 hkk.2
      have hge : ¬ FF M n t < 0 := by intro hlt; have h5 : RUi M k t n = 1 := by { rcases (show k = 1 ∨ k = 2 by omega) with rfl | rfl; { rw [RUi_1, if_pos hlt] }; { rw [RUi_2, if_pos hlt] } }; omega
      refine V_aload_n (q := 24) dX7_started_23 rfl rfl rfl ?_
      refine V_iload_n (q := 25) dX7_started_24 rfl rfl rfl ?_
      refine V_iload_n (q := 26) dX7_started_25 rfl rfl rfl ?_
      refine VM_callI (q := 29) (As := [(0, t), (0, n)]) (tX7_findField (C := C) (M := M4) (SD_WFD (sdf fM4) w) (by rw [fM4 0 (by decide) (by decide)]; exact hkk)) dX7_started_26 rfl mlX7_161 mw_X7_findField im_X7_findField sl_X7_findField md_X7_findField rfl rfl rfl (by decide) (by decide) (Nat.le_refl _) (Nat.le_refl _) (by decide) (fun z26 M26 rz26 hz26 => ?_)
      obtain ⟨gM26, hz26⟩ := hz26
      have fM26 : ∀ k : Int, k ≠ 18 → k ≠ 19 → M26 k = M k := fun k h1 h2 => (gM26 k h1 h2).trans (fM4 k h1 h2)
      rw [SD_FF (sdf fM4)] at hz26
      refine V_istore (q := 31) (lv1 := [(3, 0), (0, k), (0, t), (0, n), (0, z26)]) dX7_started_29 rfl (by decide) rfl rfl ?_
      refine V_aload_n (q := 32) dX7_started_31 rfl rfl rfl ?_
      refine VM_getA (q := 35) 9 dX7_started_32 rfl flX7_32 rfl rfl (Nat.succ_ne_zero _) ?_
      refine V_iload (q := 37) dX7_started_35 rfl rfl ?_
      refine VM_zald (q := 38) 8 dX7_started_37 rfl rfl (by decide) rfl rfl (by omega) (fun z37 ez37 rz37 => ?_)
      rw [fM26 8 (by decide) (by decide)] at ez37
      refine V_if_eq (q := 41) (tgt := 46) dX7_started_38 (by decide) rfl (fun c38 => ?_) (fun c38 => ?_)
      · refine V_iload (q := 48) dX7_started_46 rfl rfl ?_
        refine V_bipush (q := 50) dX7_started_48 rfl (by decide) ?_
        refine V_idiv (q := 51) dX7_started_50 rfl (by omega) (by decide) (fun z50 ez50 => ?_)
        exact VM_iret dX7_started_51 ⟨_, rfl, fM26, by unfold STi; rw [if_neg (by omega), if_pos (by omega), ← hz26, if_neg (by omega)]; omega⟩
      · refine V_bipush (q := 43) dX7_started_41 rfl (by decide) ?_
        refine V_goto (tgt := 51) dX7_started_43 (by decide) ?_
        exact VM_iret dX7_started_51 ⟨_, rfl, fM26, by unfold STi; rw [if_neg (by omega), if_pos (by omega), ← hz26, if_pos (by omega)]⟩
    · refine V_iload_n (q := 19) dX7_started_18 rfl rfl rfl ?_
      refine V_iconst (q := 20) dX7_started_19 rfl (by decide) ?_
      refine V_icmp_ne (q := 23) (tgt := 52) dX7_started_20 (by decide) rfl (fun c20 => ?_) (fun c20 => ?_)
      · refine V_iload_n (q := 53) dX7_started_52 rfl rfl rfl ?_
        refine V_iconst (q := 54) dX7_started_53 rfl (by decide) ?_
        refine V_icmp_ne (q := 57) (tgt := 68) dX7_started_54 (by decide) rfl (fun c54 => ?_) (fun c54 => ?_)
        · refine V_iload_n (q := 69) dX7_started_68 rfl rfl rfl ?_
          refine V_iconst (q := 70) dX7_started_69 rfl (by decide) ?_
          refine V_icmp_eq (q := 73) (tgt := 78) dX7_started_70 (by decide) rfl (fun c70 => ?_) (fun c70 => ?_)
          · refine V_iload_n (q := 79) dX7_started_78 rfl rfl rfl ?_
            refine V_goto (tgt := 84) dX7_started_79 (by decide) ?_
            exact VM_iret dX7_started_84 ⟨_, rfl, fM4, by unfold STi; rw [if_neg (by omega), if_neg (by omega), if_neg (by omega), if_pos (by omega)]⟩
          · refine V_iload_n (q := 74) dX7_started_73 rfl rfl rfl ?_
            refine V_iconst (q := 75) dX7_started_74 rfl (by decide) ?_
            refine V_icmp_ne (q := 78) (tgt := 82) dX7_started_75 (by decide) rfl (fun c75 => ?_) (fun c75 => ?_)
            · refine V_bipush (q := 84) dX7_started_82 rfl (by decide) ?_
              exact VM_iret dX7_started_84 ⟨_, rfl, fM4, by unfold STi; rw [if_neg (by omega), if_neg (by omega), if_neg (by omega), if_neg (by omega)]⟩
            · refine V_iload_n (q := 79) dX7_started_78 rfl rfl rfl ?_
              refine V_goto (tgt := 84) dX7_started_79 (by decide) ?_
              exact VM_iret dX7_started_84 ⟨_, rfl, fM4, by unfold STi; rw [if_neg (by omega), if_neg (by omega), if_neg (by omega), if_pos (by omega)]⟩
        · have hkk := hk (by omega) (by omega)
          have hr := FM_rng (nm := n) w hkk.2
          have hge : ¬ FM M n t < 0 := by intro hlt; have h5 : RUi M k t n = 1 := by { obtain rfl : k = 3 := (by omega); rw [RUi_3, if_pos hlt] }; omega
          refine V_aload_n (q := 58) dX7_started_57 rfl rfl rfl ?_
          refine V_iload_n (q := 59) dX7_started_58 rfl rfl rfl ?_
          refine V_iload_n (q := 60) dX7_started_59 rfl rfl rfl ?_
          refine VM_callI (q := 63) (As := [(0, t), (0, n)]) (tX7_findMethod (C := C) (M := M4) (SD_WFD (sdf fM4) w) (by rw [fM4 0 (by decide) (by decide)]; exact hkk)) dX7_started_60 rfl mlX7_158 mw_X7_findMethod im_X7_findMethod sl_X7_findMethod md_X7_findMethod rfl rfl rfl (by decide) (by decide) (Nat.le_refl _) (Nat.le_refl _) (by decide) (fun z60 M60 rz60 hz60 => ?_)
          obtain ⟨hm, hz60⟩ := hz60
          replace hm := hm.symm
          subst hm
          rw [SD_FM (sdf fM4)] at hz60
          refine V_iconst (q := 64) dX7_started_63 rfl (by decide) ?_
          refine V_idiv (q := 65) dX7_started_64 rfl (by omega) (by decide) (fun z64 ez64 => ?_)
          refine V_goto (tgt := 84) dX7_started_65 (by decide) ?_
          exact VM_iret dX7_started_84 ⟨_, rfl, fM4, by unfold STi; rw [if_neg (by omega), if_neg (by omega), if_pos (by omega), ← hz60]; omega⟩
      · have hkk := hk (by omega) (by omega)
        have hr := FF_rng (nm := n) w hkk.1 hkk.2
        have hge : ¬ FF M n t < 0 := by intro hlt; have h5 : RUi M k t n = 1 := by { rcases (show k = 1 ∨ k = 2 by omega) with rfl | rfl; { rw [RUi_1, if_pos hlt] }; { rw [RUi_2, if_pos hlt] } }; omega
        refine V_aload_n (q := 24) dX7_started_23 rfl rfl rfl ?_
        refine V_iload_n (q := 25) dX7_started_24 rfl rfl rfl ?_
        refine V_iload_n (q := 26) dX7_started_25 rfl rfl rfl ?_
        refine VM_callI (q := 29) (As := [(0, t), (0, n)]) (tX7_findField (C := C) (M := M4) (SD_WFD (sdf fM4) w) (by rw [fM4 0 (by decide) (by decide)]; exact hkk)) dX7_started_26 rfl mlX7_161 mw_X7_findField im_X7_findField sl_X7_findField md_X7_findField rfl rfl rfl (by decide) (by decide) (Nat.le_refl _) (Nat.le_refl _) (by decide) (fun z26_2 M26_2 rz26_2 hz26_2 => ?_)
        obtain ⟨gM26_2, hz26_2⟩ := hz26_2
        have fM26_2 : ∀ k : Int, k ≠ 18 → k ≠ 19 → M26_2 k = M k := fun k h1 h2 => (gM26_2 k h1 h2).trans (fM4 k h1 h2)
        rw [SD_FF (sdf fM4)] at hz26_2
        refine V_istore (q := 31) (lv1 := [(3, 0), (0, k), (0, t), (0, n), (0, z26_2)]) dX7_started_29 rfl (by decide) rfl rfl ?_
        refine V_aload_n (q := 32) dX7_started_31 rfl rfl rfl ?_
        refine VM_getA (q := 35) 9 dX7_started_32 rfl flX7_32 rfl rfl (Nat.succ_ne_zero _) ?_
        refine V_iload (q := 37) dX7_started_35 rfl rfl ?_
        refine VM_zald (q := 38) 8 dX7_started_37 rfl rfl (by decide) rfl rfl (by omega) (fun z37_2 ez37_2 rz37_2 => ?_)
        rw [fM26_2 8 (by decide) (by decide)] at ez37_2
        refine V_if_eq (q := 41) (tgt := 46) dX7_started_38 (by decide) rfl (fun c38_2 => ?_) (fun c38_2 => ?_)
        · refine V_iload (q := 48) dX7_started_46 rfl rfl ?_
          refine V_bipush (q := 50) dX7_started_48 rfl (by decide) ?_
          refine V_idiv (q := 51) dX7_started_50 rfl (by omega) (by decide) (fun z50_2 ez50_2 => ?_)
          exact VM_iret dX7_started_51 ⟨_, rfl, fM26_2, by unfold STi; rw [if_neg (by omega), if_pos (by omega), ← hz26_2, if_neg (by omega)]; omega⟩
        · refine V_bipush (q := 43) dX7_started_41 rfl (by decide) ?_
          refine V_goto (tgt := 51) dX7_started_43 (by decide) ?_
          exact VM_iret dX7_started_51 ⟨_, rfl, fM26_2, by unfold STi; rw [if_neg (by omega), if_pos (by omega), ← hz26_2, if_pos (by omega)]⟩
  · refine V_bipush (q := 12) dX7_started_10 rfl (by decide) ?_
    exact VM_iret dX7_started_12 ⟨_, rfl, fM4, by unfold STi; rw [if_pos (by omega)]⟩
end
section
/-! THE FACES that a start starts, in order: each behind its own faces, once -/
abbrev St : Type := (Int → Int) × List Int
def up1 (P : Int → Int) (f : Int) : Int → Int := fun x => if x = f then 1 else P x
theorem up1_s (P : Int → Int) (f : Int) : up1 P f f = 1 := if_pos rfl
theorem up1_n (P : Int → Int) {f x : Int} (h : x ≠ f) : up1 P f x = P x := if_neg h
def emitF (M : Mem) (f : Int) (s : St) : St := if M 2 f = 1 then (s.1, s.2 ++ [f]) else s
/-- the last m of a type's faces, in order -/
def pof (g : Int → St → St) (M : Mem) (f : Int) : Nat → St → St
  | 0, s => s
  | m + 1, s => pof g M f m (g (M 5 (4 * f + (M 4 f - 1 - m))) s)
def po (M : Mem) : Nat → Int → St → St
  | 0, _, s => s
  | h + 1, f, s => if s.1 f = 1 then s else emitF M f (pof (po M h) M f (M 4 f).toNat (up1 s.1 f, s.2))
def PO (M : Mem) (f : Int) (s : St) : St := po M 41 f s
theorem pof_congr {g g1 : Int → St → St} {M : Mem} {f : Int} (h0 : 0 ≤ f) (h1 : f < M 0 0) (h : ∀ u s, edge M f u → g u s = g1 u s) : ∀ (m : Nat) (s : St), m ≤ (M 4 f).toNat → pof g M f m s = pof g1 M f m s := by
  intro m
  induction m with
  | zero => intro s _; rfl
  | succ m ih =>
    intro s hm
    unfold pof
    rw [h _ s ⟨h0, h1, Or.inr ⟨M 4 f - 1 - m, by omega, by omega, rfl⟩⟩]
    exact ih _ (by omega)
theorem po_st {M : Mem} (w : WFD M) : ∀ (h h1 : Nat) (f : Int) (s : St), 0 ≤ f → f < M 0 0 → rk M f < h → rk M f < h1 → po M h f s = po M h1 f s := by
  intro h
  induction h with
  | zero => intro h1 f s _ _ hh; omega
  | succ h ih =>
    intro h1 f s t0 t1 hh hh1
    cases h1 with
    | zero => omega
    | succ h1 =>
      unfold po
      rw [pof_congr t0 t1 (fun u s hu => ?_) _ _ (Nat.le_refl _)]
      have := WFD_edge w hu
      have := rk_edge w hu
      exact ih h1 u s (by omega) (by omega) (by omega) (by omega)
theorem PO_eq {M : Mem} (w : WFD M) {f : Int} (t0 : 0 ≤ f) (t1 : f < M 0 0) (s : St) : PO M f s = if s.1 f = 1 then s else emitF M f (pof (PO M) M f (M 4 f).toNat (up1 s.1 f, s.2)) := by
  unfold PO
  conv => lhs; unfold po
  rw [pof_congr t0 t1 (fun u s hu => ?_) _ _ (Nat.le_refl _)]
  have h1 := WFD_edge w hu
  have h2 := rk_edge w hu
  have h3 := rk_lt w t0 t1
  exact po_st w 40 41 u s h1.1 h1.2 (by omega) (by omega)
/-- what a start starts ahead of its body -/
def LPs (M : Mem) (t : Int) : St := pof (PO M) M t (M 4 t).toNat (fun _ => 0, if M 3 t < 0 then [] else [M 3 t])
def LF (M : Mem) (t : Int) : List Int := if M 1 t = 1 then [] else (LPs M t).2
/-- what n waiting places come to, the last first -/
def SR (M : Mem) (W E : Int → Int) : Nat → St → St
  | 0, s => s
  | m + 1, s => SR M W E m (if E m = 1 then emitF M (W m) s else PO M (W m) s)
theorem SR_s (M : Mem) (W E : Int → Int) (m : Nat) (s : St) : SR M W E (m + 1) s = SR M W E m (if E m = 1 then emitF M (W m) s else PO M (W m) s) := rfl
theorem SR_congr {M : Mem} {W W1 E E1 : Int → Int} : ∀ (m : Nat) (s : St), (∀ i : Int, 0 ≤ i → i < m → W i = W1 i ∧ E i = E1 i) → SR M W E m s = SR M W1 E1 m s := by
  intro m
  induction m with
  | zero => intro s _; rfl
  | succ m ih =>
    intro s h
    rw [SR_s, SR_s, (h m (by omega) (by omega)).1, (h m (by omega) (by omega)).2]
    exact ih _ (fun i h0 h1 => h i h0 (by omega))
theorem SR_faces {M : Mem} {W E : Int → Int} {f n : Int} (hn : 0 ≤ n) : ∀ (j : Nat) (s : St), (∀ i : Int, 0 ≤ i → i < j → W (n + i) = M 5 (4 * f + (M 4 f - 1 - i)) ∧ E (n + i) = 0) → SR M W E (n.toNat + j) s = SR M W E n.toNat (pof (PO M) M f j s) := by
  intro j
  induction j with
  | zero => intro s _; rfl
  | succ j ih =>
    intro s h
    have hj := h j (by omega) (by omega)
    show SR M W E (n.toNat + j + 1) s = _
    rw [SR_s, show ((n.toNat + j : Nat) : Int) = n + j by omega, hj.1, hj.2, if_neg (by decide), ih _ (fun i h0 h1 => h i h0 (by omega))]
    rfl
/-- how many of the first places hold 1 -/
def cnt1 (f : Int → Int) : Nat → Nat
  | 0 => 0
  | n + 1 => cnt1 f n + (if f n = 1 then 1 else 0)
theorem cnt1_s (f : Int → Int) (n : Nat) : cnt1 f (n + 1) = cnt1 f n + (if f n = 1 then 1 else 0) := rfl
theorem cnt1_congr {f g : Int → Int} : ∀ n : Nat, (∀ i : Int, 0 ≤ i → i < n → f i = g i) → cnt1 f n = cnt1 g n := by
  intro n
  induction n with
  | zero => intro _; rfl
  | succ n ih => intro h; rw [cnt1_s, cnt1_s, ih (fun i h0 h1 => h i h0 (by omega)), h n (by omega) (by omega)]
theorem cnt1_zeros {f : Int → Int} (a : Nat) : ∀ b : Nat, (∀ i : Int, a ≤ i → i < a + b → f i = 0) → cnt1 f (a + b) = cnt1 f a := by
  intro b
  induction b with
  | zero => intro _; rfl
  | succ b ih =>
    intro h
    show cnt1 f (a + b + 1) = _
    rw [cnt1_s, ih (fun i h0 h1 => h i h0 (by omega)), h ((a + b : Nat) : Int) (by omega) (by omega), if_neg (by decide)]
    rfl
def LFI (M : Mem) (n : Int) (M1 : Mem) (P : Int → Int) (out : List Int) (fin : St) : Prop :=
  (∀ k : Int, k ≠ 18 → k ≠ 20 → k ≠ 21 → k ≠ 22 → k ≠ 23 → M1 k = M k) ∧ 0 ≤ n ∧ n + 4 * (cntz (M1 22) (M 0 0).toNat : Int) ≤ 164 ∧
  out.length + cnt1 (M1 23) n.toNat + cntz (M1 22) (M 0 0).toNat ≤ 41 ∧
  (∀ i : Int, 0 ≤ i → i < n → 0 ≤ M1 18 i ∧ M1 18 i < M 0 0) ∧
  (∀ x : Int, 0 ≤ x → x < M 0 0 → M1 22 x = P x) ∧
  M1 21 0 = out.length ∧ (∀ k : Int, 0 ≤ k → k < out.length → M1 20 k = out.getD k.toNat 0) ∧
  SR M (M1 18) (M1 23) n.toNat (P, out) = fin
theorem LFI_end {M : Mem} {n : Int} {M1 : Mem} {P : Int → Int} {out : List Int} {fin : St} (h : LFI M n M1 P out fin) (hn : n ≤ 0) : (P, out) = fin := by
  obtain ⟨-, h2, -, -, -, -, -, -, h9⟩ := h
  rw [show n.toNat = 0 by omega] at h9
  exact h9
/-- a place that isn't the faces' own end, and passed: nothing -/
theorem LFI_skip {M : Mem} {n m : Int} {M1 : Mem} {P : Int → Int} {out : List Int} {fin : St} (w : WFD M) (h : LFI M n M1 P out fin) (hn : 0 < n) (hm : m = n - 1) (he : M1 23 m = 0) (hp : M1 22 (M1 18 m) = 1) : LFI M m M1 P out fin := by
  subst hm
  obtain ⟨h1, h2, h3, h4, h5, h6, h7, h8, h9⟩ := h
  have hr := h5 (n - 1) (by omega) (by omega)
  have e : n.toNat = (n - 1).toNat + 1 := by omega
  have ei : (((n - 1).toNat : Nat) : Int) = n - 1 := by omega
  refine ⟨h1, by omega, by omega, ?_, fun i i0 i1 => h5 i i0 (by omega), h6, h7, h8, ?_⟩
  · rw [e, cnt1_s] at h4
    omega
  · rw [← h9, e, SR_s, ei, he, if_neg (by decide), PO_eq w hr.1 hr.2, if_pos (show P (M1 18 (n - 1)) = 1 by rw [← h6 _ hr.1 hr.2]; exact hp)]
/-- the end of a face's own faces -/
theorem LFI_emit {M : Mem} {n m : Int} {M1 M2 : Mem} {P : Int → Int} {out : List Int} {fin : St} (h : LFI M n M1 P out fin) (hn : 0 < n) (hm : m = n - 1) (he : M1 23 m = 1) (hk : M 2 (M1 18 m) = 1)
    (e1 : ∀ k : Int, k ≠ 20 → k ≠ 21 → M2 k = M1 k) (e2 : M2 21 0 = out.length + 1) (e3 : M2 20 out.length = M1 18 m) (e4 : ∀ k : Int, k ≠ out.length → M2 20 k = M1 20 k) : LFI M m M2 P (out ++ [M1 18 m]) fin := by
  subst hm
  obtain ⟨h1, h2, h3, h4, h5, h6, h7, h8, h9⟩ := h
  have e : n.toNat = (n - 1).toNat + 1 := by omega
  have ei : (((n - 1).toNat : Nat) : Int) = n - 1 := by omega
  have w18 := e1 18 (by decide) (by decide)
  have w22 := e1 22 (by decide) (by decide)
  have w23 := e1 23 (by decide) (by decide)
  refine ⟨fun k a1 a2 a3 a4 a5 => (e1 k a2 a3).trans (h1 k a1 a2 a3 a4 a5), by omega, by rw [w22]; omega, ?_, fun i i0 i1 => by rw [w18]; exact h5 i i0 (by omega), fun x x0 x1 => by rw [w22]; exact h6 x x0 x1, ?_, fun k k0 k1 => ?_, ?_⟩
  · rw [e, cnt1_s, ei, he, if_pos rfl] at h4
    rw [w23, w22, List.length_append, List.length_singleton]
    omega
  · rw [e2, List.length_append, List.length_singleton]; omega
  · rw [List.length_append, List.length_singleton] at k1
    by_cases hk1 : k = out.length
    · rw [hk1, e3, List.getD_eq_getElem?_getD, Int.toNat_natCast, List.getElem?_append_right (Nat.le_refl _), Nat.sub_self]; rfl
    · rw [e4 k hk1, h8 k k0 (by omega), List.getD_eq_getElem?_getD, List.getD_eq_getElem?_getD, List.getElem?_append_left (by omega)]
  · rw [← h9, e, SR_s, ei, he, if_pos rfl, w18, w23]
    unfold emitF
    rw [if_pos hk]
theorem LFI_noemit {M : Mem} {n m : Int} {M1 : Mem} {P : Int → Int} {out : List Int} {fin : St} (h : LFI M n M1 P out fin) (hn : 0 < n) (hm : m = n - 1) (he : M1 23 m = 1) (hk : M 2 (M1 18 m) ≠ 1) : LFI M m M1 P out fin := by
  subst hm
  obtain ⟨h1, h2, h3, h4, h5, h6, h7, h8, h9⟩ := h
  have e : n.toNat = (n - 1).toNat + 1 := by omega
  have ei : (((n - 1).toNat : Nat) : Int) = n - 1 := by omega
  refine ⟨h1, by omega, by omega, ?_, fun i i0 i1 => h5 i i0 (by omega), h6, h7, h8, ?_⟩
  · rw [e, cnt1_s] at h4
    omega
  · rw [← h9, e, SR_s, ei, he, if_pos rfl]
    unfold emitF
    rw [if_neg hk]
theorem LFI_push {M : Mem} {n m f : Int} {M1 M2 : Mem} {P : Int → Int} {out : List Int} {fin : St} (w : WFD M) (h : LFI M n M1 P out fin) (hn : 0 < n) (hm : m = n - 1) (hf : M1 18 m = f) (he : M1 23 m = 0) (hz : M1 22 f = 0)
    (e1 : ∀ k : Int, k ≠ 18 → k ≠ 22 → k ≠ 23 → M2 k = M1 k) (e2 : M2 22 f = 1) (e3 : ∀ x, x ≠ f → M2 22 x = M1 22 x) (e4 : ∀ i : Int, 0 ≤ i → i < n → M2 18 i = M1 18 i) (e5 : M2 23 m = 1) (e6 : ∀ i : Int, 0 ≤ i → i < m → M2 23 i = M1 23 i)
    (e7 : ∀ j : Int, 0 ≤ j → j < M 4 f → M2 18 (n + j) = M 5 (4 * f + (M 4 f - 1 - j)) ∧ M2 23 (n + j) = 0) : LFI M (n + M 4 f) M2 (up1 P f) out fin ∧ cntz (M2 22) (M 0 0).toNat + 1 = cntz (M1 22) (M 0 0).toNat := by
  subst hm
  obtain ⟨h1, h2, h3, h4, h5, h6, h7, h8, h9⟩ := h
  have hr := h5 (n - 1) (by omega) (by omega)
  rw [hf] at hr
  have hn0 := w.n
  have hc := (w.cnt f hr.1 (by omega)).1
  have e : n.toNat = (n - 1).toNat + 1 := by omega
  have ei : (((n - 1).toNat : Nat) : Int) = n - 1 := by omega
  have hcz := cntz_upd (f := M1 22) (g := M2 22) (i := f) hz (by rw [e2]; decide) (fun j hj => e3 j hj) (M 0 0).toNat hr.1 (by omega)
  have w20 := e1 20 (by decide) (by decide) (by decide)
  have w21 := e1 21 (by decide) (by decide) (by decide)
  have hc1 : cnt1 (M2 23) (n + M 4 f).toNat = cnt1 (M1 23) n.toNat + 1 := by
    rw [show (n + M 4 f).toNat = n.toNat + (M 4 f).toNat by omega, cnt1_zeros n.toNat (M 4 f).toNat (fun i i0 i1 => by have := (e7 (i - n) (by omega) (by omega)).2; rwa [show n + (i - n) = i by omega] at this), e, cnt1_s, cnt1_s, ei, e5, he, if_pos rfl, if_neg (by decide), cnt1_congr (g := M1 23) _ (fun i i0 i1 => e6 i i0 (by omega))]
  refine ⟨⟨fun k a1 a2 a3 a4 a5 => (e1 k a1 a4 a5).trans (h1 k a1 a2 a3 a4 a5), by omega, by omega, by omega, fun i i0 i1 => ?_, fun x x0 x1 => ?_, by rw [w21]; exact h7, fun k k0 k1 => by rw [w20]; exact h8 k k0 k1, ?_⟩, hcz⟩
  · by_cases c1 : i < n
    · rw [e4 i i0 c1]; exact h5 i i0 c1
    · have hff := w.face f (M 4 f - 1 - (i - n)) hr.1 hr.2 (by omega) (by omega)
      have := (e7 (i - n) (by omega) (by omega)).1
      rw [show n + (i - n) = i by omega] at this
      rw [this]
      exact ⟨hff.1, hff.2.1⟩
  · by_cases hx : x = f
    · rw [hx, e2, up1_s]
    · rw [e3 x hx, up1_n _ hx]; exact h6 x x0 x1
  · have hPf : ¬ P f = 1 := by rw [← h6 f hr.1 hr.2, hz]; decide
    rw [← h9, show (n + M 4 f).toNat = n.toNat + (M 4 f).toNat by omega, SR_faces h2 (M 4 f).toNat _ (fun i i0 i1 => e7 i i0 (by omega)), e, SR_s, SR_s, ei, e5, he, if_pos rfl, if_neg (by decide), e4 (n - 1) (by omega) (by omega), hf, PO_eq w hr.1 hr.2 (P, out), if_neg hPf]
    exact SR_congr _ _ (fun i i0 i1 => ⟨e4 i i0 (by omega), e6 i i0 (by omega)⟩)
theorem SD_LF {M M1 : Mem} (h : SD M M1) (t : Int) : LF M1 t = LF M t := by
  have key : ∀ (n : Nat) (f : Int) (s : St), po M1 n f s = po M n f s := by
    intro n
    induction n with
    | zero => intro f s; rfl
    | succ n ih =>
      intro f s
      have hg : po M1 n = po M n := funext fun f => funext fun s => ih f s
      have hc : ∀ j s, pof (po M n) M1 f j s = pof (po M n) M f j s := by
        intro j
        induction j with
        | zero => intro s; rfl
        | succ j ihj => intro s; unfold pof; rw [h 4 (by decide) (by decide), h 5 (by decide) (by decide)]; exact ihj _
      unfold po emitF
      rw [hg, hc, h 4 (by decide) (by decide), h 2 (by decide) (by decide)]
  have hP : PO M1 = PO M := funext fun f => funext fun s => key 41 f s
  have hc : ∀ j s, pof (PO M) M1 t j s = pof (PO M) M t j s := by
    intro j
    induction j with
    | zero => intro s; rfl
    | succ j ihj => intro s; unfold pof; rw [h 4 (by decide) (by decide), h 5 (by decide) (by decide)]; exact ihj _
  unfold LF LPs
  rw [hP, hc, h 4 (by decide) (by decide), h 3 (by decide) (by decide), h 1 (by decide) (by decide)]
theorem po_all {M : Mem} (w : WFD M) {Q : Int → Prop} (hQ : ∀ u, 0 ≤ u → u < M 0 0 → M 1 u = 1 → M 2 u = 1 → Q u) : ∀ (h : Nat) (f : Int) (s : St), 0 ≤ f → f < M 0 0 → M 1 f = 1 → (∀ x ∈ s.2, Q x) → ∀ x ∈ (po M h f s).2, Q x := by
  intro h
  induction h with
  | zero => intro f s _ _ _ hs; exact hs
  | succ h ih =>
    intro f s f0 f1 ff hs
    have hj : ∀ (j : Nat) (s : St), j ≤ (M 4 f).toNat → (∀ x ∈ s.2, Q x) → ∀ x ∈ (pof (po M h) M f j s).2, Q x := by
      intro j
      induction j with
      | zero => intro s _ hs; exact hs
      | succ j ihj =>
        intro s hj hs
        have hf := w.face f (M 4 f - 1 - j) f0 f1 (by omega) (by omega)
        exact ihj _ (by omega) (ih _ s hf.1 hf.2.1 hf.2.2 hs)
    unfold po
    split
    · exact hs
    · unfold emitF
      split
      · rename_i hm
        intro x hx
        rcases List.mem_append.mp hx with h1 | h1
        · exact hj _ (up1 s.1 f, s.2) (Nat.le_refl _) hs x h1
        · rw [List.mem_singleton.mp h1]; exact hQ f f0 f1 ff hm
      · exact hj _ (up1 s.1 f, s.2) (Nat.le_refl _) hs
theorem LF_all {M : Mem} (w : WFD M) {t : Int} (t0 : 0 ≤ t) (t1 : t < M 0 0) : ∀ x ∈ LF M t, 0 ≤ x ∧ x < M 0 0 := by
  intro x hx
  unfold LF at hx
  split at hx
  · exact absurd hx List.not_mem_nil
  · have hab := w.above t t0 t1
    have hj : ∀ (j : Nat) (s : St), j ≤ (M 4 t).toNat → (∀ x ∈ s.2, 0 ≤ x ∧ x < M 0 0) → ∀ x ∈ (pof (PO M) M t j s).2, 0 ≤ x ∧ x < M 0 0 := by
      intro j
      induction j with
      | zero => intro s _ hs; exact hs
      | succ j ihj =>
        intro s hj hs
        have hf := w.face t (M 4 t - 1 - j) t0 t1 (by omega) (by omega)
        exact ihj _ (by omega) (po_all w (fun u h0 h1 _ _ => ⟨h0, h1⟩) 41 _ s hf.1 hf.2.1 hf.2.2 hs)
    refine hj _ _ (Nat.le_refl _) (fun y hy => ?_) x hx
    simp only [] at hy
    split at hy
    · exact absurd hy List.not_mem_nil
    · rw [List.mem_singleton.mp hy]; omega
end
section
theorem LFI_init {M : Mem} {t n : Int} {M1 : Mem} (w : WFD M) (t0 : 0 ≤ t) (t1 : t < M 0 0) (hn : n = M 4 t) (f : ∀ k : Int, k ≠ 18 → k ≠ 20 → k ≠ 21 → k ≠ 22 → k ≠ 23 → M1 k = M k) (h4 : M1 21 0 = (if M 3 t < 0 then [] else [M 3 t] : List Int).length) (h5 : ∀ k : Int, 0 ≤ k → k < (if M 3 t < 0 then [] else [M 3 t] : List Int).length → M1 20 k = (if M 3 t < 0 then [] else [M 3 t] : List Int).getD k.toNat 0) (h6 : ∀ i : Int, 0 ≤ i → i < M 0 0 → M1 22 i = 0) (h7 : ∀ i : Int, 0 ≤ i → i < M 4 t → M1 18 i = M 5 (4 * t + (M 4 t - 1 - i)) ∧ M1 23 i = 0) (hx : 0 ≤ n) : LFI M n M1 (fun _ => 0) (if M 3 t < 0 then [] else [M 3 t] : List Int) (LPs M t) := by
  have hn0 := w.n
  have hl := cntz_le (M1 22) (M 0 0).toNat
  have hc := (w.cnt t t0 (by omega)).1
  have h8 : cnt1 (M1 23) n.toNat = 0 := by
    have := cnt1_zeros (f := M1 23) 0 n.toNat (fun i i0 i1 => (h7 i (by omega) (by omega)).2)
    rw [Nat.zero_add] at this
    exact this
  have h9 : (if M 3 t < 0 then [] else [M 3 t] : List Int).length ≤ 1 := by split <;> simp
  refine ⟨f, hx, by omega, by omega, fun i i0 i1 => ?_, h6, h4, h5, ?_⟩
  · have hf := w.face t (M 4 t - 1 - i) t0 t1 (by omega) (by omega)
    rw [(h7 i i0 (by omega)).1]
    exact ⟨hf.1, hf.2.1⟩
  · have := SR_faces (M := M) (W := M1 18) (E := M1 23) (f := t) (n := 0) (by decide) (M 4 t).toNat ((fun _ => 0), (if M 3 t < 0 then [] else [M 3 t] : List Int)) (fun i i0 i1 => by rw [Int.zero_add]; exact h7 i i0 (by omega))
    rw [show (0 : Int).toNat + (M 4 t).toNat = n.toNat by omega] at this
    rw [this]
    rfl
theorem tX7_listFirst {Γ : GC} {αC : Sh} {C M : Mem} {t : Int} (w : WFD M) (ht : 0 ≤ t ∧ t < M 0 0) : MM Γ yX7_listFirst cX7_listFirst 5 none 0 [(0, t)] αC C M (mN fun M1 => (∀ k : Int, k ≠ 18 → k ≠ 20 → k ≠ 21 → k ≠ 22 → k ≠ 23 → M1 k = M k) ∧ M1 21 0 = (LF M t).length ∧ (LF M t).length ≤ 41 ∧ (∀ k : Int, 0 ≤ k → k < (LF M t).length → M1 20 k = (LF M t).getD k.toNat 0)) := by
  have hn0 := w.n
  have hc4 := (w.cnt t ht.1 (by omega)).1
  have hab := w.above t ht.1 ht.2
  refine MM_of (k := 3) [(3, 0), (0, t), (9, 0), (9, 0), (9, 0)] pn_X7_listFirst rfl rfl rfl (fun ad0 => ?_)
  have outer : ∀ (n : Int) (M1 : Mem) (P : Int → Int) (out : List Int), M 1 t ≠ 1 → LFI M n M1 P out (LPs M t) → V Γ (gα αC) ad0 (ZM Γ (gα αC) ad0 (mQ αC C (mN fun M1 => (∀ k : Int, k ≠ 18 → k ≠ 20 → k ≠ 21 → k ≠ 22 → k ≠ 23 → M1 k = M k) ∧ M1 21 0 = (LF M t).length ∧ (LF M t).length ≤ 41 ∧ (∀ k : Int, 0 ≤ k → k < (LF M t).length → M1 20 k = (LF M t).getD k.toNat 0))) 0 0) (RM 0 0 0) RX7 cX7_listFirst 5 none yX7_listFirst.name 111 [] [(3, 0), (0, t), (0, n), (9, 0), (9, 0)] (gα αC) (mm M1 C) 0 0 := by
    intro n M1 P out hface hI
    revert hI hface
    revert n M1 P out
    have outer4 : ∀ (n : Int) (M1 : Mem) (P : Int → Int) (out : List Int), (M 1 t ≠ 1 ∧ LFI M n M1 P out (LPs M t)) → V Γ (gα αC) ad0 (ZM Γ (gα αC) ad0 (mQ αC C (mN fun M1 => (∀ k : Int, k ≠ 18 → k ≠ 20 → k ≠ 21 → k ≠ 22 → k ≠ 23 → M1 k = M k) ∧ M1 21 0 = (LF M t).length ∧ (LF M t).length ≤ 41 ∧ (∀ k : Int, 0 ≤ k → k < (LF M t).length → M1 20 k = (LF M t).getD k.toNat 0))) 0 0) (RM 0 0 0) RX7 cX7_listFirst 5 none yX7_listFirst.name 111 [] [(3, 0), (0, t), (0, n), (9, 0), (9, 0)] (gα αC) (mm M1 C) 0 0 := by
      refine loop4 _ (fun n M1 _ _ => 6 * cntz (M1 22) (M 0 0).toNat + n.toNat) _ ?_
      rintro n M1 P out ⟨hface, hI⟩ ih0
      have ih : ∀ (n1 : Int) (M2 : Mem) (P1 : Int → Int) (out1 : List Int), M 1 t ≠ 1 → LFI M n1 M2 P1 out1 (LPs M t) → 6 * cntz (M2 22) (M 0 0).toNat + n1.toNat < 6 * cntz (M1 22) (M 0 0).toNat + n.toNat → V Γ (gα αC) ad0 (ZM Γ (gα αC) ad0 (mQ αC C (mN fun M1 => (∀ k : Int, k ≠ 18 → k ≠ 20 → k ≠ 21 → k ≠ 22 → k ≠ 23 → M1 k = M k) ∧ M1 21 0 = (LF M t).length ∧ (LF M t).length ≤ 41 ∧ (∀ k : Int, 0 ≤ k → k < (LF M t).length → M1 20 k = (LF M t).getD k.toNat 0))) 0 0) (RM 0 0 0) RX7 cX7_listFirst 5 none yX7_listFirst.name 111 [] [(3, 0), (0, t), (0, n1), (9, 0), (9, 0)] (gα αC) (mm M2 C) 0 0 := fun n1 M2 P1 out1 h1 h2 h3 => ih0 n1 M2 P1 out1 ⟨h1, h2⟩ h3
      have fM1 := hI.1
      have hsz1 := hI.2.2.1
      refine V_iload_n (q := 112) dX7_listFirst_111 rfl rfl rfl ?_
      refine V_if_le (q := 115) (tgt := 246) dX7_listFirst_112 (by decide) rfl (fun c112 => ?_) (fun c112 => ?_)
      · have hfin := LFI_end hI (by omega)
        have hLF : out = LF M t := by unfold LF; rw [if_neg hface, ← hfin]
        rw [hLF] at hI
        exact VM_vret dX7_listFirst_246 ⟨rfl, hI.1, hI.2.2.2.2.2.2.1, by have := hI.2.2.2.1; omega, hI.2.2.2.2.2.2.2.1⟩
      · refine V_iinc (q := 118) dX7_listFirst_115 rfl rfl (by decide) rfl (by omega) (fun z115 lz115 ez115 hlz115 => ?_)
        obtain rfl : lz115 = [(3, 0), (0, t), (0, z115), (9, 0), (9, 0)] := hlz115
        have hpos : 0 < n := by omega
        refine V_aload_n (q := 119) dX7_listFirst_118 rfl rfl rfl ?_
        refine VM_getA (q := 122) 19 dX7_listFirst_119 rfl flX7_59 rfl rfl (Nat.succ_ne_zero _) ?_
        refine V_iload_n (q := 123) dX7_listFirst_122 rfl rfl rfl ?_
        refine VM_iald (q := 124) 18 dX7_listFirst_123 rfl rfl (by decide) rfl rfl (by omega) (fun z123 ez123 rz123 => ?_)
        refine V_istore_n (q := 125) (lv1 := [(3, 0), (0, t), (0, z115), (0, z123), (9, 0)]) dX7_listFirst_124 rfl rfl (by decide) rfl rfl ?_
        have hr := hI.2.2.2.2.1 z115 (by omega) (by omega)
        rw [← ez123] at hr
        refine V_aload_n (q := 126) dX7_listFirst_125 rfl rfl rfl ?_
        refine VM_getA (q := 129) 24 dX7_listFirst_126 rfl flX7_71 rfl rfl (Nat.succ_ne_zero _) ?_
        refine V_iload_n (q := 130) dX7_listFirst_129 rfl rfl rfl ?_
        refine VM_zald (q := 131) 23 dX7_listFirst_130 rfl rfl (by decide) rfl rfl (by omega) (fun z130 ez130 rz130 => ?_)
        refine V_if_eq (q := 134) (tgt := 166) dX7_listFirst_131 (by decide) rfl (fun c131 => ?_) (fun c131 => ?_)
        · refine V_aload_n (q := 167) dX7_listFirst_166 rfl rfl rfl ?_
          refine VM_getA (q := 170) 23 dX7_listFirst_167 rfl flX7_68 rfl rfl (Nat.succ_ne_zero _) ?_
          refine V_iload_n (q := 171) dX7_listFirst_170 rfl rfl rfl ?_
          refine VM_zald (q := 172) 22 dX7_listFirst_171 rfl rfl (by decide) rfl rfl (by omega) (fun z171 ez171 rz171 => ?_)
          refine V_if_eq (q := 175) (tgt := 178) dX7_listFirst_172 (by decide) rfl (fun c172 => ?_) (fun c172 => ?_)
          · have hc4f := (w.cnt z123 hr.1 (by omega)).1
            have hsz := hI.2.2.1
            refine V_aload_n (q := 179) dX7_listFirst_178 rfl rfl rfl ?_
            refine VM_getA (q := 182) 23 dX7_listFirst_179 rfl flX7_68 rfl rfl (Nat.succ_ne_zero _) ?_
            refine V_iload_n (q := 183) dX7_listFirst_182 rfl rfl rfl ?_
            refine V_iconst (q := 184) dX7_listFirst_183 rfl (by decide) ?_
            refine VM_zast (q := 185) 22 dX7_listFirst_184 rfl rfl (by decide) rfl rfl (by omega) (by omega) (fun M184 eM184 => ?_)
            have fM184 : ∀ k : Int, k ≠ 18 → k ≠ 20 → k ≠ 21 → k ≠ 22 → k ≠ 23 → M184 k = M k := by intro k h1 h2 h3 h4 h5; rw [eM184, mu_f _ _ _ _ h4]; exact fM1 k h1 h2 h3 h4 h5
            refine V_aload_n (q := 186) dX7_listFirst_185 rfl rfl rfl ?_
            refine VM_getA (q := 189) 24 dX7_listFirst_186 rfl flX7_71 rfl rfl (Nat.succ_ne_zero _) ?_
            refine V_iload_n (q := 190) dX7_listFirst_189 rfl rfl rfl ?_
            refine V_iconst (q := 191) dX7_listFirst_190 rfl (by decide) ?_
            refine VM_zast (q := 192) 23 dX7_listFirst_191 rfl rfl (by decide) rfl rfl (by omega) (by omega) (fun M191 eM191 => ?_)
            have fM191 : ∀ k : Int, k ≠ 18 → k ≠ 20 → k ≠ 21 → k ≠ 22 → k ≠ 23 → M191 k = M k := by intro k h1 h2 h3 h4 h5; rw [eM191, mu_f _ _ _ _ h5]; exact fM184 k h1 h2 h3 h4 h5
            refine V_iinc (q := 195) dX7_listFirst_192 rfl rfl (by decide) rfl (by omega) (fun z192 lz192 ez192 hlz192 => ?_)
            obtain rfl : lz192 = [(3, 0), (0, t), (0, z192), (0, z123), (9, 0)] := hlz192
            refine V_aload_n (q := 196) dX7_listFirst_195 rfl rfl rfl ?_
            refine VM_getA (q := 199) 5 dX7_listFirst_196 rfl flX7_20 rfl rfl (Nat.succ_ne_zero _) ?_
            refine V_iload_n (q := 200) dX7_listFirst_199 rfl rfl rfl ?_
            refine VM_iald (q := 201) 4 dX7_listFirst_200 rfl rfl (by decide) rfl rfl (by omega) (fun z200 ez200 rz200 => ?_)
            rw [fM191 4 (by decide) (by decide) (by decide) (by decide) (by decide)] at ez200
            refine V_iconst (q := 202) dX7_listFirst_201 rfl (by decide) ?_
            refine V_isub (q := 203) dX7_listFirst_202 rfl (by omega) (fun z202 ez202 => ?_)
            refine V_istore (q := 205) (lv1 := [(3, 0), (0, t), (0, z192), (0, z123), (0, z202)]) dX7_listFirst_203 rfl (by decide) rfl rfl ?_
            have inner : ∀ (k n1 : Int) (M2 : Mem), (-1 ≤ k ∧ k < M 4 z123 ∧ n1 = n + (M 4 z123 - 1 - k) ∧ (∀ k : Int, k ≠ 18 → k ≠ 22 → k ≠ 23 → M2 k = M1 k) ∧ M2 22 z123 = 1 ∧ (∀ x, x ≠ z123 → M2 22 x = M1 22 x) ∧ (∀ i : Int, 0 ≤ i → i < n → M2 18 i = M1 18 i) ∧ M2 23 z115 = 1 ∧ (∀ i : Int, 0 ≤ i → i < z115 → M2 23 i = M1 23 i) ∧ (∀ j : Int, 0 ≤ j → j < M 4 z123 - 1 - k → M2 18 (n + j) = M 5 (4 * z123 + (M 4 z123 - 1 - j)) ∧ M2 23 (n + j) = 0)) → V Γ (gα αC) ad0 (ZM Γ (gα αC) ad0 (mQ αC C (mN fun M1 => (∀ k : Int, k ≠ 18 → k ≠ 20 → k ≠ 21 → k ≠ 22 → k ≠ 23 → M1 k = M k) ∧ M1 21 0 = (LF M t).length ∧ (LF M t).length ≤ 41 ∧ (∀ k : Int, 0 ≤ k → k < (LF M t).length → M1 20 k = (LF M t).getD k.toNat 0))) 0 0) (RM 0 0 0) RX7 cX7_listFirst 5 none yX7_listFirst.name 205 [] [(3, 0), (0, t), (0, n1), (0, z123), (0, k)] (gα αC) (mm M2 C) 0 0 := by
              refine loop3 _ (fun k _ _ => (k + 1).toNat) _ ?_
              rintro k n1 M2 ⟨j0, j1, j2, j3, j4, j5, j6, j7, j8, j9⟩ ih2
              have fM2 : ∀ k : Int, k ≠ 18 → k ≠ 20 → k ≠ 21 → k ≠ 22 → k ≠ 23 → M2 k = M k := fun k h1 h2 h3 h4 h5 => (j3 k h1 h4 h5).trans (fM1 k h1 h2 h3 h4 h5)
              refine V_iload (q := 207) dX7_listFirst_205 rfl rfl ?_
              refine V_if_lt (q := 210) (tgt := 243) dX7_listFirst_207 (by decide) rfl (fun c207 => ?_) (fun c207 => ?_)
              · refine V_goto (tgt := 111) dX7_listFirst_243 (by decide) ?_
                refine V_fgt [(3, 0), (0, t), (0, n1), (9, 0), (9, 0)] ⟨Or.inl rfl, Or.inl rfl, Or.inl rfl, Or.inr rfl, Or.inr rfl, trivial⟩ ?_
                obtain ⟨hL, hcz⟩ := LFI_push w hI hpos (show z115 = n - 1 by omega) ez123.symm (by rw [← ez130]; exact c131) (by rw [← ez171]; exact c172) j3 j4 j5 j6 j7 j8 (fun j jj0 jj1 => j9 j jj0 (by omega))
                exact ih n1 M2 (up1 P z123) out (by omega) (by rw [show n1 = n + M 4 z123 by omega]; exact hL) (by omega)
              · have hfc := w.face z123 k hr.1 hr.2 (by omega) (by omega)
                refine V_aload_n (q := 211) dX7_listFirst_210 rfl rfl rfl ?_
                refine VM_getA (q := 214) 19 dX7_listFirst_211 rfl flX7_59 rfl rfl (Nat.succ_ne_zero _) ?_
                refine V_iload_n (q := 215) dX7_listFirst_214 rfl rfl rfl ?_
                refine V_aload_n (q := 216) dX7_listFirst_215 rfl rfl rfl ?_
                refine VM_getA (q := 219) 6 dX7_listFirst_216 rfl flX7_23 rfl rfl (Nat.succ_ne_zero _) ?_
                refine V_iconst (q := 220) dX7_listFirst_219 rfl (by decide) ?_
                refine V_iload_n (q := 221) dX7_listFirst_220 rfl rfl rfl ?_
                refine V_imul (q := 222) dX7_listFirst_221 rfl (by omega) (fun z221 ez221 => ?_)
                refine V_iload (q := 224) dX7_listFirst_222 rfl rfl ?_
                refine V_iadd (q := 225) dX7_listFirst_224 rfl (by omega) (fun z224 ez224 => ?_)
                refine VM_iald (q := 226) 5 dX7_listFirst_225 rfl rfl (by decide) rfl rfl (by omega) (fun z225 ez225 rz225 => ?_)
                rw [fM2 5 (by decide) (by decide) (by decide) (by decide) (by decide)] at ez225
                refine VM_iast (q := 227) 18 dX7_listFirst_226 rfl rfl (by decide) rfl rfl (by omega) (fun M226 eM226 => ?_)
                have fM226 : ∀ k : Int, k ≠ 18 → k ≠ 20 → k ≠ 21 → k ≠ 22 → k ≠ 23 → M226 k = M k := by intro k h1 h2 h3 h4 h5; rw [eM226, mu_f _ _ _ _ h1]; exact fM2 k h1 h2 h3 h4 h5
                refine V_aload_n (q := 228) dX7_listFirst_227 rfl rfl rfl ?_
                refine VM_getA (q := 231) 24 dX7_listFirst_228 rfl flX7_71 rfl rfl (Nat.succ_ne_zero _) ?_
                refine V_iload_n (q := 232) dX7_listFirst_231 rfl rfl rfl ?_
                refine V_iconst (q := 233) dX7_listFirst_232 rfl (by decide) ?_
                refine VM_zast (q := 234) 23 dX7_listFirst_233 rfl rfl (by decide) rfl rfl (by omega) (by omega) (fun M233 eM233 => ?_)
                have fM233 : ∀ k : Int, k ≠ 18 → k ≠ 20 → k ≠ 21 → k ≠ 22 → k ≠ 23 → M233 k = M k := by intro k h1 h2 h3 h4 h5; rw [eM233, mu_f _ _ _ _ h5]; exact fM226 k h1 h2 h3 h4 h5
                refine V_iinc (q := 237) dX7_listFirst_234 rfl rfl (by decide) rfl (by omega) (fun z234 lz234 ez234 hlz234 => ?_)
                obtain rfl : lz234 = [(3, 0), (0, t), (0, z234), (0, z123), (0, k)] := hlz234
                refine V_iinc (q := 240) dX7_listFirst_237 rfl rfl (by decide) rfl (by omega) (fun z237 lz237 ez237 hlz237 => ?_)
                obtain rfl : lz237 = [(3, 0), (0, t), (0, z234), (0, z123), (0, z237)] := hlz237
                refine V_goto (tgt := 205) dX7_listFirst_240 (by decide) ?_
                exact ih2 (z237) (z234) M233 ⟨by omega, by omega, by omega, fun k a1 a2 a3 => by { rw [eM233, mu_f _ _ _ _ a3, eM226, mu_f _ _ _ _ a1]; exact j3 k a1 a2 a3 }, by rw [eM233, mu_f _ _ _ _ (by decide), eM226, mu_f _ _ _ _ (by decide)]; exact j4, fun x hx => by rw [eM233, mu_f _ _ _ _ (by decide), eM226, mu_f _ _ _ _ (by decide)]; exact j5 x hx, fun i i0 i1 => by rw [eM233, mu_f _ _ _ _ (by decide), eM226, mu_i _ _ _ _ (by omega)]; exact j6 i i0 i1, by rw [eM233, mu_i _ _ _ _ (by omega), eM226, mu_f _ _ _ _ (by decide)]; exact j7, fun i i0 i1 => by rw [eM233, mu_i _ _ _ _ (by omega), eM226, mu_f _ _ _ _ (by decide)]; exact j8 i i0 i1, fun j jj0 jj1 => by { rw [eM233]; by_cases hj : n + j = n1; { constructor; { rw [hj, mu_f _ _ _ _ (by decide : (18 : Int) ≠ 23), eM226, mu_s, ez225, show z224 = 4 * z123 + (M 4 z123 - 1 - j) by omega] }; { rw [hj, mu_s] } }; { constructor; { rw [mu_f _ _ _ _ (by decide : (18 : Int) ≠ 23), eM226, mu_i _ _ _ _ hj]; exact (j9 j jj0 (by omega)).1 }; { rw [mu_i _ _ _ _ hj, eM226, mu_f _ _ _ _ (by decide : (23 : Int) ≠ 18)]; exact (j9 j jj0 (by omega)).2 } } }⟩ (by omega)
            exact inner (z202) (z192) M191 ⟨by omega, by omega, by omega, fun k a1 a2 a3 => by rw [eM191, mu_f _ _ _ _ a3, eM184, mu_f _ _ _ _ a2], by rw [eM191, mu_f _ _ _ _ (by decide), eM184, mu_s], fun x hx => by rw [eM191, mu_f _ _ _ _ (by decide), eM184, mu_i _ _ _ _ hx], fun i i0 i1 => by rw [eM191, mu_f _ _ _ _ (by decide), eM184, mu_f _ _ _ _ (by decide)], by rw [eM191, mu_s], fun i i0 i1 => by rw [eM191, mu_i _ _ _ _ (by omega), eM184, mu_f _ _ _ _ (by decide)], fun j jj0 jj1 => absurd jj1 (by omega)⟩
          · refine V_goto (tgt := 111) dX7_listFirst_175 (by decide) ?_
            refine V_fgt [(3, 0), (0, t), (0, z115), (9, 0), (9, 0)] ⟨Or.inl rfl, Or.inl rfl, Or.inl rfl, Or.inr rfl, Or.inr rfl, trivial⟩ ?_
            exact ih (z115) M1 P out (by omega) (LFI_skip w hI hpos (by omega) (by rw [← ez130]; exact c131) (by rw [← ez123, ← ez171]; omega)) (by omega)
        · refine V_aload_n (q := 135) dX7_listFirst_134 rfl rfl rfl ?_
          refine VM_getA (q := 138) 3 dX7_listFirst_135 rfl flX7_13 rfl rfl (Nat.succ_ne_zero _) ?_
          refine V_iload_n (q := 139) dX7_listFirst_138 rfl rfl rfl ?_
          refine VM_zald (q := 140) 2 dX7_listFirst_139 rfl rfl (by decide) rfl rfl (by omega) (fun z139 ez139 rz139 => ?_)
          rw [fM1 2 (by decide) (by decide) (by decide) (by decide) (by decide)] at ez139
          refine V_if_eq (q := 143) (tgt := 111) dX7_listFirst_140 (by decide) rfl (fun c140 => ?_) (fun c140 => ?_)
          · refine V_fgt [(3, 0), (0, t), (0, z115), (9, 0), (9, 0)] ⟨Or.inl rfl, Or.inl rfl, Or.inl rfl, Or.inr rfl, Or.inr rfl, trivial⟩ ?_
            exact ih (z115) M1 P out (by omega) (LFI_noemit hI hpos (by omega) (by rw [← ez130]; omega) (by rw [← ez123, ← ez139]; omega)) (by omega)
          · have hl21 := hI.2.2.2.2.2.2.1
            have hl41 := hI.2.2.2.1
            have hce : cnt1 (M1 23) n.toNat = cnt1 (M1 23) z115.toNat + 1 := by { rw [show n.toNat = z115.toNat + 1 by omega, cnt1_s, show ((z115.toNat : Nat) : Int) = z115 by omega, if_pos (by omega)] }
            refine V_aload_n (q := 144) dX7_listFirst_143 rfl rfl rfl ?_
            refine VM_getA (q := 147) 21 dX7_listFirst_144 rfl flX7_65 rfl rfl (Nat.succ_ne_zero _) ?_
            refine V_aload_n (q := 148) dX7_listFirst_147 rfl rfl rfl ?_
            refine VM_getI (q := 151) 21 dX7_listFirst_148 rfl flX7_164 rfl rfl rfl (fun z148 ez148 rz148 => ?_)
            refine V_iload_n (q := 152) dX7_listFirst_151 rfl rfl rfl ?_
            refine VM_iast (q := 153) 20 dX7_listFirst_152 rfl rfl (by decide) rfl rfl (by omega) (fun M152 eM152 => ?_)
            have fM152 : ∀ k : Int, k ≠ 18 → k ≠ 20 → k ≠ 21 → k ≠ 22 → k ≠ 23 → M152 k = M k := by intro k h1 h2 h3 h4 h5; rw [eM152, mu_f _ _ _ _ h2]; exact fM1 k h1 h2 h3 h4 h5
            refine V_aload_n (q := 154) dX7_listFirst_153 rfl rfl rfl ?_
            refine V_dup (q := 155) dX7_listFirst_154 rfl (by decide) ?_
            refine VM_getI (q := 158) 21 dX7_listFirst_155 rfl flX7_164 rfl rfl rfl (fun z155 ez155 rz155 => ?_)
            rw [eM152, mu_f _ _ _ _ (by decide)] at ez155
            refine V_iconst (q := 159) dX7_listFirst_158 rfl (by decide) ?_
            refine V_iadd (q := 160) dX7_listFirst_159 rfl (by omega) (fun z159 ez159 => ?_)
            refine VM_putI (q := 163) 21 dX7_listFirst_160 rfl flX7_164 rfl rfl rfl rfl (fun M160 eM160 => ?_)
            have fM160 : ∀ k : Int, k ≠ 18 → k ≠ 20 → k ≠ 21 → k ≠ 22 → k ≠ 23 → M160 k = M k := by intro k h1 h2 h3 h4 h5; rw [eM160, mu_f _ _ _ _ h3]; exact fM152 k h1 h2 h3 h4 h5
            refine V_goto (tgt := 111) dX7_listFirst_163 (by decide) ?_
            refine V_fgt [(3, 0), (0, t), (0, z115), (9, 0), (9, 0)] ⟨Or.inl rfl, Or.inl rfl, Or.inl rfl, Or.inr rfl, Or.inr rfl, trivial⟩ ?_
            exact ih (z115) M160 P (out ++ [M1 18 z115]) (by omega) (LFI_emit hI hpos (by omega) (by rw [← ez130]; omega) (by rw [← ez123, ← ez139]; omega) (fun k a1 a2 => by rw [eM160, mu_f _ _ _ _ a2, eM152, mu_f _ _ _ _ a1]) (by rw [eM160, mu_s]; omega) (by rw [eM160, mu_f _ _ _ _ (by decide), eM152, ← hl21, ← ez148, mu_s, ez123]) (fun k a1 => by rw [eM160, mu_f _ _ _ _ (by decide), eM152, mu_i _ _ _ _ (by omega)])) (by rw [eM160, mu_f _ _ _ _ (by decide), eM152, mu_f _ _ _ _ (by decide)]; omega)
    exact fun n M1 P out h1 h2 => outer4 n M1 P out ⟨h1, h2⟩
  have push : ∀ (n k : Int) (M1 : Mem), (M 1 t ≠ 1 ∧ n = M 4 t - 1 - k ∧ -1 ≤ k ∧ k < M 4 t ∧ (∀ k : Int, k ≠ 18 → k ≠ 20 → k ≠ 21 → k ≠ 22 → k ≠ 23 → M1 k = M k) ∧ M1 21 0 = (if M 3 t < 0 then [] else [M 3 t] : List Int).length ∧ (∀ k : Int, 0 ≤ k → k < (if M 3 t < 0 then [] else [M 3 t] : List Int).length → M1 20 k = (if M 3 t < 0 then [] else [M 3 t] : List Int).getD k.toNat 0) ∧ (∀ i : Int, 0 ≤ i → i < M 0 0 → M1 22 i = 0) ∧ (∀ j : Int, 0 ≤ j → j < n → M1 18 j = M 5 (4 * t + (M 4 t - 1 - j)) ∧ M1 23 j = 0)) → V Γ (gα αC) ad0 (ZM Γ (gα αC) ad0 (mQ αC C (mN fun M1 => (∀ k : Int, k ≠ 18 → k ≠ 20 → k ≠ 21 → k ≠ 22 → k ≠ 23 → M1 k = M k) ∧ M1 21 0 = (LF M t).length ∧ (LF M t).length ≤ 41 ∧ (∀ k : Int, 0 ≤ k → k < (LF M t).length → M1 20 k = (LF M t).getD k.toNat 0))) 0 0) (RM 0 0 0) RX7 cX7_listFirst 5 none yX7_listFirst.name 75 [] [(3, 0), (0, t), (0, n), (0, k), (9, 0)] (gα αC) (mm M1 C) 0 0 := by
    refine loop3 _ (fun _ k _ => (k + 1).toNat) _ ?_
    rintro n k M1 ⟨hface, p1, p2, pk, p3, p4, p5, p6, p7⟩ ih
    have fM1 := p3
    refine V_iload_n (q := 76) dX7_listFirst_75 rfl rfl rfl ?_
    refine V_if_lt (q := 79) (tgt := 111) dX7_listFirst_76 (by decide) rfl (fun c76 => ?_) (fun c76 => ?_)
    · refine V_fgt [(3, 0), (0, t), (0, n), (9, 0), (9, 0)] ⟨Or.inl rfl, Or.inl rfl, Or.inl rfl, Or.inr rfl, Or.inr rfl, trivial⟩ ?_
      exact outer n M1 (fun _ => 0) (if M 3 t < 0 then [] else [M 3 t] : List Int) hface (LFI_init w ht.1 ht.2 (by omega) p3 p4 p5 p6 (fun j j0 j1 => p7 j j0 (by omega)) (by omega))
    · have hfc := w.face t k ht.1 ht.2 (by omega) (by omega)
      refine V_aload_n (q := 80) dX7_listFirst_79 rfl rfl rfl ?_
      refine VM_getA (q := 83) 19 dX7_listFirst_80 rfl flX7_59 rfl rfl (Nat.succ_ne_zero _) ?_
      refine V_iload_n (q := 84) dX7_listFirst_83 rfl rfl rfl ?_
      refine V_aload_n (q := 85) dX7_listFirst_84 rfl rfl rfl ?_
      refine VM_getA (q := 88) 6 dX7_listFirst_85 rfl flX7_23 rfl rfl (Nat.succ_ne_zero _) ?_
      refine V_iconst (q := 89) dX7_listFirst_88 rfl (by decide) ?_
      refine V_iload_n (q := 90) dX7_listFirst_89 rfl rfl rfl ?_
      refine V_imul (q := 91) dX7_listFirst_90 rfl (by omega) (fun z90 ez90 => ?_)
      refine V_iload_n (q := 92) dX7_listFirst_91 rfl rfl rfl ?_
      refine V_iadd (q := 93) dX7_listFirst_92 rfl (by omega) (fun z92 ez92 => ?_)
      refine VM_iald (q := 94) 5 dX7_listFirst_93 rfl rfl (by decide) rfl rfl (by omega) (fun z93 ez93 rz93 => ?_)
      rw [fM1 5 (by decide) (by decide) (by decide) (by decide) (by decide)] at ez93
      refine VM_iast (q := 95) 18 dX7_listFirst_94 rfl rfl (by decide) rfl rfl (by omega) (fun M94 eM94 => ?_)
      have fM94 : ∀ k : Int, k ≠ 18 → k ≠ 20 → k ≠ 21 → k ≠ 22 → k ≠ 23 → M94 k = M k := by intro k h1 h2 h3 h4 h5; rw [eM94, mu_f _ _ _ _ h1]; exact fM1 k h1 h2 h3 h4 h5
      refine V_aload_n (q := 96) dX7_listFirst_95 rfl rfl rfl ?_
      refine VM_getA (q := 99) 24 dX7_listFirst_96 rfl flX7_71 rfl rfl (Nat.succ_ne_zero _) ?_
      refine V_iload_n (q := 100) dX7_listFirst_99 rfl rfl rfl ?_
      refine V_iconst (q := 101) dX7_listFirst_100 rfl (by decide) ?_
      refine VM_zast (q := 102) 23 dX7_listFirst_101 rfl rfl (by decide) rfl rfl (by omega) (by omega) (fun M101 eM101 => ?_)
      have fM101 : ∀ k : Int, k ≠ 18 → k ≠ 20 → k ≠ 21 → k ≠ 22 → k ≠ 23 → M101 k = M k := by intro k h1 h2 h3 h4 h5; rw [eM101, mu_f _ _ _ _ h5]; exact fM94 k h1 h2 h3 h4 h5
      refine V_iinc (q := 105) dX7_listFirst_102 rfl rfl (by decide) rfl (by omega) (fun z102 lz102 ez102 hlz102 => ?_)
      obtain rfl : lz102 = [(3, 0), (0, t), (0, z102), (0, k), (9, 0)] := hlz102
      refine V_iinc (q := 108) dX7_listFirst_105 rfl rfl (by decide) rfl (by omega) (fun z105 lz105 ez105 hlz105 => ?_)
      obtain rfl : lz105 = [(3, 0), (0, t), (0, z102), (0, z105), (9, 0)] := hlz105
      refine V_goto (tgt := 75) dX7_listFirst_108 (by decide) ?_
      exact ih (z102) (z105) M101 ⟨hface, by omega, by omega, by omega, fM101, by rw [eM101, mu_f _ _ _ _ (by decide), eM94, mu_f _ _ _ _ (by decide)]; exact p4, fun k k0 k1 => by { rw [eM101, mu_f _ _ _ _ (by decide), eM94, mu_f _ _ _ _ (by decide)]; exact p5 k k0 k1 }, fun j j0 j1 => by { rw [eM101, mu_f _ _ _ _ (by decide), eM94, mu_f _ _ _ _ (by decide)]; exact p6 j j0 j1 }, fun j j0 j1 => by { rw [eM101]; by_cases hj : j = n; { constructor; { rw [hj, mu_f _ _ _ _ (by decide : (18 : Int) ≠ 23), eM94, mu_s, ez93, show z92 = 4 * t + (M 4 t - 1 - n) by omega] }; { rw [hj, mu_s] } }; { constructor; { rw [mu_f _ _ _ _ (by decide : (18 : Int) ≠ 23), eM94, mu_i _ _ _ _ hj]; exact (p7 j j0 (by omega)).1 }; { rw [mu_i _ _ _ _ hj, eM94, mu_f _ _ _ _ (by decide : (23 : Int) ≠ 18)]; exact (p7 j j0 (by omega)).2 } } }⟩ (by omega)
  have clr : ∀ (i : Int) (M1 : Mem), (0 ≤ i ∧ i ≤ M 0 0 ∧ (∀ k : Int, k ≠ 18 → k ≠ 20 → k ≠ 21 → k ≠ 22 → k ≠ 23 → M1 k = M k) ∧ M1 21 0 = (if M 3 t < 0 then [] else [M 3 t] : List Int).length ∧ (∀ k : Int, 0 ≤ k → k < (if M 3 t < 0 then [] else [M 3 t] : List Int).length → M1 20 k = (if M 3 t < 0 then [] else [M 3 t] : List Int).getD k.toNat 0) ∧ (∀ j : Int, 0 ≤ j → j < i → M1 22 j = 0)) → M 1 t ≠ 1 → V Γ (gα αC) ad0 (ZM Γ (gα αC) ad0 (mQ αC C (mN fun M1 => (∀ k : Int, k ≠ 18 → k ≠ 20 → k ≠ 21 → k ≠ 22 → k ≠ 23 → M1 k = M k) ∧ M1 21 0 = (LF M t).length ∧ (LF M t).length ≤ 41 ∧ (∀ k : Int, 0 ≤ k → k < (LF M t).length → M1 20 k = (LF M t).getD k.toNat 0))) 0 0) (RM 0 0 0) RX7 cX7_listFirst 5 none yX7_listFirst.name 43 [] [(3, 0), (0, t), (0, i), (9, 0), (9, 0)] (gα αC) (mm M1 C) 0 0 := by
    intro i M1 hh hface
    revert hh
    revert i M1
    refine loop2 _ (fun i _ => (M 0 0 - i).toNat) _ ?_
    rintro i M1 ⟨g1, g2, g3, g4, g5, g6⟩ ih
    have fM1 := g3
    refine V_iload_n (q := 44) dX7_listFirst_43 rfl rfl rfl ?_
    refine V_aload_n (q := 45) dX7_listFirst_44 rfl rfl rfl ?_
    refine VM_getI (q := 48) 0 dX7_listFirst_45 rfl flX7_128 rfl rfl rfl (fun z45 ez45 rz45 => ?_)
    rw [fM1 0 (by decide) (by decide) (by decide) (by decide) (by decide)] at ez45
    refine V_icmp_ge (q := 51) (tgt := 64) dX7_listFirst_48 (by decide) rfl (fun c48 => ?_) (fun c48 => ?_)
    · refine V_iconst (q := 65) dX7_listFirst_64 rfl (by decide) ?_
      refine V_istore_n (q := 66) (lv1 := [(3, 0), (0, t), (0, 0), (9, 0), (9, 0)]) dX7_listFirst_65 rfl rfl (by decide) rfl rfl ?_
      refine V_aload_n (q := 67) dX7_listFirst_66 rfl rfl rfl ?_
      refine VM_getA (q := 70) 5 dX7_listFirst_67 rfl flX7_20 rfl rfl (Nat.succ_ne_zero _) ?_
      refine V_iload_n (q := 71) dX7_listFirst_70 rfl rfl rfl ?_
      refine VM_iald (q := 72) 4 dX7_listFirst_71 rfl rfl (by decide) rfl rfl (by omega) (fun z71 ez71 rz71 => ?_)
      rw [fM1 4 (by decide) (by decide) (by decide) (by decide) (by decide)] at ez71
      refine V_iconst (q := 73) dX7_listFirst_72 rfl (by decide) ?_
      refine V_isub (q := 74) dX7_listFirst_73 rfl (by omega) (fun z73 ez73 => ?_)
      refine V_istore_n (q := 75) (lv1 := [(3, 0), (0, t), (0, 0), (0, z73), (9, 0)]) dX7_listFirst_74 rfl rfl (by decide) rfl rfl ?_
      exact push (0) (z73) M1 ⟨hface, by omega, by omega, by omega, fM1, g4, g5, fun j j0 j1 => g6 j j0 (by omega), fun j j0 j1 => absurd j1 (by omega)⟩
    · refine V_aload_n (q := 52) dX7_listFirst_51 rfl rfl rfl ?_
      refine VM_getA (q := 55) 23 dX7_listFirst_52 rfl flX7_68 rfl rfl (Nat.succ_ne_zero _) ?_
      refine V_iload_n (q := 56) dX7_listFirst_55 rfl rfl rfl ?_
      refine V_iconst (q := 57) dX7_listFirst_56 rfl (by decide) ?_
      refine VM_zast (q := 58) 22 dX7_listFirst_57 rfl rfl (by decide) rfl rfl (by omega) (by omega) (fun M57 eM57 => ?_)
      have fM57 : ∀ k : Int, k ≠ 18 → k ≠ 20 → k ≠ 21 → k ≠ 22 → k ≠ 23 → M57 k = M k := by intro k h1 h2 h3 h4 h5; rw [eM57, mu_f _ _ _ _ h4]; exact fM1 k h1 h2 h3 h4 h5
      refine V_iinc (q := 61) dX7_listFirst_58 rfl rfl (by decide) rfl (by omega) (fun z58 lz58 ez58 hlz58 => ?_)
      obtain rfl : lz58 = [(3, 0), (0, t), (0, z58), (9, 0), (9, 0)] := hlz58
      refine V_goto (tgt := 43) dX7_listFirst_61 (by decide) ?_
      exact ih (z58) M57 ⟨by omega, by omega, fM57, by rw [eM57, mu_f _ _ _ _ (by decide)]; exact g4, fun k k0 k1 => by { rw [eM57, mu_f _ _ _ _ (by decide)]; exact g5 k k0 k1 }, fun j j0 j1 => by { rw [eM57]; by_cases hj : j = i; { rw [hj, mu_s] }; { rw [mu_i _ _ _ _ hj]; exact g6 j j0 (by omega) } }⟩ (by omega)
  refine V_aload_n (q := 1) dX7_listFirst_0 rfl rfl rfl ?_
  refine V_iconst (q := 2) dX7_listFirst_1 rfl (by decide) ?_
  refine VM_putI (q := 5) 21 dX7_listFirst_2 rfl flX7_164 rfl rfl rfl rfl (fun M2 eM2 => ?_)
  have fM2 : ∀ k : Int, k ≠ 18 → k ≠ 20 → k ≠ 21 → k ≠ 22 → k ≠ 23 → M2 k = M k := by intro k h1 h2 h3 h4 h5; rw [eM2, mu_f _ _ _ _ h3]
  refine V_aload_n (q := 6) dX7_listFirst_5 rfl rfl rfl ?_
  refine VM_getA (q := 9) 2 dX7_listFirst_6 rfl flX7_7 rfl rfl (Nat.succ_ne_zero _) ?_
  refine V_iload_n (q := 10) dX7_listFirst_9 rfl rfl rfl ?_
  refine VM_zald (q := 11) 1 dX7_listFirst_10 rfl rfl (by decide) rfl rfl (by omega) (fun z10 ez10 rz10 => ?_)
  rw [fM2 1 (by decide) (by decide) (by decide) (by decide) (by decide)] at ez10
  refine V_if_eq (q := 14) (tgt := 15) dX7_listFirst_11 (by decide) rfl (fun c11 => ?_) (fun c11 => ?_)
  · have hface : M 1 t ≠ 1 := by omega
    refine V_aload_n (q := 16) dX7_listFirst_15 rfl rfl rfl ?_
    refine VM_getA (q := 19) 4 dX7_listFirst_16 rfl flX7_16 rfl rfl (Nat.succ_ne_zero _) ?_
    refine V_iload_n (q := 20) dX7_listFirst_19 rfl rfl rfl ?_
    refine VM_iald (q := 21) 3 dX7_listFirst_20 rfl rfl (by decide) rfl rfl (by omega) (fun z20 ez20 rz20 => ?_)
    rw [fM2 3 (by decide) (by decide) (by decide) (by decide) (by decide)] at ez20
    refine V_if_lt (q := 24) (tgt := 41) dX7_listFirst_21 (by decide) rfl (fun c21 => ?_) (fun c21 => ?_)
    · refine V_iconst (q := 42) dX7_listFirst_41 rfl (by decide) ?_
      refine V_istore_n (q := 43) (lv1 := [(3, 0), (0, t), (0, 0), (9, 0), (9, 0)]) dX7_listFirst_42 rfl rfl (by decide) rfl rfl ?_
      exact clr 0 M2 ⟨by decide, hn0.1, fM2, by rw [eM2, mu_s, if_pos (by omega)]; rfl, fun k k0 k1 => by { rw [if_pos (by omega)] at k1; exact absurd k1 (by simp only [List.length_nil]; omega) }, fun i i0 i1 => absurd i1 (by omega)⟩ hface
    · refine V_aload_n (q := 25) dX7_listFirst_24 rfl rfl rfl ?_
      refine VM_getA (q := 28) 21 dX7_listFirst_25 rfl flX7_65 rfl rfl (Nat.succ_ne_zero _) ?_
      refine V_iconst (q := 29) dX7_listFirst_28 rfl (by decide) ?_
      refine V_aload_n (q := 30) dX7_listFirst_29 rfl rfl rfl ?_
      refine VM_getA (q := 33) 4 dX7_listFirst_30 rfl flX7_16 rfl rfl (Nat.succ_ne_zero _) ?_
      refine V_iload_n (q := 34) dX7_listFirst_33 rfl rfl rfl ?_
      refine VM_iald (q := 35) 3 dX7_listFirst_34 rfl rfl (by decide) rfl rfl (by omega) (fun z34 ez34 rz34 => ?_)
      rw [fM2 3 (by decide) (by decide) (by decide) (by decide) (by decide)] at ez34
      refine VM_iast (q := 36) 20 dX7_listFirst_35 rfl rfl (by decide) rfl rfl (by omega) (fun M35 eM35 => ?_)
      have fM35 : ∀ k : Int, k ≠ 18 → k ≠ 20 → k ≠ 21 → k ≠ 22 → k ≠ 23 → M35 k = M k := by intro k h1 h2 h3 h4 h5; rw [eM35, mu_f _ _ _ _ h2]; exact fM2 k h1 h2 h3 h4 h5
      refine V_aload_n (q := 37) dX7_listFirst_36 rfl rfl rfl ?_
      refine V_iconst (q := 38) dX7_listFirst_37 rfl (by decide) ?_
      refine VM_putI (q := 41) 21 dX7_listFirst_38 rfl flX7_164 rfl rfl rfl rfl (fun M38 eM38 => ?_)
      have fM38 : ∀ k : Int, k ≠ 18 → k ≠ 20 → k ≠ 21 → k ≠ 22 → k ≠ 23 → M38 k = M k := by intro k h1 h2 h3 h4 h5; rw [eM38, mu_f _ _ _ _ h3]; exact fM35 k h1 h2 h3 h4 h5
      refine V_iconst (q := 42) dX7_listFirst_41 rfl (by decide) ?_
      refine V_istore_n (q := 43) (lv1 := [(3, 0), (0, t), (0, 0), (9, 0), (9, 0)]) dX7_listFirst_42 rfl rfl (by decide) rfl rfl ?_
      exact clr 0 M38 ⟨by decide, hn0.1, fM38, by rw [eM38, mu_s, if_neg (by omega)]; rfl, fun k k0 k1 => by { rw [if_neg (by omega)] at k1 ⊢; simp only [List.length_singleton] at k1; rw [show k = 0 by omega, eM38, mu_f _ _ _ _ (by decide), eM35, mu_s, ez34]; rfl }, fun i i0 i1 => absurd i1 (by omega)⟩ hface
  · have hLF : LF M t = [] := by unfold LF; rw [if_pos (by omega)]
    exact VM_vret dX7_listFirst_14 ⟨rfl, fM2, by rw [eM2, mu_s, hLF]; rfl, by rw [hLF]; exact Nat.zero_le _, fun k k0 k1 => by { rw [hLF] at k1; exact absurd k1 (by simp only [List.length_nil]; omega) }⟩
end
