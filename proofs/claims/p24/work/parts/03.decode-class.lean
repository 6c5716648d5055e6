theorem dX0_init_0 : decode cX0_init 0 = .ok (.aload_n 0, 1) := by decide +kernel
theorem dX0_init_1 : decode cX0_init 1 = .ok (.invokespecial 1, 3) := by decide +kernel
theorem dX0_init_4 : decode cX0_init 4 = .ok (.aload_n 0, 1) := by decide +kernel
theorem dX0_init_5 : decode cX0_init 5 = .ok (.iload_n 1, 1) := by decide +kernel
theorem dX0_init_6 : decode cX0_init 6 = .ok (.putfield 7, 3) := by decide +kernel
theorem dX0_init_9 : decode cX0_init 9 = .ok (.aload_n 0, 1) := by decide +kernel
theorem dX0_init_10 : decode cX0_init 10 = .ok (.iload_n 2, 1) := by decide +kernel
theorem dX0_init_11 : decode cX0_init 11 = .ok (.putfield 13, 3) := by decide +kernel
theorem dX0_init_14 : decode cX0_init 14 = .ok (.aload_n 0, 1) := by decide +kernel
theorem dX0_init_15 : decode cX0_init 15 = .ok (.iload_n 3, 1) := by decide +kernel
theorem dX0_init_16 : decode cX0_init 16 = .ok (.putfield 16, 3) := by decide +kernel
theorem dX0_init_19 : decode cX0_init 19 = .ok (.aload_n 0, 1) := by decide +kernel
theorem dX0_init_20 : decode cX0_init 20 = .ok (.iload 4, 2) := by decide +kernel
theorem dX0_init_22 : decode cX0_init 22 = .ok (.putfield 19, 3) := by decide +kernel
theorem dX0_init_25 : decode cX0_init 25 = .ok (.return_, 1) := by decide +kernel
theorem dX1_init_0 : decode cX1_init 0 = .ok (.aload_n 0, 1) := by decide +kernel
theorem dX1_init_1 : decode cX1_init 1 = .ok (.invokespecial 3, 3) := by decide +kernel
theorem dX1_init_4 : decode cX1_init 4 = .ok (.aload_n 0, 1) := by decide +kernel
theorem dX1_init_5 : decode cX1_init 5 = .ok (.bipush 12, 2) := by decide +kernel
theorem dX1_init_7 : decode cX1_init 7 = .ok (.anewarray 9, 3) := by decide +kernel
theorem dX1_init_10 : decode cX1_init 10 = .ok (.putfield 11, 3) := by decide +kernel
theorem dX1_init_13 : decode cX1_init 13 = .ok (.return_, 1) := by decide +kernel
theorem dX1_append_0 : decode cX1_append 0 = .ok (.aload_n 0, 1) := by decide +kernel
theorem dX1_append_1 : decode cX1_append 1 = .ok (.getfield 17, 3) := by decide +kernel
theorem dX1_append_4 : decode cX1_append 4 = .ok (.bipush 12, 2) := by decide +kernel
theorem dX1_append_6 : decode cX1_append 6 = .ok (.if_icmp .ge 23, 3) := by decide +kernel
theorem dX1_append_9 : decode cX1_append 9 = .ok (.aload_n 0, 1) := by decide +kernel
theorem dX1_append_10 : decode cX1_append 10 = .ok (.getfield 11, 3) := by decide +kernel
theorem dX1_append_13 : decode cX1_append 13 = .ok (.aload_n 0, 1) := by decide +kernel
theorem dX1_append_14 : decode cX1_append 14 = .ok (.getfield 17, 3) := by decide +kernel
theorem dX1_append_17 : decode cX1_append 17 = .ok (.aload_n 1, 1) := by decide +kernel
theorem dX1_append_18 : decode cX1_append 18 = .ok (.aastore, 1) := by decide +kernel
theorem dX1_append_19 : decode cX1_append 19 = .ok (.aload_n 0, 1) := by decide +kernel
theorem dX1_append_20 : decode cX1_append 20 = .ok (.dup, 1) := by decide +kernel
theorem dX1_append_21 : decode cX1_append 21 = .ok (.getfield 17, 3) := by decide +kernel
theorem dX1_append_24 : decode cX1_append 24 = .ok (.iconst 1, 1) := by decide +kernel
theorem dX1_append_25 : decode cX1_append 25 = .ok (.iadd, 1) := by decide +kernel
theorem dX1_append_26 : decode cX1_append 26 = .ok (.putfield 17, 3) := by decide +kernel
theorem dX1_append_29 : decode cX1_append 29 = .ok (.aload_n 0, 1) := by decide +kernel
theorem dX1_append_30 : decode cX1_append 30 = .ok (.getfield 17, 3) := by decide +kernel
theorem dX1_append_33 : decode cX1_append 33 = .ok (.ireturn, 1) := by decide +kernel
theorem dX2_init_0 : decode cX2_init 0 = .ok (.aload_n 0, 1) := by decide +kernel
theorem dX2_init_1 : decode cX2_init 1 = .ok (.invokespecial 3, 3) := by decide +kernel
theorem dX2_init_4 : decode cX2_init 4 = .ok (.aload_n 0, 1) := by decide +kernel
theorem dX2_init_5 : decode cX2_init 5 = .ok (.bipush 40, 2) := by decide +kernel
theorem dX2_init_7 : decode cX2_init 7 = .ok (.anewarray 9, 3) := by decide +kernel
theorem dX2_init_10 : decode cX2_init 10 = .ok (.putfield 11, 3) := by decide +kernel
theorem dX2_init_13 : decode cX2_init 13 = .ok (.aload_n 0, 1) := by decide +kernel
theorem dX2_init_14 : decode cX2_init 14 = .ok (.sipush 400, 3) := by decide +kernel
theorem dX2_init_17 : decode cX2_init 17 = .ok (.newarray .int, 2) := by decide +kernel
theorem dX2_init_19 : decode cX2_init 19 = .ok (.putfield 17, 3) := by decide +kernel
theorem dX2_init_22 : decode cX2_init 22 = .ok (.aload_n 0, 1) := by decide +kernel
theorem dX2_init_23 : decode cX2_init 23 = .ok (.bipush 40, 2) := by decide +kernel
theorem dX2_init_25 : decode cX2_init 25 = .ok (.newarray .int, 2) := by decide +kernel
theorem dX2_init_27 : decode cX2_init 27 = .ok (.putfield 21, 3) := by decide +kernel
theorem dX2_init_30 : decode cX2_init 30 = .ok (.aload_n 0, 1) := by decide +kernel
theorem dX2_init_31 : decode cX2_init 31 = .ok (.bipush 40, 2) := by decide +kernel
theorem dX2_init_33 : decode cX2_init 33 = .ok (.newarray .long, 2) := by decide +kernel
theorem dX2_init_35 : decode cX2_init 35 = .ok (.putfield 24, 3) := by decide +kernel
theorem dX2_init_38 : decode cX2_init 38 = .ok (.aload_n 0, 1) := by decide +kernel
theorem dX2_init_39 : decode cX2_init 39 = .ok (.getfield 17, 3) := by decide +kernel
theorem dX2_init_42 : decode cX2_init 42 = .ok (.iconst (-1), 1) := by decide +kernel
theorem dX2_init_43 : decode cX2_init 43 = .ok (.invokestatic 28, 3) := by decide +kernel
theorem dX2_init_46 : decode cX2_init 46 = .ok (.return_, 1) := by decide +kernel
theorem dX2_knows_0 : decode cX2_knows 0 = .ok (.iload_n 1, 1) := by decide +kernel
theorem dX2_knows_1 : decode cX2_knows 1 = .ok (.ifCond .lt 15, 3) := by decide +kernel
theorem dX2_knows_4 : decode cX2_knows 4 = .ok (.iload_n 1, 1) := by decide +kernel
theorem dX2_knows_5 : decode cX2_knows 5 = .ok (.aload_n 0, 1) := by decide +kernel
theorem dX2_knows_6 : decode cX2_knows 6 = .ok (.getfield 34, 3) := by decide +kernel
theorem dX2_knows_9 : decode cX2_knows 9 = .ok (.if_icmp .ge 7, 3) := by decide +kernel
theorem dX2_knows_12 : decode cX2_knows 12 = .ok (.iconst 1, 1) := by decide +kernel
theorem dX2_knows_13 : decode cX2_knows 13 = .ok (.goto 4, 3) := by decide +kernel
theorem dX2_knows_16 : decode cX2_knows 16 = .ok (.iconst 0, 1) := by decide +kernel
theorem dX2_knows_17 : decode cX2_knows 17 = .ok (.ireturn, 1) := by decide +kernel
theorem dX2_append_0 : decode cX2_append 0 = .ok (.aload_n 1, 1) := by decide +kernel
theorem dX2_append_1 : decode cX2_append 1 = .ok (.getfield 38, 3) := by decide +kernel
theorem dX2_append_4 : decode cX2_append 4 = .ok (.ifCond .lt 26, 3) := by decide +kernel
theorem dX2_append_7 : decode cX2_append 7 = .ok (.aload_n 1, 1) := by decide +kernel
theorem dX2_append_8 : decode cX2_append 8 = .ok (.lconst 1, 1) := by decide +kernel
theorem dX2_append_9 : decode cX2_append 9 = .ok (.aload_n 1, 1) := by decide +kernel
theorem dX2_append_10 : decode cX2_append 10 = .ok (.getfield 38, 3) := by decide +kernel
theorem dX2_append_13 : decode cX2_append 13 = .ok (.lshl, 1) := by decide +kernel
theorem dX2_append_14 : decode cX2_append 14 = .ok (.aload_n 0, 1) := by decide +kernel
theorem dX2_append_15 : decode cX2_append 15 = .ok (.getfield 11, 3) := by decide +kernel
theorem dX2_append_18 : decode cX2_append 18 = .ok (.aload_n 1, 1) := by decide +kernel
theorem dX2_append_19 : decode cX2_append 19 = .ok (.getfield 38, 3) := by decide +kernel
theorem dX2_append_22 : decode cX2_append 22 = .ok (.aaload, 1) := by decide +kernel
theorem dX2_append_23 : decode cX2_append 23 = .ok (.getfield 41, 3) := by decide +kernel
theorem dX2_append_26 : decode cX2_append 26 = .ok (.lor, 1) := by decide +kernel
theorem dX2_append_27 : decode cX2_append 27 = .ok (.putfield 41, 3) := by decide +kernel
theorem dX2_append_30 : decode cX2_append 30 = .ok (.aload_n 0, 1) := by decide +kernel
theorem dX2_append_31 : decode cX2_append 31 = .ok (.getfield 11, 3) := by decide +kernel
theorem dX2_append_34 : decode cX2_append 34 = .ok (.aload_n 0, 1) := by decide +kernel
theorem dX2_append_35 : decode cX2_append 35 = .ok (.getfield 34, 3) := by decide +kernel
theorem dX2_append_38 : decode cX2_append 38 = .ok (.aload_n 1, 1) := by decide +kernel
theorem dX2_append_39 : decode cX2_append 39 = .ok (.aastore, 1) := by decide +kernel
theorem dX2_append_40 : decode cX2_append 40 = .ok (.aload_n 0, 1) := by decide +kernel
theorem dX2_append_41 : decode cX2_append 41 = .ok (.dup, 1) := by decide +kernel
theorem dX2_append_42 : decode cX2_append 42 = .ok (.getfield 34, 3) := by decide +kernel
theorem dX2_append_45 : decode cX2_append 45 = .ok (.iconst 1, 1) := by decide +kernel
theorem dX2_append_46 : decode cX2_append 46 = .ok (.iadd, 1) := by decide +kernel
theorem dX2_append_47 : decode cX2_append 47 = .ok (.putfield 34, 3) := by decide +kernel
theorem dX2_append_50 : decode cX2_append 50 = .ok (.aload_n 0, 1) := by decide +kernel
theorem dX2_append_51 : decode cX2_append 51 = .ok (.getfield 34, 3) := by decide +kernel
theorem dX2_append_54 : decode cX2_append 54 = .ok (.iconst 1, 1) := by decide +kernel
theorem dX2_append_55 : decode cX2_append 55 = .ok (.isub, 1) := by decide +kernel
theorem dX2_append_56 : decode cX2_append 56 = .ok (.ireturn, 1) := by decide +kernel
theorem dX2_leadsTo_0 : decode cX2_leadsTo 0 = .ok (.aload_n 0, 1) := by decide +kernel
theorem dX2_leadsTo_1 : decode cX2_leadsTo 1 = .ok (.getfield 11, 3) := by decide +kernel
theorem dX2_leadsTo_4 : decode cX2_leadsTo 4 = .ok (.iload_n 1, 1) := by decide +kernel
theorem dX2_leadsTo_5 : decode cX2_leadsTo 5 = .ok (.aaload, 1) := by decide +kernel
theorem dX2_leadsTo_6 : decode cX2_leadsTo 6 = .ok (.getfield 41, 3) := by decide +kernel
theorem dX2_leadsTo_9 : decode cX2_leadsTo 9 = .ok (.iload_n 2, 1) := by decide +kernel
theorem dX2_leadsTo_10 : decode cX2_leadsTo 10 = .ok (.lshr, 1) := by decide +kernel
theorem dX2_leadsTo_11 : decode cX2_leadsTo 11 = .ok (.lconst 1, 1) := by decide +kernel
theorem dX2_leadsTo_12 : decode cX2_leadsTo 12 = .ok (.land, 1) := by decide +kernel
theorem dX2_leadsTo_13 : decode cX2_leadsTo 13 = .ok (.lconst 0, 1) := by decide +kernel
theorem dX2_leadsTo_14 : decode cX2_leadsTo 14 = .ok (.lcmp, 1) := by decide +kernel
theorem dX2_leadsTo_15 : decode cX2_leadsTo 15 = .ok (.ifCond .eq 7, 3) := by decide +kernel
theorem dX2_leadsTo_18 : decode cX2_leadsTo 18 = .ok (.iconst 1, 1) := by decide +kernel
theorem dX2_leadsTo_19 : decode cX2_leadsTo 19 = .ok (.goto 4, 3) := by decide +kernel
theorem dX2_leadsTo_22 : decode cX2_leadsTo 22 = .ok (.iconst 0, 1) := by decide +kernel
theorem dX2_leadsTo_23 : decode cX2_leadsTo 23 = .ok (.ireturn, 1) := by decide +kernel
theorem dX2_countLeading_0 : decode cX2_countLeading 0 = .ok (.iconst 0, 1) := by decide +kernel
theorem dX2_countLeading_1 : decode cX2_countLeading 1 = .ok (.istore_n 2, 1) := by decide +kernel
theorem dX2_countLeading_2 : decode cX2_countLeading 2 = .ok (.iconst 0, 1) := by decide +kernel
theorem dX2_countLeading_3 : decode cX2_countLeading 3 = .ok (.istore_n 3, 1) := by decide +kernel
theorem dX2_countLeading_4 : decode cX2_countLeading 4 = .ok (.iload_n 3, 1) := by decide +kernel
theorem dX2_countLeading_5 : decode cX2_countLeading 5 = .ok (.aload_n 0, 1) := by decide +kernel
theorem dX2_countLeading_6 : decode cX2_countLeading 6 = .ok (.getfield 34, 3) := by decide +kernel
theorem dX2_countLeading_9 : decode cX2_countLeading 9 = .ok (.if_icmp .ge 21, 3) := by decide +kernel
theorem dX2_countLeading_12 : decode cX2_countLeading 12 = .ok (.aload_n 0, 1) := by decide +kernel
theorem dX2_countLeading_13 : decode cX2_countLeading 13 = .ok (.iload_n 3, 1) := by decide +kernel
theorem dX2_countLeading_14 : decode cX2_countLeading 14 = .ok (.iload_n 1, 1) := by decide +kernel
theorem dX2_countLeading_15 : decode cX2_countLeading 15 = .ok (.invokevirtual 45, 3) := by decide +kernel
theorem dX2_countLeading_18 : decode cX2_countLeading 18 = .ok (.ifCond .eq 6, 3) := by decide +kernel
theorem dX2_countLeading_21 : decode cX2_countLeading 21 = .ok (.iinc 2 1, 3) := by decide +kernel
theorem dX2_countLeading_24 : decode cX2_countLeading 24 = .ok (.iinc 3 1, 3) := by decide +kernel
theorem dX2_countLeading_27 : decode cX2_countLeading 27 = .ok (.goto (-23), 3) := by decide +kernel
theorem dX2_countLeading_30 : decode cX2_countLeading 30 = .ok (.iload_n 2, 1) := by decide +kernel
theorem dX2_countLeading_31 : decode cX2_countLeading 31 = .ok (.ireturn, 1) := by decide +kernel
theorem dX2_putUnder_0 : decode cX2_putUnder 0 = .ok (.aload_n 0, 1) := by decide +kernel
theorem dX2_putUnder_1 : decode cX2_putUnder 1 = .ok (.getfield 11, 3) := by decide +kernel
theorem dX2_putUnder_4 : decode cX2_putUnder 4 = .ok (.iload_n 1, 1) := by decide +kernel
theorem dX2_putUnder_5 : decode cX2_putUnder 5 = .ok (.aaload, 1) := by decide +kernel
theorem dX2_putUnder_6 : decode cX2_putUnder 6 = .ok (.astore_n 3, 1) := by decide +kernel
theorem dX2_putUnder_7 : decode cX2_putUnder 7 = .ok (.aload_n 3, 1) := by decide +kernel
theorem dX2_putUnder_8 : decode cX2_putUnder 8 = .ok (.getfield 49, 3) := by decide +kernel
theorem dX2_putUnder_11 : decode cX2_putUnder 11 = .ok (.aload_n 3, 1) := by decide +kernel
theorem dX2_putUnder_12 : decode cX2_putUnder 12 = .ok (.getfield 52, 3) := by decide +kernel
theorem dX2_putUnder_15 : decode cX2_putUnder 15 = .ok (.iload_n 2, 1) := by decide +kernel
theorem dX2_putUnder_16 : decode cX2_putUnder 16 = .ok (.iastore, 1) := by decide +kernel
theorem dX2_putUnder_17 : decode cX2_putUnder 17 = .ok (.aload_n 3, 1) := by decide +kernel
theorem dX2_putUnder_18 : decode cX2_putUnder 18 = .ok (.dup, 1) := by decide +kernel
theorem dX2_putUnder_19 : decode cX2_putUnder 19 = .ok (.getfield 52, 3) := by decide +kernel
theorem dX2_putUnder_22 : decode cX2_putUnder 22 = .ok (.iconst 1, 1) := by decide +kernel
theorem dX2_putUnder_23 : decode cX2_putUnder 23 = .ok (.iadd, 1) := by decide +kernel
theorem dX2_putUnder_24 : decode cX2_putUnder 24 = .ok (.putfield 52, 3) := by decide +kernel
theorem dX2_putUnder_27 : decode cX2_putUnder 27 = .ok (.lconst 1, 1) := by decide +kernel
theorem dX2_putUnder_28 : decode cX2_putUnder 28 = .ok (.iload_n 2, 1) := by decide +kernel
theorem dX2_putUnder_29 : decode cX2_putUnder 29 = .ok (.lshl, 1) := by decide +kernel
theorem dX2_putUnder_30 : decode cX2_putUnder 30 = .ok (.aload_n 0, 1) := by decide +kernel
theorem dX2_putUnder_31 : decode cX2_putUnder 31 = .ok (.getfield 11, 3) := by decide +kernel
theorem dX2_putUnder_34 : decode cX2_putUnder 34 = .ok (.iload_n 2, 1) := by decide +kernel
theorem dX2_putUnder_35 : decode cX2_putUnder 35 = .ok (.aaload, 1) := by decide +kernel
theorem dX2_putUnder_36 : decode cX2_putUnder 36 = .ok (.getfield 41, 3) := by decide +kernel
theorem dX2_putUnder_39 : decode cX2_putUnder 39 = .ok (.lor, 1) := by decide +kernel
theorem dX2_putUnder_40 : decode cX2_putUnder 40 = .ok (.lstore 4, 2) := by decide +kernel
theorem dX2_putUnder_42 : decode cX2_putUnder 42 = .ok (.iconst 0, 1) := by decide +kernel
theorem dX2_putUnder_43 : decode cX2_putUnder 43 = .ok (.istore 6, 2) := by decide +kernel
theorem dX2_putUnder_45 : decode cX2_putUnder 45 = .ok (.iload 6, 2) := by decide +kernel
theorem dX2_putUnder_47 : decode cX2_putUnder 47 = .ok (.aload_n 0, 1) := by decide +kernel
theorem dX2_putUnder_48 : decode cX2_putUnder 48 = .ok (.getfield 34, 3) := by decide +kernel
theorem dX2_putUnder_51 : decode cX2_putUnder 51 = .ok (.if_icmp .ge 42, 3) := by decide +kernel
theorem dX2_putUnder_54 : decode cX2_putUnder 54 = .ok (.iload 6, 2) := by decide +kernel
theorem dX2_putUnder_56 : decode cX2_putUnder 56 = .ok (.iload_n 1, 1) := by decide +kernel
theorem dX2_putUnder_57 : decode cX2_putUnder 57 = .ok (.if_icmp .eq 13, 3) := by decide +kernel
theorem dX2_putUnder_60 : decode cX2_putUnder 60 = .ok (.aload_n 0, 1) := by decide +kernel
theorem dX2_putUnder_61 : decode cX2_putUnder 61 = .ok (.iload 6, 2) := by decide +kernel
theorem dX2_putUnder_63 : decode cX2_putUnder 63 = .ok (.iload_n 1, 1) := by decide +kernel
theorem dX2_putUnder_64 : decode cX2_putUnder 64 = .ok (.invokevirtual 45, 3) := by decide +kernel
theorem dX2_putUnder_67 : decode cX2_putUnder 67 = .ok (.ifCond .eq 20, 3) := by decide +kernel
theorem dX2_putUnder_70 : decode cX2_putUnder 70 = .ok (.aload_n 0, 1) := by decide +kernel
theorem dX2_putUnder_71 : decode cX2_putUnder 71 = .ok (.getfield 11, 3) := by decide +kernel
theorem dX2_putUnder_74 : decode cX2_putUnder 74 = .ok (.iload 6, 2) := by decide +kernel
theorem dX2_putUnder_76 : decode cX2_putUnder 76 = .ok (.aaload, 1) := by decide +kernel
theorem dX2_putUnder_77 : decode cX2_putUnder 77 = .ok (.dup, 1) := by decide +kernel
theorem dX2_putUnder_78 : decode cX2_putUnder 78 = .ok (.getfield 41, 3) := by decide +kernel
theorem dX2_putUnder_81 : decode cX2_putUnder 81 = .ok (.lload 4, 2) := by decide +kernel
theorem dX2_putUnder_83 : decode cX2_putUnder 83 = .ok (.lor, 1) := by decide +kernel
theorem dX2_putUnder_84 : decode cX2_putUnder 84 = .ok (.putfield 41, 3) := by decide +kernel
theorem dX2_putUnder_87 : decode cX2_putUnder 87 = .ok (.iinc 6 1, 3) := by decide +kernel
theorem dX2_putUnder_90 : decode cX2_putUnder 90 = .ok (.goto (-45), 3) := by decide +kernel
theorem dX2_putUnder_93 : decode cX2_putUnder 93 = .ok (.aload_n 0, 1) := by decide +kernel
theorem dX2_putUnder_94 : decode cX2_putUnder 94 = .ok (.invokevirtual 55, 3) := by decide +kernel
theorem dX2_putUnder_97 : decode cX2_putUnder 97 = .ok (.return_, 1) := by decide +kernel
theorem dX2_forgetFields_0 : decode cX2_forgetFields 0 = .ok (.aload_n 0, 1) := by decide +kernel
theorem dX2_forgetFields_1 : decode cX2_forgetFields 1 = .ok (.getfield 17, 3) := by decide +kernel
theorem dX2_forgetFields_4 : decode cX2_forgetFields 4 = .ok (.iconst (-1), 1) := by decide +kernel
theorem dX2_forgetFields_5 : decode cX2_forgetFields 5 = .ok (.invokestatic 28, 3) := by decide +kernel
theorem dX2_forgetFields_8 : decode cX2_forgetFields 8 = .ok (.return_, 1) := by decide +kernel
theorem dX2_fieldOwner_0 : decode cX2_fieldOwner 0 = .ok (.aload_n 0, 1) := by decide +kernel
theorem dX2_fieldOwner_1 : decode cX2_fieldOwner 1 = .ok (.iload_n 1, 1) := by decide +kernel
theorem dX2_fieldOwner_2 : decode cX2_fieldOwner 2 = .ok (.iload_n 2, 1) := by decide +kernel
theorem dX2_fieldOwner_3 : decode cX2_fieldOwner 3 = .ok (.iconst 0, 1) := by decide +kernel
theorem dX2_fieldOwner_4 : decode cX2_fieldOwner 4 = .ok (.invokevirtual 58, 3) := by decide +kernel
theorem dX2_fieldOwner_7 : decode cX2_fieldOwner 7 = .ok (.ireturn, 1) := by decide +kernel
theorem dX2_seekField_0 : decode cX2_seekField 0 = .ok (.iload_n 3, 1) := by decide +kernel
theorem dX2_seekField_1 : decode cX2_seekField 1 = .ok (.bipush 40, 2) := by decide +kernel
theorem dX2_seekField_3 : decode cX2_seekField 3 = .ok (.if_icmp .lt 6, 3) := by decide +kernel
theorem dX2_seekField_6 : decode cX2_seekField 6 = .ok (.bipush (-6), 2) := by decide +kernel
theorem dX2_seekField_8 : decode cX2_seekField 8 = .ok (.ireturn, 1) := by decide +kernel
theorem dX2_seekField_9 : decode cX2_seekField 9 = .ok (.iload_n 1, 1) := by decide +kernel
theorem dX2_seekField_10 : decode cX2_seekField 10 = .ok (.bipush 10, 2) := by decide +kernel
theorem dX2_seekField_12 : decode cX2_seekField 12 = .ok (.imul, 1) := by decide +kernel
theorem dX2_seekField_13 : decode cX2_seekField 13 = .ok (.iload_n 2, 1) := by decide +kernel
theorem dX2_seekField_14 : decode cX2_seekField 14 = .ok (.iadd, 1) := by decide +kernel
theorem dX2_seekField_15 : decode cX2_seekField 15 = .ok (.istore 4, 2) := by decide +kernel
theorem dX2_seekField_17 : decode cX2_seekField 17 = .ok (.aload_n 0, 1) := by decide +kernel
theorem dX2_seekField_18 : decode cX2_seekField 18 = .ok (.getfield 17, 3) := by decide +kernel
theorem dX2_seekField_21 : decode cX2_seekField 21 = .ok (.iload 4, 2) := by decide +kernel
theorem dX2_seekField_23 : decode cX2_seekField 23 = .ok (.iaload, 1) := by decide +kernel
theorem dX2_seekField_24 : decode cX2_seekField 24 = .ok (.iconst (-1), 1) := by decide +kernel
theorem dX2_seekField_25 : decode cX2_seekField 25 = .ok (.if_icmp .eq 11, 3) := by decide +kernel
theorem dX2_seekField_28 : decode cX2_seekField 28 = .ok (.aload_n 0, 1) := by decide +kernel
theorem dX2_seekField_29 : decode cX2_seekField 29 = .ok (.getfield 17, 3) := by decide +kernel
theorem dX2_seekField_32 : decode cX2_seekField 32 = .ok (.iload 4, 2) := by decide +kernel
theorem dX2_seekField_34 : decode cX2_seekField 34 = .ok (.iaload, 1) := by decide +kernel
theorem dX2_seekField_35 : decode cX2_seekField 35 = .ok (.ireturn, 1) := by decide +kernel
theorem dX2_seekField_36 : decode cX2_seekField 36 = .ok (.aload_n 0, 1) := by decide +kernel
theorem dX2_seekField_37 : decode cX2_seekField 37 = .ok (.getfield 11, 3) := by decide +kernel
theorem dX2_seekField_40 : decode cX2_seekField 40 = .ok (.iload_n 1, 1) := by decide +kernel
theorem dX2_seekField_41 : decode cX2_seekField 41 = .ok (.aaload, 1) := by decide +kernel
theorem dX2_seekField_42 : decode cX2_seekField 42 = .ok (.astore 5, 2) := by decide +kernel
theorem dX2_seekField_44 : decode cX2_seekField 44 = .ok (.aload 5, 2) := by decide +kernel
theorem dX2_seekField_46 : decode cX2_seekField 46 = .ok (.getfield 62, 3) := by decide +kernel
theorem dX2_seekField_49 : decode cX2_seekField 49 = .ok (.iload_n 2, 1) := by decide +kernel
theorem dX2_seekField_50 : decode cX2_seekField 50 = .ok (.iaload, 1) := by decide +kernel
theorem dX2_seekField_51 : decode cX2_seekField 51 = .ok (.ifCond .eq 7, 3) := by decide +kernel
theorem dX2_seekField_54 : decode cX2_seekField 54 = .ok (.iload_n 1, 1) := by decide +kernel
theorem dX2_seekField_55 : decode cX2_seekField 55 = .ok (.goto 5, 3) := by decide +kernel
theorem dX2_seekField_58 : decode cX2_seekField 58 = .ok (.bipush (-6), 2) := by decide +kernel
theorem dX2_seekField_60 : decode cX2_seekField 60 = .ok (.istore 6, 2) := by decide +kernel
theorem dX2_seekField_62 : decode cX2_seekField 62 = .ok (.iconst 0, 1) := by decide +kernel
theorem dX2_seekField_63 : decode cX2_seekField 63 = .ok (.istore 7, 2) := by decide +kernel
theorem dX2_seekField_65 : decode cX2_seekField 65 = .ok (.iload 7, 2) := by decide +kernel
theorem dX2_seekField_67 : decode cX2_seekField 67 = .ok (.aload 5, 2) := by decide +kernel
theorem dX2_seekField_69 : decode cX2_seekField 69 = .ok (.getfield 52, 3) := by decide +kernel
theorem dX2_seekField_72 : decode cX2_seekField 72 = .ok (.if_icmp .ge 34, 3) := by decide +kernel
theorem dX2_seekField_75 : decode cX2_seekField 75 = .ok (.iload 6, 2) := by decide +kernel
theorem dX2_seekField_77 : decode cX2_seekField 77 = .ok (.bipush (-6), 2) := by decide +kernel
theorem dX2_seekField_79 : decode cX2_seekField 79 = .ok (.if_icmp .ne 27, 3) := by decide +kernel
theorem dX2_seekField_82 : decode cX2_seekField 82 = .ok (.aload_n 0, 1) := by decide +kernel
theorem dX2_seekField_83 : decode cX2_seekField 83 = .ok (.aload 5, 2) := by decide +kernel
theorem dX2_seekField_85 : decode cX2_seekField 85 = .ok (.getfield 49, 3) := by decide +kernel
theorem dX2_seekField_88 : decode cX2_seekField 88 = .ok (.iload 7, 2) := by decide +kernel
theorem dX2_seekField_90 : decode cX2_seekField 90 = .ok (.iaload, 1) := by decide +kernel
theorem dX2_seekField_91 : decode cX2_seekField 91 = .ok (.iload_n 2, 1) := by decide +kernel
theorem dX2_seekField_92 : decode cX2_seekField 92 = .ok (.iload_n 3, 1) := by decide +kernel
theorem dX2_seekField_93 : decode cX2_seekField 93 = .ok (.iconst 1, 1) := by decide +kernel
theorem dX2_seekField_94 : decode cX2_seekField 94 = .ok (.iadd, 1) := by decide +kernel
theorem dX2_seekField_95 : decode cX2_seekField 95 = .ok (.invokevirtual 58, 3) := by decide +kernel
theorem dX2_seekField_98 : decode cX2_seekField 98 = .ok (.istore 6, 2) := by decide +kernel
theorem dX2_seekField_100 : decode cX2_seekField 100 = .ok (.iinc 7 1, 3) := by decide +kernel
theorem dX2_seekField_103 : decode cX2_seekField 103 = .ok (.goto (-38), 3) := by decide +kernel
theorem dX2_seekField_106 : decode cX2_seekField 106 = .ok (.iload 6, 2) := by decide +kernel
theorem dX2_seekField_108 : decode cX2_seekField 108 = .ok (.bipush (-6), 2) := by decide +kernel
theorem dX2_seekField_110 : decode cX2_seekField 110 = .ok (.if_icmp .ne 26, 3) := by decide +kernel
theorem dX2_seekField_113 : decode cX2_seekField 113 = .ok (.aload 5, 2) := by decide +kernel
theorem dX2_seekField_115 : decode cX2_seekField 115 = .ok (.getfield 38, 3) := by decide +kernel
theorem dX2_seekField_118 : decode cX2_seekField 118 = .ok (.ifCond .lt 18, 3) := by decide +kernel
theorem dX2_seekField_121 : decode cX2_seekField 121 = .ok (.aload_n 0, 1) := by decide +kernel
theorem dX2_seekField_122 : decode cX2_seekField 122 = .ok (.aload 5, 2) := by decide +kernel
theorem dX2_seekField_124 : decode cX2_seekField 124 = .ok (.getfield 38, 3) := by decide +kernel
theorem dX2_seekField_127 : decode cX2_seekField 127 = .ok (.iload_n 2, 1) := by decide +kernel
theorem dX2_seekField_128 : decode cX2_seekField 128 = .ok (.iload_n 3, 1) := by decide +kernel
theorem dX2_seekField_129 : decode cX2_seekField 129 = .ok (.iconst 1, 1) := by decide +kernel
theorem dX2_seekField_130 : decode cX2_seekField 130 = .ok (.iadd, 1) := by decide +kernel
theorem dX2_seekField_131 : decode cX2_seekField 131 = .ok (.invokevirtual 58, 3) := by decide +kernel
theorem dX2_seekField_134 : decode cX2_seekField 134 = .ok (.istore 6, 2) := by decide +kernel
theorem dX2_seekField_136 : decode cX2_seekField 136 = .ok (.aload_n 0, 1) := by decide +kernel
theorem dX2_seekField_137 : decode cX2_seekField 137 = .ok (.getfield 17, 3) := by decide +kernel
theorem dX2_seekField_140 : decode cX2_seekField 140 = .ok (.iload 4, 2) := by decide +kernel
theorem dX2_seekField_142 : decode cX2_seekField 142 = .ok (.iload 6, 2) := by decide +kernel
theorem dX2_seekField_144 : decode cX2_seekField 144 = .ok (.iastore, 1) := by decide +kernel
theorem dX2_seekField_145 : decode cX2_seekField 145 = .ok (.iload 6, 2) := by decide +kernel
theorem dX2_seekField_147 : decode cX2_seekField 147 = .ok (.ireturn, 1) := by decide +kernel
theorem dX2_methodOwner_0 : decode cX2_methodOwner 0 = .ok (.iload_n 1, 1) := by decide +kernel
theorem dX2_methodOwner_1 : decode cX2_methodOwner 1 = .ok (.istore_n 3, 1) := by decide +kernel
theorem dX2_methodOwner_2 : decode cX2_methodOwner 2 = .ok (.iconst 0, 1) := by decide +kernel
theorem dX2_methodOwner_3 : decode cX2_methodOwner 3 = .ok (.istore 4, 2) := by decide +kernel
theorem dX2_methodOwner_5 : decode cX2_methodOwner 5 = .ok (.iload 4, 2) := by decide +kernel
theorem dX2_methodOwner_7 : decode cX2_methodOwner 7 = .ok (.bipush 40, 2) := by decide +kernel
theorem dX2_methodOwner_9 : decode cX2_methodOwner 9 = .ok (.if_icmp .ge 39, 3) := by decide +kernel
theorem dX2_methodOwner_12 : decode cX2_methodOwner 12 = .ok (.iload_n 3, 1) := by decide +kernel
theorem dX2_methodOwner_13 : decode cX2_methodOwner 13 = .ok (.ifCond .lt 35, 3) := by decide +kernel
theorem dX2_methodOwner_16 : decode cX2_methodOwner 16 = .ok (.aload_n 0, 1) := by decide +kernel
theorem dX2_methodOwner_17 : decode cX2_methodOwner 17 = .ok (.getfield 11, 3) := by decide +kernel
theorem dX2_methodOwner_20 : decode cX2_methodOwner 20 = .ok (.iload_n 3, 1) := by decide +kernel
theorem dX2_methodOwner_21 : decode cX2_methodOwner 21 = .ok (.aaload, 1) := by decide +kernel
theorem dX2_methodOwner_22 : decode cX2_methodOwner 22 = .ok (.getfield 65, 3) := by decide +kernel
theorem dX2_methodOwner_25 : decode cX2_methodOwner 25 = .ok (.iload_n 2, 1) := by decide +kernel
theorem dX2_methodOwner_26 : decode cX2_methodOwner 26 = .ok (.aaload, 1) := by decide +kernel
theorem dX2_methodOwner_27 : decode cX2_methodOwner 27 = .ok (.ifnull 5, 3) := by decide +kernel
theorem dX2_methodOwner_30 : decode cX2_methodOwner 30 = .ok (.iload_n 3, 1) := by decide +kernel
theorem dX2_methodOwner_31 : decode cX2_methodOwner 31 = .ok (.ireturn, 1) := by decide +kernel
theorem dX2_methodOwner_32 : decode cX2_methodOwner 32 = .ok (.aload_n 0, 1) := by decide +kernel
theorem dX2_methodOwner_33 : decode cX2_methodOwner 33 = .ok (.getfield 11, 3) := by decide +kernel
theorem dX2_methodOwner_36 : decode cX2_methodOwner 36 = .ok (.iload_n 3, 1) := by decide +kernel
theorem dX2_methodOwner_37 : decode cX2_methodOwner 37 = .ok (.aaload, 1) := by decide +kernel
theorem dX2_methodOwner_38 : decode cX2_methodOwner 38 = .ok (.getfield 38, 3) := by decide +kernel
theorem dX2_methodOwner_41 : decode cX2_methodOwner 41 = .ok (.istore_n 3, 1) := by decide +kernel
theorem dX2_methodOwner_42 : decode cX2_methodOwner 42 = .ok (.iinc 4 1, 3) := by decide +kernel
theorem dX2_methodOwner_45 : decode cX2_methodOwner 45 = .ok (.goto (-40), 3) := by decide +kernel
theorem dX2_methodOwner_48 : decode cX2_methodOwner 48 = .ok (.bipush (-6), 2) := by decide +kernel
theorem dX2_methodOwner_50 : decode cX2_methodOwner 50 = .ok (.ireturn, 1) := by decide +kernel
theorem dX2_valueOf_0 : decode cX2_valueOf 0 = .ok (.aload_n 0, 1) := by decide +kernel
theorem dX2_valueOf_1 : decode cX2_valueOf 1 = .ok (.getfield 11, 3) := by decide +kernel
theorem dX2_valueOf_4 : decode cX2_valueOf 4 = .ok (.iload_n 2, 1) := by decide +kernel
theorem dX2_valueOf_5 : decode cX2_valueOf 5 = .ok (.aaload, 1) := by decide +kernel
theorem dX2_valueOf_6 : decode cX2_valueOf 6 = .ok (.astore 4, 2) := by decide +kernel
theorem dX2_valueOf_8 : decode cX2_valueOf 8 = .ok (.aload 4, 2) := by decide +kernel
theorem dX2_valueOf_10 : decode cX2_valueOf 10 = .ok (.getfield 62, 3) := by decide +kernel
theorem dX2_valueOf_13 : decode cX2_valueOf 13 = .ok (.iload_n 3, 1) := by decide +kernel
theorem dX2_valueOf_14 : decode cX2_valueOf 14 = .ok (.iaload, 1) := by decide +kernel
theorem dX2_valueOf_15 : decode cX2_valueOf 15 = .ok (.iconst 2, 1) := by decide +kernel
theorem dX2_valueOf_16 : decode cX2_valueOf 16 = .ok (.if_icmp .ne 13, 3) := by decide +kernel
theorem dX2_valueOf_19 : decode cX2_valueOf 19 = .ok (.aload 4, 2) := by decide +kernel
theorem dX2_valueOf_21 : decode cX2_valueOf 21 = .ok (.getfield 69, 3) := by decide +kernel
theorem dX2_valueOf_24 : decode cX2_valueOf 24 = .ok (.iload_n 3, 1) := by decide +kernel
theorem dX2_valueOf_25 : decode cX2_valueOf 25 = .ok (.iaload, 1) := by decide +kernel
theorem dX2_valueOf_26 : decode cX2_valueOf 26 = .ok (.goto 14, 3) := by decide +kernel
theorem dX2_valueOf_29 : decode cX2_valueOf 29 = .ok (.aload_n 1, 1) := by decide +kernel
theorem dX2_valueOf_30 : decode cX2_valueOf 30 = .ok (.getfield 72, 3) := by decide +kernel
theorem dX2_valueOf_33 : decode cX2_valueOf 33 = .ok (.iload_n 2, 1) := by decide +kernel
theorem dX2_valueOf_34 : decode cX2_valueOf 34 = .ok (.bipush 10, 2) := by decide +kernel
theorem dX2_valueOf_36 : decode cX2_valueOf 36 = .ok (.imul, 1) := by decide +kernel
theorem dX2_valueOf_37 : decode cX2_valueOf 37 = .ok (.iload_n 3, 1) := by decide +kernel
theorem dX2_valueOf_38 : decode cX2_valueOf 38 = .ok (.iadd, 1) := by decide +kernel
theorem dX2_valueOf_39 : decode cX2_valueOf 39 = .ok (.iaload, 1) := by decide +kernel
theorem dX2_valueOf_40 : decode cX2_valueOf 40 = .ok (.ireturn, 1) := by decide +kernel
theorem dX2_startedBy_0 : decode cX2_startedBy 0 = .ok (.aload_n 1, 1) := by decide +kernel
theorem dX2_startedBy_1 : decode cX2_startedBy 1 = .ok (.getfield 77, 3) := by decide +kernel
theorem dX2_startedBy_4 : decode cX2_startedBy 4 = .ok (.tableswitch 107 1 5 #[36, 36, 42, 68, 102], 36) := by decide +kernel
theorem dX2_startedBy_40 : decode cX2_startedBy 40 = .ok (.aload_n 0, 1) := by decide +kernel
theorem dX2_startedBy_41 : decode cX2_startedBy 41 = .ok (.aload_n 1, 1) := by decide +kernel
theorem dX2_startedBy_42 : decode cX2_startedBy 42 = .ok (.invokevirtual 82, 3) := by decide +kernel
theorem dX2_startedBy_45 : decode cX2_startedBy 45 = .ok (.ireturn, 1) := by decide +kernel
theorem dX2_startedBy_46 : decode cX2_startedBy 46 = .ok (.aload_n 0, 1) := by decide +kernel
theorem dX2_startedBy_47 : decode cX2_startedBy 47 = .ok (.aload_n 1, 1) := by decide +kernel
theorem dX2_startedBy_48 : decode cX2_startedBy 48 = .ok (.getfield 86, 3) := by decide +kernel
theorem dX2_startedBy_51 : decode cX2_startedBy 51 = .ok (.aload_n 1, 1) := by decide +kernel
theorem dX2_startedBy_52 : decode cX2_startedBy 52 = .ok (.getfield 89, 3) := by decide +kernel
theorem dX2_startedBy_55 : decode cX2_startedBy 55 = .ok (.invokevirtual 92, 3) := by decide +kernel
theorem dX2_startedBy_58 : decode cX2_startedBy 58 = .ok (.istore_n 2, 1) := by decide +kernel
theorem dX2_startedBy_59 : decode cX2_startedBy 59 = .ok (.iload_n 2, 1) := by decide +kernel
theorem dX2_startedBy_60 : decode cX2_startedBy 60 = .ok (.bipush (-6), 2) := by decide +kernel
theorem dX2_startedBy_62 : decode cX2_startedBy 62 = .ok (.if_icmp .ne 8, 3) := by decide +kernel
theorem dX2_startedBy_65 : decode cX2_startedBy 65 = .ok (.bipush (-22), 2) := by decide +kernel
theorem dX2_startedBy_67 : decode cX2_startedBy 67 = .ok (.goto 4, 3) := by decide +kernel
theorem dX2_startedBy_70 : decode cX2_startedBy 70 = .ok (.iload_n 2, 1) := by decide +kernel
theorem dX2_startedBy_71 : decode cX2_startedBy 71 = .ok (.ireturn, 1) := by decide +kernel
theorem dX2_startedBy_72 : decode cX2_startedBy 72 = .ok (.aload_n 0, 1) := by decide +kernel
theorem dX2_startedBy_73 : decode cX2_startedBy 73 = .ok (.getfield 11, 3) := by decide +kernel
theorem dX2_startedBy_76 : decode cX2_startedBy 76 = .ok (.aload_n 1, 1) := by decide +kernel
theorem dX2_startedBy_77 : decode cX2_startedBy 77 = .ok (.getfield 86, 3) := by decide +kernel
theorem dX2_startedBy_80 : decode cX2_startedBy 80 = .ok (.aaload, 1) := by decide +kernel
theorem dX2_startedBy_81 : decode cX2_startedBy 81 = .ok (.astore_n 3, 1) := by decide +kernel
theorem dX2_startedBy_82 : decode cX2_startedBy 82 = .ok (.aload_n 3, 1) := by decide +kernel
theorem dX2_startedBy_83 : decode cX2_startedBy 83 = .ok (.getfield 96, 3) := by decide +kernel
theorem dX2_startedBy_86 : decode cX2_startedBy 86 = .ok (.ifCond .ne 10, 3) := by decide +kernel
theorem dX2_startedBy_89 : decode cX2_startedBy 89 = .ok (.aload_n 3, 1) := by decide +kernel
theorem dX2_startedBy_90 : decode cX2_startedBy 90 = .ok (.getfield 100, 3) := by decide +kernel
theorem dX2_startedBy_93 : decode cX2_startedBy 93 = .ok (.ifCond .eq 8, 3) := by decide +kernel
theorem dX2_startedBy_96 : decode cX2_startedBy 96 = .ok (.bipush (-22), 2) := by decide +kernel
theorem dX2_startedBy_98 : decode cX2_startedBy 98 = .ok (.goto 7, 3) := by decide +kernel
theorem dX2_startedBy_101 : decode cX2_startedBy 101 = .ok (.aload_n 1, 1) := by decide +kernel
theorem dX2_startedBy_102 : decode cX2_startedBy 102 = .ok (.getfield 86, 3) := by decide +kernel
theorem dX2_startedBy_105 : decode cX2_startedBy 105 = .ok (.ireturn, 1) := by decide +kernel
theorem dX2_startedBy_106 : decode cX2_startedBy 106 = .ok (.aload_n 1, 1) := by decide +kernel
theorem dX2_startedBy_107 : decode cX2_startedBy 107 = .ok (.getfield 86, 3) := by decide +kernel
theorem dX2_startedBy_110 : decode cX2_startedBy 110 = .ok (.ireturn, 1) := by decide +kernel
theorem dX2_startedBy_111 : decode cX2_startedBy 111 = .ok (.bipush (-6), 2) := by decide +kernel
theorem dX2_startedBy_113 : decode cX2_startedBy 113 = .ok (.ireturn, 1) := by decide +kernel
theorem dX2_startedByField_0 : decode cX2_startedByField 0 = .ok (.aload_n 0, 1) := by decide +kernel
theorem dX2_startedByField_1 : decode cX2_startedByField 1 = .ok (.aload_n 1, 1) := by decide +kernel
theorem dX2_startedByField_2 : decode cX2_startedByField 2 = .ok (.getfield 86, 3) := by decide +kernel
theorem dX2_startedByField_5 : decode cX2_startedByField 5 = .ok (.aload_n 1, 1) := by decide +kernel
theorem dX2_startedByField_6 : decode cX2_startedByField 6 = .ok (.getfield 89, 3) := by decide +kernel
theorem dX2_startedByField_9 : decode cX2_startedByField 9 = .ok (.invokevirtual 103, 3) := by decide +kernel
theorem dX2_startedByField_12 : decode cX2_startedByField 12 = .ok (.istore_n 2, 1) := by decide +kernel
theorem dX2_startedByField_13 : decode cX2_startedByField 13 = .ok (.iload_n 2, 1) := by decide +kernel
theorem dX2_startedByField_14 : decode cX2_startedByField 14 = .ok (.bipush (-6), 2) := by decide +kernel
theorem dX2_startedByField_16 : decode cX2_startedByField 16 = .ok (.if_icmp .ne 6, 3) := by decide +kernel
theorem dX2_startedByField_19 : decode cX2_startedByField 19 = .ok (.bipush (-22), 2) := by decide +kernel
theorem dX2_startedByField_21 : decode cX2_startedByField 21 = .ok (.ireturn, 1) := by decide +kernel
theorem dX2_startedByField_22 : decode cX2_startedByField 22 = .ok (.aload_n 0, 1) := by decide +kernel
theorem dX2_startedByField_23 : decode cX2_startedByField 23 = .ok (.getfield 11, 3) := by decide +kernel
theorem dX2_startedByField_26 : decode cX2_startedByField 26 = .ok (.iload_n 2, 1) := by decide +kernel
theorem dX2_startedByField_27 : decode cX2_startedByField 27 = .ok (.aaload, 1) := by decide +kernel
theorem dX2_startedByField_28 : decode cX2_startedByField 28 = .ok (.getfield 62, 3) := by decide +kernel
theorem dX2_startedByField_31 : decode cX2_startedByField 31 = .ok (.aload_n 1, 1) := by decide +kernel
theorem dX2_startedByField_32 : decode cX2_startedByField 32 = .ok (.getfield 89, 3) := by decide +kernel
theorem dX2_startedByField_35 : decode cX2_startedByField 35 = .ok (.iaload, 1) := by decide +kernel
theorem dX2_startedByField_36 : decode cX2_startedByField 36 = .ok (.iconst 1, 1) := by decide +kernel
theorem dX2_startedByField_37 : decode cX2_startedByField 37 = .ok (.if_icmp .ne 5, 3) := by decide +kernel
theorem dX2_startedByField_40 : decode cX2_startedByField 40 = .ok (.iload_n 2, 1) := by decide +kernel
theorem dX2_startedByField_41 : decode cX2_startedByField 41 = .ok (.ireturn, 1) := by decide +kernel
theorem dX2_startedByField_42 : decode cX2_startedByField 42 = .ok (.aload_n 1, 1) := by decide +kernel
theorem dX2_startedByField_43 : decode cX2_startedByField 43 = .ok (.getfield 77, 3) := by decide +kernel
theorem dX2_startedByField_46 : decode cX2_startedByField 46 = .ok (.iconst 1, 1) := by decide +kernel
theorem dX2_startedByField_47 : decode cX2_startedByField 47 = .ok (.if_icmp .ne 8, 3) := by decide +kernel
theorem dX2_startedByField_50 : decode cX2_startedByField 50 = .ok (.bipush (-6), 2) := by decide +kernel
theorem dX2_startedByField_52 : decode cX2_startedByField 52 = .ok (.goto 5, 3) := by decide +kernel
theorem dX2_startedByField_55 : decode cX2_startedByField 55 = .ok (.bipush (-22), 2) := by decide +kernel
theorem dX2_startedByField_57 : decode cX2_startedByField 57 = .ok (.ireturn, 1) := by decide +kernel
theorem dX2_orderFirsts_0 : decode cX2_orderFirsts 0 = .ok (.aload_n 1, 1) := by decide +kernel
theorem dX2_orderFirsts_1 : decode cX2_orderFirsts 1 = .ok (.iconst 0, 1) := by decide +kernel
theorem dX2_orderFirsts_2 : decode cX2_orderFirsts 2 = .ok (.putfield 106, 3) := by decide +kernel
theorem dX2_orderFirsts_5 : decode cX2_orderFirsts 5 = .ok (.lconst 0, 1) := by decide +kernel
theorem dX2_orderFirsts_6 : decode cX2_orderFirsts 6 = .ok (.lstore_n 2, 1) := by decide +kernel
theorem dX2_orderFirsts_7 : decode cX2_orderFirsts 7 = .ok (.iconst 0, 1) := by decide +kernel
theorem dX2_orderFirsts_8 : decode cX2_orderFirsts 8 = .ok (.istore 4, 2) := by decide +kernel
theorem dX2_orderFirsts_10 : decode cX2_orderFirsts 10 = .ok (.iload 4, 2) := by decide +kernel
theorem dX2_orderFirsts_12 : decode cX2_orderFirsts 12 = .ok (.aload_n 1, 1) := by decide +kernel
theorem dX2_orderFirsts_13 : decode cX2_orderFirsts 13 = .ok (.getfield 52, 3) := by decide +kernel
theorem dX2_orderFirsts_16 : decode cX2_orderFirsts 16 = .ok (.if_icmp .ge 24, 3) := by decide +kernel
theorem dX2_orderFirsts_19 : decode cX2_orderFirsts 19 = .ok (.aload_n 0, 1) := by decide +kernel
theorem dX2_orderFirsts_20 : decode cX2_orderFirsts 20 = .ok (.aload_n 1, 1) := by decide +kernel
theorem dX2_orderFirsts_21 : decode cX2_orderFirsts 21 = .ok (.aload_n 1, 1) := by decide +kernel
theorem dX2_orderFirsts_22 : decode cX2_orderFirsts 22 = .ok (.getfield 49, 3) := by decide +kernel
theorem dX2_orderFirsts_25 : decode cX2_orderFirsts 25 = .ok (.iload 4, 2) := by decide +kernel
theorem dX2_orderFirsts_27 : decode cX2_orderFirsts 27 = .ok (.iaload, 1) := by decide +kernel
theorem dX2_orderFirsts_28 : decode cX2_orderFirsts 28 = .ok (.lload_n 2, 1) := by decide +kernel
theorem dX2_orderFirsts_29 : decode cX2_orderFirsts 29 = .ok (.iconst 0, 1) := by decide +kernel
theorem dX2_orderFirsts_30 : decode cX2_orderFirsts 30 = .ok (.invokevirtual 109, 3) := by decide +kernel
theorem dX2_orderFirsts_33 : decode cX2_orderFirsts 33 = .ok (.lstore_n 2, 1) := by decide +kernel
theorem dX2_orderFirsts_34 : decode cX2_orderFirsts 34 = .ok (.iinc 4 1, 3) := by decide +kernel
theorem dX2_orderFirsts_37 : decode cX2_orderFirsts 37 = .ok (.goto (-27), 3) := by decide +kernel
theorem dX2_orderFirsts_40 : decode cX2_orderFirsts 40 = .ok (.return_, 1) := by decide +kernel
theorem dX2_addFirst_0 : decode cX2_addFirst 0 = .ok (.iload 5, 2) := by decide +kernel
theorem dX2_addFirst_2 : decode cX2_addFirst 2 = .ok (.bipush 40, 2) := by decide +kernel
theorem dX2_addFirst_4 : decode cX2_addFirst 4 = .ok (.if_icmp .ge 13, 3) := by decide +kernel
theorem dX2_addFirst_7 : decode cX2_addFirst 7 = .ok (.lload_n 3, 1) := by decide +kernel
theorem dX2_addFirst_8 : decode cX2_addFirst 8 = .ok (.iload_n 2, 1) := by decide +kernel
theorem dX2_addFirst_9 : decode cX2_addFirst 9 = .ok (.lshr, 1) := by decide +kernel
theorem dX2_addFirst_10 : decode cX2_addFirst 10 = .ok (.lconst 1, 1) := by decide +kernel
theorem dX2_addFirst_11 : decode cX2_addFirst 11 = .ok (.land, 1) := by decide +kernel
theorem dX2_addFirst_12 : decode cX2_addFirst 12 = .ok (.lconst 0, 1) := by decide +kernel
theorem dX2_addFirst_13 : decode cX2_addFirst 13 = .ok (.lcmp, 1) := by decide +kernel
theorem dX2_addFirst_14 : decode cX2_addFirst 14 = .ok (.ifCond .eq 5, 3) := by decide +kernel
theorem dX2_addFirst_17 : decode cX2_addFirst 17 = .ok (.lload_n 3, 1) := by decide +kernel
theorem dX2_addFirst_18 : decode cX2_addFirst 18 = .ok (.lreturn, 1) := by decide +kernel
theorem dX2_addFirst_19 : decode cX2_addFirst 19 = .ok (.aload_n 0, 1) := by decide +kernel
theorem dX2_addFirst_20 : decode cX2_addFirst 20 = .ok (.getfield 11, 3) := by decide +kernel
theorem dX2_addFirst_23 : decode cX2_addFirst 23 = .ok (.iload_n 2, 1) := by decide +kernel
theorem dX2_addFirst_24 : decode cX2_addFirst 24 = .ok (.aaload, 1) := by decide +kernel
theorem dX2_addFirst_25 : decode cX2_addFirst 25 = .ok (.astore 6, 2) := by decide +kernel
theorem dX2_addFirst_27 : decode cX2_addFirst 27 = .ok (.lload_n 3, 1) := by decide +kernel
theorem dX2_addFirst_28 : decode cX2_addFirst 28 = .ok (.lconst 1, 1) := by decide +kernel
theorem dX2_addFirst_29 : decode cX2_addFirst 29 = .ok (.iload_n 2, 1) := by decide +kernel
theorem dX2_addFirst_30 : decode cX2_addFirst 30 = .ok (.lshl, 1) := by decide +kernel
theorem dX2_addFirst_31 : decode cX2_addFirst 31 = .ok (.lor, 1) := by decide +kernel
theorem dX2_addFirst_32 : decode cX2_addFirst 32 = .ok (.lstore 7, 2) := by decide +kernel
theorem dX2_addFirst_34 : decode cX2_addFirst 34 = .ok (.iconst 0, 1) := by decide +kernel
theorem dX2_addFirst_35 : decode cX2_addFirst 35 = .ok (.istore 9, 2) := by decide +kernel
theorem dX2_addFirst_37 : decode cX2_addFirst 37 = .ok (.iload 9, 2) := by decide +kernel
theorem dX2_addFirst_39 : decode cX2_addFirst 39 = .ok (.aload 6, 2) := by decide +kernel
theorem dX2_addFirst_41 : decode cX2_addFirst 41 = .ok (.getfield 52, 3) := by decide +kernel
theorem dX2_addFirst_44 : decode cX2_addFirst 44 = .ok (.if_icmp .ge 30, 3) := by decide +kernel
theorem dX2_addFirst_47 : decode cX2_addFirst 47 = .ok (.aload_n 0, 1) := by decide +kernel
theorem dX2_addFirst_48 : decode cX2_addFirst 48 = .ok (.aload_n 1, 1) := by decide +kernel
theorem dX2_addFirst_49 : decode cX2_addFirst 49 = .ok (.aload 6, 2) := by decide +kernel
theorem dX2_addFirst_51 : decode cX2_addFirst 51 = .ok (.getfield 49, 3) := by decide +kernel
theorem dX2_addFirst_54 : decode cX2_addFirst 54 = .ok (.iload 9, 2) := by decide +kernel
theorem dX2_addFirst_56 : decode cX2_addFirst 56 = .ok (.iaload, 1) := by decide +kernel
theorem dX2_addFirst_57 : decode cX2_addFirst 57 = .ok (.lload 7, 2) := by decide +kernel
theorem dX2_addFirst_59 : decode cX2_addFirst 59 = .ok (.iload 5, 2) := by decide +kernel
theorem dX2_addFirst_61 : decode cX2_addFirst 61 = .ok (.iconst 1, 1) := by decide +kernel
theorem dX2_addFirst_62 : decode cX2_addFirst 62 = .ok (.iadd, 1) := by decide +kernel
theorem dX2_addFirst_63 : decode cX2_addFirst 63 = .ok (.invokevirtual 109, 3) := by decide +kernel
theorem dX2_addFirst_66 : decode cX2_addFirst 66 = .ok (.lstore 7, 2) := by decide +kernel
theorem dX2_addFirst_68 : decode cX2_addFirst 68 = .ok (.iinc 9 1, 3) := by decide +kernel
theorem dX2_addFirst_71 : decode cX2_addFirst 71 = .ok (.goto (-34), 3) := by decide +kernel
theorem dX2_addFirst_74 : decode cX2_addFirst 74 = .ok (.aload 6, 2) := by decide +kernel
theorem dX2_addFirst_76 : decode cX2_addFirst 76 = .ok (.getfield 100, 3) := by decide +kernel
theorem dX2_addFirst_79 : decode cX2_addFirst 79 = .ok (.ifCond .eq 32, 3) := by decide +kernel
theorem dX2_addFirst_82 : decode cX2_addFirst 82 = .ok (.aload_n 1, 1) := by decide +kernel
theorem dX2_addFirst_83 : decode cX2_addFirst 83 = .ok (.getfield 106, 3) := by decide +kernel
theorem dX2_addFirst_86 : decode cX2_addFirst 86 = .ok (.bipush 40, 2) := by decide +kernel
theorem dX2_addFirst_88 : decode cX2_addFirst 88 = .ok (.if_icmp .ge 23, 3) := by decide +kernel
theorem dX2_addFirst_91 : decode cX2_addFirst 91 = .ok (.aload_n 1, 1) := by decide +kernel
theorem dX2_addFirst_92 : decode cX2_addFirst 92 = .ok (.getfield 113, 3) := by decide +kernel
theorem dX2_addFirst_95 : decode cX2_addFirst 95 = .ok (.aload_n 1, 1) := by decide +kernel
theorem dX2_addFirst_96 : decode cX2_addFirst 96 = .ok (.getfield 106, 3) := by decide +kernel
theorem dX2_addFirst_99 : decode cX2_addFirst 99 = .ok (.iload_n 2, 1) := by decide +kernel
theorem dX2_addFirst_100 : decode cX2_addFirst 100 = .ok (.iastore, 1) := by decide +kernel
theorem dX2_addFirst_101 : decode cX2_addFirst 101 = .ok (.aload_n 1, 1) := by decide +kernel
theorem dX2_addFirst_102 : decode cX2_addFirst 102 = .ok (.dup, 1) := by decide +kernel
theorem dX2_addFirst_103 : decode cX2_addFirst 103 = .ok (.getfield 106, 3) := by decide +kernel
theorem dX2_addFirst_106 : decode cX2_addFirst 106 = .ok (.iconst 1, 1) := by decide +kernel
theorem dX2_addFirst_107 : decode cX2_addFirst 107 = .ok (.iadd, 1) := by decide +kernel
theorem dX2_addFirst_108 : decode cX2_addFirst 108 = .ok (.putfield 106, 3) := by decide +kernel
theorem dX2_addFirst_111 : decode cX2_addFirst 111 = .ok (.lload 7, 2) := by decide +kernel
theorem dX2_addFirst_113 : decode cX2_addFirst 113 = .ok (.lreturn, 1) := by decide +kernel
theorem dX2_listAsked_0 : decode cX2_listAsked 0 = .ok (.aload_n 0, 1) := by decide +kernel
theorem dX2_listAsked_1 : decode cX2_listAsked 1 = .ok (.getfield 11, 3) := by decide +kernel
theorem dX2_listAsked_4 : decode cX2_listAsked 4 = .ok (.iload_n 1, 1) := by decide +kernel
theorem dX2_listAsked_5 : decode cX2_listAsked 5 = .ok (.aaload, 1) := by decide +kernel
theorem dX2_listAsked_6 : decode cX2_listAsked 6 = .ok (.astore_n 2, 1) := by decide +kernel
theorem dX2_listAsked_7 : decode cX2_listAsked 7 = .ok (.aload_n 0, 1) := by decide +kernel
theorem dX2_listAsked_8 : decode cX2_listAsked 8 = .ok (.iconst 0, 1) := by decide +kernel
theorem dX2_listAsked_9 : decode cX2_listAsked 9 = .ok (.putfield 116, 3) := by decide +kernel
theorem dX2_listAsked_12 : decode cX2_listAsked 12 = .ok (.aload_n 0, 1) := by decide +kernel
theorem dX2_listAsked_13 : decode cX2_listAsked 13 = .ok (.lconst 1, 1) := by decide +kernel
theorem dX2_listAsked_14 : decode cX2_listAsked 14 = .ok (.iload_n 1, 1) := by decide +kernel
theorem dX2_listAsked_15 : decode cX2_listAsked 15 = .ok (.lshl, 1) := by decide +kernel
theorem dX2_listAsked_16 : decode cX2_listAsked 16 = .ok (.putfield 119, 3) := by decide +kernel
theorem dX2_listAsked_19 : decode cX2_listAsked 19 = .ok (.aload_n 2, 1) := by decide +kernel
theorem dX2_listAsked_20 : decode cX2_listAsked 20 = .ok (.getfield 96, 3) := by decide +kernel
theorem dX2_listAsked_23 : decode cX2_listAsked 23 = .ok (.ifCond .ne 42, 3) := by decide +kernel
theorem dX2_listAsked_26 : decode cX2_listAsked 26 = .ok (.aload_n 0, 1) := by decide +kernel
theorem dX2_listAsked_27 : decode cX2_listAsked 27 = .ok (.aload_n 2, 1) := by decide +kernel
theorem dX2_listAsked_28 : decode cX2_listAsked 28 = .ok (.getfield 38, 3) := by decide +kernel
theorem dX2_listAsked_31 : decode cX2_listAsked 31 = .ok (.invokevirtual 122, 3) := by decide +kernel
theorem dX2_listAsked_34 : decode cX2_listAsked 34 = .ok (.aload_n 0, 1) := by decide +kernel
theorem dX2_listAsked_35 : decode cX2_listAsked 35 = .ok (.aload_n 2, 1) := by decide +kernel
theorem dX2_listAsked_36 : decode cX2_listAsked 36 = .ok (.invokevirtual 126, 3) := by decide +kernel
theorem dX2_listAsked_39 : decode cX2_listAsked 39 = .ok (.iconst 0, 1) := by decide +kernel
theorem dX2_listAsked_40 : decode cX2_listAsked 40 = .ok (.istore_n 3, 1) := by decide +kernel
theorem dX2_listAsked_41 : decode cX2_listAsked 41 = .ok (.iload_n 3, 1) := by decide +kernel
theorem dX2_listAsked_42 : decode cX2_listAsked 42 = .ok (.aload_n 2, 1) := by decide +kernel
theorem dX2_listAsked_43 : decode cX2_listAsked 43 = .ok (.getfield 106, 3) := by decide +kernel
theorem dX2_listAsked_46 : decode cX2_listAsked 46 = .ok (.if_icmp .ge 19, 3) := by decide +kernel
theorem dX2_listAsked_49 : decode cX2_listAsked 49 = .ok (.aload_n 0, 1) := by decide +kernel
theorem dX2_listAsked_50 : decode cX2_listAsked 50 = .ok (.aload_n 2, 1) := by decide +kernel
theorem dX2_listAsked_51 : decode cX2_listAsked 51 = .ok (.getfield 113, 3) := by decide +kernel
theorem dX2_listAsked_54 : decode cX2_listAsked 54 = .ok (.iload_n 3, 1) := by decide +kernel
theorem dX2_listAsked_55 : decode cX2_listAsked 55 = .ok (.iaload, 1) := by decide +kernel
theorem dX2_listAsked_56 : decode cX2_listAsked 56 = .ok (.invokevirtual 122, 3) := by decide +kernel
theorem dX2_listAsked_59 : decode cX2_listAsked 59 = .ok (.iinc 3 1, 3) := by decide +kernel
theorem dX2_listAsked_62 : decode cX2_listAsked 62 = .ok (.goto (-21), 3) := by decide +kernel
theorem dX2_listAsked_65 : decode cX2_listAsked 65 = .ok (.iconst 0, 1) := by decide +kernel
theorem dX2_listAsked_66 : decode cX2_listAsked 66 = .ok (.istore_n 3, 1) := by decide +kernel
theorem dX2_listAsked_67 : decode cX2_listAsked 67 = .ok (.iload_n 3, 1) := by decide +kernel
theorem dX2_listAsked_68 : decode cX2_listAsked 68 = .ok (.aload_n 2, 1) := by decide +kernel
theorem dX2_listAsked_69 : decode cX2_listAsked 69 = .ok (.getfield 130, 3) := by decide +kernel
theorem dX2_listAsked_72 : decode cX2_listAsked 72 = .ok (.getfield 134, 3) := by decide +kernel
theorem dX2_listAsked_75 : decode cX2_listAsked 75 = .ok (.if_icmp .ge 26, 3) := by decide +kernel
theorem dX2_listAsked_78 : decode cX2_listAsked 78 = .ok (.aload_n 0, 1) := by decide +kernel
theorem dX2_listAsked_79 : decode cX2_listAsked 79 = .ok (.aload_n 0, 1) := by decide +kernel
theorem dX2_listAsked_80 : decode cX2_listAsked 80 = .ok (.aload_n 2, 1) := by decide +kernel
theorem dX2_listAsked_81 : decode cX2_listAsked 81 = .ok (.getfield 130, 3) := by decide +kernel
theorem dX2_listAsked_84 : decode cX2_listAsked 84 = .ok (.getfield 139, 3) := by decide +kernel
theorem dX2_listAsked_87 : decode cX2_listAsked 87 = .ok (.iload_n 3, 1) := by decide +kernel
theorem dX2_listAsked_88 : decode cX2_listAsked 88 = .ok (.aaload, 1) := by decide +kernel
theorem dX2_listAsked_89 : decode cX2_listAsked 89 = .ok (.invokevirtual 143, 3) := by decide +kernel
theorem dX2_listAsked_92 : decode cX2_listAsked 92 = .ok (.invokevirtual 122, 3) := by decide +kernel
theorem dX2_listAsked_95 : decode cX2_listAsked 95 = .ok (.iinc 3 1, 3) := by decide +kernel
theorem dX2_listAsked_98 : decode cX2_listAsked 98 = .ok (.goto (-31), 3) := by decide +kernel
theorem dX2_listAsked_101 : decode cX2_listAsked 101 = .ok (.return_, 1) := by decide +kernel
theorem dX2_addAsked_0 : decode cX2_addAsked 0 = .ok (.iload_n 1, 1) := by decide +kernel
theorem dX2_addAsked_1 : decode cX2_addAsked 1 = .ok (.ifCond .lt 57, 3) := by decide +kernel
theorem dX2_addAsked_4 : decode cX2_addAsked 4 = .ok (.aload_n 0, 1) := by decide +kernel
theorem dX2_addAsked_5 : decode cX2_addAsked 5 = .ok (.getfield 116, 3) := by decide +kernel
theorem dX2_addAsked_8 : decode cX2_addAsked 8 = .ok (.bipush 40, 2) := by decide +kernel
theorem dX2_addAsked_10 : decode cX2_addAsked 10 = .ok (.if_icmp .ge 48, 3) := by decide +kernel
theorem dX2_addAsked_13 : decode cX2_addAsked 13 = .ok (.aload_n 0, 1) := by decide +kernel
theorem dX2_addAsked_14 : decode cX2_addAsked 14 = .ok (.getfield 119, 3) := by decide +kernel
theorem dX2_addAsked_17 : decode cX2_addAsked 17 = .ok (.iload_n 1, 1) := by decide +kernel
theorem dX2_addAsked_18 : decode cX2_addAsked 18 = .ok (.lshr, 1) := by decide +kernel
theorem dX2_addAsked_19 : decode cX2_addAsked 19 = .ok (.lconst 1, 1) := by decide +kernel
theorem dX2_addAsked_20 : decode cX2_addAsked 20 = .ok (.land, 1) := by decide +kernel
theorem dX2_addAsked_21 : decode cX2_addAsked 21 = .ok (.lconst 0, 1) := by decide +kernel
theorem dX2_addAsked_22 : decode cX2_addAsked 22 = .ok (.lcmp, 1) := by decide +kernel
theorem dX2_addAsked_23 : decode cX2_addAsked 23 = .ok (.ifCond .ne 35, 3) := by decide +kernel
theorem dX2_addAsked_26 : decode cX2_addAsked 26 = .ok (.aload_n 0, 1) := by decide +kernel
theorem dX2_addAsked_27 : decode cX2_addAsked 27 = .ok (.getfield 21, 3) := by decide +kernel
theorem dX2_addAsked_30 : decode cX2_addAsked 30 = .ok (.aload_n 0, 1) := by decide +kernel
theorem dX2_addAsked_31 : decode cX2_addAsked 31 = .ok (.getfield 116, 3) := by decide +kernel
theorem dX2_addAsked_34 : decode cX2_addAsked 34 = .ok (.iload_n 1, 1) := by decide +kernel
theorem dX2_addAsked_35 : decode cX2_addAsked 35 = .ok (.iastore, 1) := by decide +kernel
theorem dX2_addAsked_36 : decode cX2_addAsked 36 = .ok (.aload_n 0, 1) := by decide +kernel
theorem dX2_addAsked_37 : decode cX2_addAsked 37 = .ok (.dup, 1) := by decide +kernel
theorem dX2_addAsked_38 : decode cX2_addAsked 38 = .ok (.getfield 116, 3) := by decide +kernel
theorem dX2_addAsked_41 : decode cX2_addAsked 41 = .ok (.iconst 1, 1) := by decide +kernel
theorem dX2_addAsked_42 : decode cX2_addAsked 42 = .ok (.iadd, 1) := by decide +kernel
theorem dX2_addAsked_43 : decode cX2_addAsked 43 = .ok (.putfield 116, 3) := by decide +kernel
theorem dX2_addAsked_46 : decode cX2_addAsked 46 = .ok (.aload_n 0, 1) := by decide +kernel
theorem dX2_addAsked_47 : decode cX2_addAsked 47 = .ok (.dup, 1) := by decide +kernel
theorem dX2_addAsked_48 : decode cX2_addAsked 48 = .ok (.getfield 119, 3) := by decide +kernel
theorem dX2_addAsked_51 : decode cX2_addAsked 51 = .ok (.lconst 1, 1) := by decide +kernel
theorem dX2_addAsked_52 : decode cX2_addAsked 52 = .ok (.iload_n 1, 1) := by decide +kernel
theorem dX2_addAsked_53 : decode cX2_addAsked 53 = .ok (.lshl, 1) := by decide +kernel
theorem dX2_addAsked_54 : decode cX2_addAsked 54 = .ok (.lor, 1) := by decide +kernel
theorem dX2_addAsked_55 : decode cX2_addAsked 55 = .ok (.putfield 119, 3) := by decide +kernel
theorem dX2_addAsked_58 : decode cX2_addAsked 58 = .ok (.return_, 1) := by decide +kernel
theorem dX2_inRound_0 : decode cX2_inRound 0 = .ok (.iconst 0, 1) := by decide +kernel
theorem dX2_inRound_1 : decode cX2_inRound 1 = .ok (.istore_n 2, 1) := by decide +kernel
theorem dX2_inRound_2 : decode cX2_inRound 2 = .ok (.iload_n 2, 1) := by decide +kernel
theorem dX2_inRound_3 : decode cX2_inRound 3 = .ok (.aload_n 0, 1) := by decide +kernel
theorem dX2_inRound_4 : decode cX2_inRound 4 = .ok (.getfield 34, 3) := by decide +kernel
theorem dX2_inRound_7 : decode cX2_inRound 7 = .ok (.if_icmp .ge 32, 3) := by decide +kernel
theorem dX2_inRound_10 : decode cX2_inRound 10 = .ok (.aload_n 0, 1) := by decide +kernel
theorem dX2_inRound_11 : decode cX2_inRound 11 = .ok (.iload_n 2, 1) := by decide +kernel
theorem dX2_inRound_12 : decode cX2_inRound 12 = .ok (.invokevirtual 146, 3) := by decide +kernel
theorem dX2_inRound_15 : decode cX2_inRound 15 = .ok (.aload_n 0, 1) := by decide +kernel
theorem dX2_inRound_16 : decode cX2_inRound 16 = .ok (.getfield 24, 3) := by decide +kernel
theorem dX2_inRound_19 : decode cX2_inRound 19 = .ok (.iload_n 2, 1) := by decide +kernel
theorem dX2_inRound_20 : decode cX2_inRound 20 = .ok (.aload_n 0, 1) := by decide +kernel
theorem dX2_inRound_21 : decode cX2_inRound 21 = .ok (.getfield 119, 3) := by decide +kernel
theorem dX2_inRound_24 : decode cX2_inRound 24 = .ok (.lconst 1, 1) := by decide +kernel
theorem dX2_inRound_25 : decode cX2_inRound 25 = .ok (.iload_n 2, 1) := by decide +kernel
theorem dX2_inRound_26 : decode cX2_inRound 26 = .ok (.lshl, 1) := by decide +kernel
theorem dX2_inRound_27 : decode cX2_inRound 27 = .ok (.ldc2_w 149, 3) := by decide +kernel
theorem dX2_inRound_30 : decode cX2_inRound 30 = .ok (.lxor, 1) := by decide +kernel
theorem dX2_inRound_31 : decode cX2_inRound 31 = .ok (.land, 1) := by decide +kernel
theorem dX2_inRound_32 : decode cX2_inRound 32 = .ok (.lastore, 1) := by decide +kernel
theorem dX2_inRound_33 : decode cX2_inRound 33 = .ok (.iinc 2 1, 3) := by decide +kernel
theorem dX2_inRound_36 : decode cX2_inRound 36 = .ok (.goto (-34), 3) := by decide +kernel
theorem dX2_inRound_39 : decode cX2_inRound 39 = .ok (.iconst 0, 1) := by decide +kernel
theorem dX2_inRound_40 : decode cX2_inRound 40 = .ok (.istore_n 2, 1) := by decide +kernel
theorem dX2_inRound_41 : decode cX2_inRound 41 = .ok (.iload_n 2, 1) := by decide +kernel
theorem dX2_inRound_42 : decode cX2_inRound 42 = .ok (.aload_n 0, 1) := by decide +kernel
theorem dX2_inRound_43 : decode cX2_inRound 43 = .ok (.getfield 34, 3) := by decide +kernel
theorem dX2_inRound_46 : decode cX2_inRound 46 = .ok (.if_icmp .ge 55, 3) := by decide +kernel
theorem dX2_inRound_49 : decode cX2_inRound 49 = .ok (.iconst 0, 1) := by decide +kernel
theorem dX2_inRound_50 : decode cX2_inRound 50 = .ok (.istore_n 3, 1) := by decide +kernel
theorem dX2_inRound_51 : decode cX2_inRound 51 = .ok (.iload_n 3, 1) := by decide +kernel
theorem dX2_inRound_52 : decode cX2_inRound 52 = .ok (.aload_n 0, 1) := by decide +kernel
theorem dX2_inRound_53 : decode cX2_inRound 53 = .ok (.getfield 34, 3) := by decide +kernel
theorem dX2_inRound_56 : decode cX2_inRound 56 = .ok (.if_icmp .ge 39, 3) := by decide +kernel
theorem dX2_inRound_59 : decode cX2_inRound 59 = .ok (.aload_n 0, 1) := by decide +kernel
theorem dX2_inRound_60 : decode cX2_inRound 60 = .ok (.getfield 24, 3) := by decide +kernel
theorem dX2_inRound_63 : decode cX2_inRound 63 = .ok (.iload_n 3, 1) := by decide +kernel
theorem dX2_inRound_64 : decode cX2_inRound 64 = .ok (.laload, 1) := by decide +kernel
theorem dX2_inRound_65 : decode cX2_inRound 65 = .ok (.iload_n 2, 1) := by decide +kernel
theorem dX2_inRound_66 : decode cX2_inRound 66 = .ok (.lshr, 1) := by decide +kernel
theorem dX2_inRound_67 : decode cX2_inRound 67 = .ok (.lconst 1, 1) := by decide +kernel
theorem dX2_inRound_68 : decode cX2_inRound 68 = .ok (.land, 1) := by decide +kernel
theorem dX2_inRound_69 : decode cX2_inRound 69 = .ok (.lconst 0, 1) := by decide +kernel
theorem dX2_inRound_70 : decode cX2_inRound 70 = .ok (.lcmp, 1) := by decide +kernel
theorem dX2_inRound_71 : decode cX2_inRound 71 = .ok (.ifCond .eq 18, 3) := by decide +kernel
theorem dX2_inRound_74 : decode cX2_inRound 74 = .ok (.aload_n 0, 1) := by decide +kernel
theorem dX2_inRound_75 : decode cX2_inRound 75 = .ok (.getfield 24, 3) := by decide +kernel
theorem dX2_inRound_78 : decode cX2_inRound 78 = .ok (.iload_n 3, 1) := by decide +kernel
theorem dX2_inRound_79 : decode cX2_inRound 79 = .ok (.dup2, 1) := by decide +kernel
theorem dX2_inRound_80 : decode cX2_inRound 80 = .ok (.laload, 1) := by decide +kernel
theorem dX2_inRound_81 : decode cX2_inRound 81 = .ok (.aload_n 0, 1) := by decide +kernel
theorem dX2_inRound_82 : decode cX2_inRound 82 = .ok (.getfield 24, 3) := by decide +kernel
theorem dX2_inRound_85 : decode cX2_inRound 85 = .ok (.iload_n 2, 1) := by decide +kernel
theorem dX2_inRound_86 : decode cX2_inRound 86 = .ok (.laload, 1) := by decide +kernel
theorem dX2_inRound_87 : decode cX2_inRound 87 = .ok (.lor, 1) := by decide +kernel
theorem dX2_inRound_88 : decode cX2_inRound 88 = .ok (.lastore, 1) := by decide +kernel
theorem dX2_inRound_89 : decode cX2_inRound 89 = .ok (.iinc 3 1, 3) := by decide +kernel
theorem dX2_inRound_92 : decode cX2_inRound 92 = .ok (.goto (-41), 3) := by decide +kernel
theorem dX2_inRound_95 : decode cX2_inRound 95 = .ok (.iinc 2 1, 3) := by decide +kernel
theorem dX2_inRound_98 : decode cX2_inRound 98 = .ok (.goto (-57), 3) := by decide +kernel
theorem dX2_inRound_101 : decode cX2_inRound 101 = .ok (.iconst 0, 1) := by decide +kernel
theorem dX2_inRound_102 : decode cX2_inRound 102 = .ok (.istore_n 2, 1) := by decide +kernel
theorem dX2_inRound_103 : decode cX2_inRound 103 = .ok (.iconst 0, 1) := by decide +kernel
theorem dX2_inRound_104 : decode cX2_inRound 104 = .ok (.istore_n 3, 1) := by decide +kernel
theorem dX2_inRound_105 : decode cX2_inRound 105 = .ok (.iload_n 3, 1) := by decide +kernel
theorem dX2_inRound_106 : decode cX2_inRound 106 = .ok (.aload_n 0, 1) := by decide +kernel
theorem dX2_inRound_107 : decode cX2_inRound 107 = .ok (.getfield 34, 3) := by decide +kernel
theorem dX2_inRound_110 : decode cX2_inRound 110 = .ok (.if_icmp .ge 34, 3) := by decide +kernel
theorem dX2_inRound_113 : decode cX2_inRound 113 = .ok (.aload_n 0, 1) := by decide +kernel
theorem dX2_inRound_114 : decode cX2_inRound 114 = .ok (.getfield 24, 3) := by decide +kernel
theorem dX2_inRound_117 : decode cX2_inRound 117 = .ok (.iload_n 3, 1) := by decide +kernel
theorem dX2_inRound_118 : decode cX2_inRound 118 = .ok (.laload, 1) := by decide +kernel
theorem dX2_inRound_119 : decode cX2_inRound 119 = .ok (.iload_n 3, 1) := by decide +kernel
theorem dX2_inRound_120 : decode cX2_inRound 120 = .ok (.lshr, 1) := by decide +kernel
theorem dX2_inRound_121 : decode cX2_inRound 121 = .ok (.lconst 1, 1) := by decide +kernel
theorem dX2_inRound_122 : decode cX2_inRound 122 = .ok (.land, 1) := by decide +kernel
theorem dX2_inRound_123 : decode cX2_inRound 123 = .ok (.lconst 0, 1) := by decide +kernel
theorem dX2_inRound_124 : decode cX2_inRound 124 = .ok (.lcmp, 1) := by decide +kernel
theorem dX2_inRound_125 : decode cX2_inRound 125 = .ok (.ifCond .eq 13, 3) := by decide +kernel
theorem dX2_inRound_128 : decode cX2_inRound 128 = .ok (.iload_n 2, 1) := by decide +kernel
theorem dX2_inRound_129 : decode cX2_inRound 129 = .ok (.iload_n 1, 1) := by decide +kernel
theorem dX2_inRound_130 : decode cX2_inRound 130 = .ok (.if_icmp .ne 5, 3) := by decide +kernel
theorem dX2_inRound_133 : decode cX2_inRound 133 = .ok (.iload_n 3, 1) := by decide +kernel
theorem dX2_inRound_134 : decode cX2_inRound 134 = .ok (.ireturn, 1) := by decide +kernel
theorem dX2_inRound_135 : decode cX2_inRound 135 = .ok (.iinc 2 1, 3) := by decide +kernel
theorem dX2_inRound_138 : decode cX2_inRound 138 = .ok (.iinc 3 1, 3) := by decide +kernel
theorem dX2_inRound_141 : decode cX2_inRound 141 = .ok (.goto (-36), 3) := by decide +kernel
theorem dX2_inRound_144 : decode cX2_inRound 144 = .ok (.bipush (-6), 2) := by decide +kernel
theorem dX2_inRound_146 : decode cX2_inRound 146 = .ok (.ireturn, 1) := by decide +kernel
theorem dX3_init_0 : decode cX3_init 0 = .ok (.aload_n 0, 1) := by decide +kernel
theorem dX3_init_1 : decode cX3_init 1 = .ok (.invokespecial 3, 3) := by decide +kernel
theorem dX3_init_4 : decode cX3_init 4 = .ok (.aload_n 0, 1) := by decide +kernel
theorem dX3_init_5 : decode cX3_init 5 = .ok (.bipush (-6), 2) := by decide +kernel
theorem dX3_init_7 : decode cX3_init 7 = .ok (.putfield 9, 3) := by decide +kernel
theorem dX3_init_10 : decode cX3_init 10 = .ok (.aload_n 0, 1) := by decide +kernel
theorem dX3_init_11 : decode cX3_init 11 = .ok (.aload_n 1, 1) := by decide +kernel
theorem dX3_init_12 : decode cX3_init 12 = .ok (.putfield 15, 3) := by decide +kernel
theorem dX3_init_15 : decode cX3_init 15 = .ok (.aload_n 0, 1) := by decide +kernel
theorem dX3_init_16 : decode cX3_init 16 = .ok (.aload_n 2, 1) := by decide +kernel
theorem dX3_init_17 : decode cX3_init 17 = .ok (.putfield 19, 3) := by decide +kernel
theorem dX3_init_20 : decode cX3_init 20 = .ok (.return_, 1) := by decide +kernel
theorem dX3_doTouch_0 : decode cX3_doTouch 0 = .ok (.aload_n 0, 1) := by decide +kernel
theorem dX3_doTouch_1 : decode cX3_doTouch 1 = .ok (.iconst 1, 1) := by decide +kernel
theorem dX3_doTouch_2 : decode cX3_doTouch 2 = .ok (.putfield 23, 3) := by decide +kernel
theorem dX3_doTouch_5 : decode cX3_doTouch 5 = .ok (.aload_n 0, 1) := by decide +kernel
theorem dX3_doTouch_6 : decode cX3_doTouch 6 = .ok (.aload_n 1, 1) := by decide +kernel
theorem dX3_doTouch_7 : decode cX3_doTouch 7 = .ok (.iconst 0, 1) := by decide +kernel
theorem dX3_doTouch_8 : decode cX3_doTouch 8 = .ok (.iconst 0, 1) := by decide +kernel
theorem dX3_doTouch_9 : decode cX3_doTouch 9 = .ok (.invokevirtual 26, 3) := by decide +kernel
theorem dX3_doTouch_12 : decode cX3_doTouch 12 = .ok (.ireturn, 1) := by decide +kernel
theorem dX3_perform_0 : decode cX3_perform 0 = .ok (.aload_n 1, 1) := by decide +kernel
theorem dX3_perform_1 : decode cX3_perform 1 = .ok (.getfield 30, 3) := by decide +kernel
theorem dX3_perform_4 : decode cX3_perform 4 = .ok (.bipush 7, 2) := by decide +kernel
theorem dX3_perform_6 : decode cX3_perform 6 = .ok (.if_icmp .ne 14, 3) := by decide +kernel
theorem dX3_perform_9 : decode cX3_perform 9 = .ok (.aload_n 0, 1) := by decide +kernel
theorem dX3_perform_10 : decode cX3_perform 10 = .ok (.aload_n 1, 1) := by decide +kernel
theorem dX3_perform_11 : decode cX3_perform 11 = .ok (.getfield 35, 3) := by decide +kernel
theorem dX3_perform_14 : decode cX3_perform 14 = .ok (.bipush (-6), 2) := by decide +kernel
theorem dX3_perform_16 : decode cX3_perform 16 = .ok (.invokevirtual 38, 3) := by decide +kernel
theorem dX3_perform_19 : decode cX3_perform 19 = .ok (.ireturn, 1) := by decide +kernel
theorem dX3_perform_20 : decode cX3_perform 20 = .ok (.aload_n 0, 1) := by decide +kernel
theorem dX3_perform_21 : decode cX3_perform 21 = .ok (.getfield 15, 3) := by decide +kernel
theorem dX3_perform_24 : decode cX3_perform 24 = .ok (.aload_n 1, 1) := by decide +kernel
theorem dX3_perform_25 : decode cX3_perform 25 = .ok (.invokevirtual 42, 3) := by decide +kernel
theorem dX3_perform_28 : decode cX3_perform 28 = .ok (.istore 4, 2) := by decide +kernel
theorem dX3_perform_30 : decode cX3_perform 30 = .ok (.iload 4, 2) := by decide +kernel
theorem dX3_perform_32 : decode cX3_perform 32 = .ok (.bipush (-22), 2) := by decide +kernel
theorem dX3_perform_34 : decode cX3_perform 34 = .ok (.if_icmp .ne 12, 3) := by decide +kernel
theorem dX3_perform_37 : decode cX3_perform 37 = .ok (.aload_n 0, 1) := by decide +kernel
theorem dX3_perform_38 : decode cX3_perform 38 = .ok (.bipush 22, 2) := by decide +kernel
theorem dX3_perform_40 : decode cX3_perform 40 = .ok (.bipush (-6), 2) := by decide +kernel
theorem dX3_perform_42 : decode cX3_perform 42 = .ok (.invokevirtual 38, 3) := by decide +kernel
theorem dX3_perform_45 : decode cX3_perform 45 = .ok (.ireturn, 1) := by decide +kernel
theorem dX3_perform_46 : decode cX3_perform 46 = .ok (.iload 4, 2) := by decide +kernel
theorem dX3_perform_48 : decode cX3_perform 48 = .ok (.ifCond .lt 14, 3) := by decide +kernel
theorem dX3_perform_51 : decode cX3_perform 51 = .ok (.aload_n 0, 1) := by decide +kernel
theorem dX3_perform_52 : decode cX3_perform 52 = .ok (.iload 4, 2) := by decide +kernel
theorem dX3_perform_54 : decode cX3_perform 54 = .ok (.iload_n 2, 1) := by decide +kernel
theorem dX3_perform_55 : decode cX3_perform 55 = .ok (.iload_n 3, 1) := by decide +kernel
theorem dX3_perform_56 : decode cX3_perform 56 = .ok (.invokevirtual 48, 3) := by decide +kernel
theorem dX3_perform_59 : decode cX3_perform 59 = .ok (.goto 5, 3) := by decide +kernel
theorem dX3_perform_62 : decode cX3_perform 62 = .ok (.bipush (-6), 2) := by decide +kernel
theorem dX3_perform_64 : decode cX3_perform 64 = .ok (.istore 5, 2) := by decide +kernel
theorem dX3_perform_66 : decode cX3_perform 66 = .ok (.iload 5, 2) := by decide +kernel
theorem dX3_perform_68 : decode cX3_perform 68 = .ok (.bipush (-6), 2) := by decide +kernel
theorem dX3_perform_70 : decode cX3_perform 70 = .ok (.if_icmp .eq 6, 3) := by decide +kernel
theorem dX3_perform_73 : decode cX3_perform 73 = .ok (.iload 5, 2) := by decide +kernel
theorem dX3_perform_75 : decode cX3_perform 75 = .ok (.ireturn, 1) := by decide +kernel
theorem dX3_perform_76 : decode cX3_perform 76 = .ok (.aload_n 1, 1) := by decide +kernel
theorem dX3_perform_77 : decode cX3_perform 77 = .ok (.getfield 30, 3) := by decide +kernel
theorem dX3_perform_80 : decode cX3_perform 80 = .ok (.iconst 3, 1) := by decide +kernel
theorem dX3_perform_81 : decode cX3_perform 81 = .ok (.if_icmp .ne 32, 3) := by decide +kernel
theorem dX3_perform_84 : decode cX3_perform 84 = .ok (.iload 4, 2) := by decide +kernel
theorem dX3_perform_86 : decode cX3_perform 86 = .ok (.ifCond .lt 27, 3) := by decide +kernel
theorem dX3_perform_89 : decode cX3_perform 89 = .ok (.aload_n 0, 1) := by decide +kernel
theorem dX3_perform_90 : decode cX3_perform 90 = .ok (.aload_n 0, 1) := by decide +kernel
theorem dX3_perform_91 : decode cX3_perform 91 = .ok (.getfield 15, 3) := by decide +kernel
theorem dX3_perform_94 : decode cX3_perform 94 = .ok (.getfield 52, 3) := by decide +kernel
theorem dX3_perform_97 : decode cX3_perform 97 = .ok (.iload 4, 2) := by decide +kernel
theorem dX3_perform_99 : decode cX3_perform 99 = .ok (.aaload, 1) := by decide +kernel
theorem dX3_perform_100 : decode cX3_perform 100 = .ok (.aload_n 1, 1) := by decide +kernel
theorem dX3_perform_101 : decode cX3_perform 101 = .ok (.getfield 56, 3) := by decide +kernel
theorem dX3_perform_104 : decode cX3_perform 104 = .ok (.invokevirtual 59, 3) := by decide +kernel
theorem dX3_perform_107 : decode cX3_perform 107 = .ok (.iload_n 2, 1) := by decide +kernel
theorem dX3_perform_108 : decode cX3_perform 108 = .ok (.iload_n 3, 1) := by decide +kernel
theorem dX3_perform_109 : decode cX3_perform 109 = .ok (.invokevirtual 65, 3) := by decide +kernel
theorem dX3_perform_112 : decode cX3_perform 112 = .ok (.ireturn, 1) := by decide +kernel
theorem dX3_perform_113 : decode cX3_perform 113 = .ok (.aload_n 0, 1) := by decide +kernel
theorem dX3_perform_114 : decode cX3_perform 114 = .ok (.aload_n 1, 1) := by decide +kernel
theorem dX3_perform_115 : decode cX3_perform 115 = .ok (.invokevirtual 69, 3) := by decide +kernel
theorem dX3_perform_118 : decode cX3_perform 118 = .ok (.bipush (-6), 2) := by decide +kernel
theorem dX3_perform_120 : decode cX3_perform 120 = .ok (.ireturn, 1) := by decide +kernel
theorem dX3_putThrough_0 : decode cX3_putThrough 0 = .ok (.aload_n 1, 1) := by decide +kernel
theorem dX3_putThrough_1 : decode cX3_putThrough 1 = .ok (.getfield 30, 3) := by decide +kernel
theorem dX3_putThrough_4 : decode cX3_putThrough 4 = .ok (.ifCond .ne 17, 3) := by decide +kernel
theorem dX3_putThrough_7 : decode cX3_putThrough 7 = .ok (.aload_n 0, 1) := by decide +kernel
theorem dX3_putThrough_8 : decode cX3_putThrough 8 = .ok (.getfield 19, 3) := by decide +kernel
theorem dX3_putThrough_11 : decode cX3_putThrough 11 = .ok (.aload_n 1, 1) := by decide +kernel
theorem dX3_putThrough_12 : decode cX3_putThrough 12 = .ok (.getfield 35, 3) := by decide +kernel
theorem dX3_putThrough_15 : decode cX3_putThrough 15 = .ok (.invokevirtual 73, 3) := by decide +kernel
theorem dX3_putThrough_18 : decode cX3_putThrough 18 = .ok (.goto 102, 3) := by decide +kernel
theorem dX3_putThrough_21 : decode cX3_putThrough 21 = .ok (.aload_n 1, 1) := by decide +kernel
theorem dX3_putThrough_22 : decode cX3_putThrough 22 = .ok (.getfield 30, 3) := by decide +kernel
theorem dX3_putThrough_25 : decode cX3_putThrough 25 = .ok (.iconst 1, 1) := by decide +kernel
theorem dX3_putThrough_26 : decode cX3_putThrough 26 = .ok (.if_icmp .eq 11, 3) := by decide +kernel
theorem dX3_putThrough_29 : decode cX3_putThrough 29 = .ok (.aload_n 1, 1) := by decide +kernel
theorem dX3_putThrough_30 : decode cX3_putThrough 30 = .ok (.getfield 30, 3) := by decide +kernel
theorem dX3_putThrough_33 : decode cX3_putThrough 33 = .ok (.iconst 2, 1) := by decide +kernel
theorem dX3_putThrough_34 : decode cX3_putThrough 34 = .ok (.if_icmp .ne 86, 3) := by decide +kernel
theorem dX3_putThrough_37 : decode cX3_putThrough 37 = .ok (.aload_n 0, 1) := by decide +kernel
theorem dX3_putThrough_38 : decode cX3_putThrough 38 = .ok (.getfield 15, 3) := by decide +kernel
theorem dX3_putThrough_41 : decode cX3_putThrough 41 = .ok (.aload_n 1, 1) := by decide +kernel
theorem dX3_putThrough_42 : decode cX3_putThrough 42 = .ok (.getfield 79, 3) := by decide +kernel
theorem dX3_putThrough_45 : decode cX3_putThrough 45 = .ok (.aload_n 1, 1) := by decide +kernel
theorem dX3_putThrough_46 : decode cX3_putThrough 46 = .ok (.getfield 56, 3) := by decide +kernel
theorem dX3_putThrough_49 : decode cX3_putThrough 49 = .ok (.invokevirtual 82, 3) := by decide +kernel
theorem dX3_putThrough_52 : decode cX3_putThrough 52 = .ok (.istore_n 2, 1) := by decide +kernel
theorem dX3_putThrough_53 : decode cX3_putThrough 53 = .ok (.iload_n 2, 1) := by decide +kernel
theorem dX3_putThrough_54 : decode cX3_putThrough 54 = .ok (.bipush (-6), 2) := by decide +kernel
theorem dX3_putThrough_56 : decode cX3_putThrough 56 = .ok (.if_icmp .eq 37, 3) := by decide +kernel
theorem dX3_putThrough_59 : decode cX3_putThrough 59 = .ok (.aload_n 1, 1) := by decide +kernel
theorem dX3_putThrough_60 : decode cX3_putThrough 60 = .ok (.getfield 30, 3) := by decide +kernel
theorem dX3_putThrough_63 : decode cX3_putThrough 63 = .ok (.iconst 1, 1) := by decide +kernel
theorem dX3_putThrough_64 : decode cX3_putThrough 64 = .ok (.if_icmp .ne 29, 3) := by decide +kernel
theorem dX3_putThrough_67 : decode cX3_putThrough 67 = .ok (.aload_n 0, 1) := by decide +kernel
theorem dX3_putThrough_68 : decode cX3_putThrough 68 = .ok (.getfield 19, 3) := by decide +kernel
theorem dX3_putThrough_71 : decode cX3_putThrough 71 = .ok (.aload_n 0, 1) := by decide +kernel
theorem dX3_putThrough_72 : decode cX3_putThrough 72 = .ok (.getfield 15, 3) := by decide +kernel
theorem dX3_putThrough_75 : decode cX3_putThrough 75 = .ok (.aload_n 0, 1) := by decide +kernel
theorem dX3_putThrough_76 : decode cX3_putThrough 76 = .ok (.getfield 19, 3) := by decide +kernel
theorem dX3_putThrough_79 : decode cX3_putThrough 79 = .ok (.iload_n 2, 1) := by decide +kernel
theorem dX3_putThrough_80 : decode cX3_putThrough 80 = .ok (.aload_n 1, 1) := by decide +kernel
theorem dX3_putThrough_81 : decode cX3_putThrough 81 = .ok (.getfield 56, 3) := by decide +kernel
theorem dX3_putThrough_84 : decode cX3_putThrough 84 = .ok (.invokevirtual 85, 3) := by decide +kernel
theorem dX3_putThrough_87 : decode cX3_putThrough 87 = .ok (.invokevirtual 73, 3) := by decide +kernel
theorem dX3_putThrough_90 : decode cX3_putThrough 90 = .ok (.goto 30, 3) := by decide +kernel
theorem dX3_putThrough_93 : decode cX3_putThrough 93 = .ok (.iload_n 2, 1) := by decide +kernel
theorem dX3_putThrough_94 : decode cX3_putThrough 94 = .ok (.bipush (-6), 2) := by decide +kernel
theorem dX3_putThrough_96 : decode cX3_putThrough 96 = .ok (.if_icmp .eq 24, 3) := by decide +kernel
theorem dX3_putThrough_99 : decode cX3_putThrough 99 = .ok (.aload_n 0, 1) := by decide +kernel
theorem dX3_putThrough_100 : decode cX3_putThrough 100 = .ok (.getfield 19, 3) := by decide +kernel
theorem dX3_putThrough_103 : decode cX3_putThrough 103 = .ok (.getfield 89, 3) := by decide +kernel
theorem dX3_putThrough_106 : decode cX3_putThrough 106 = .ok (.iload_n 2, 1) := by decide +kernel
theorem dX3_putThrough_107 : decode cX3_putThrough 107 = .ok (.bipush 10, 2) := by decide +kernel
theorem dX3_putThrough_109 : decode cX3_putThrough 109 = .ok (.imul, 1) := by decide +kernel
theorem dX3_putThrough_110 : decode cX3_putThrough 110 = .ok (.aload_n 1, 1) := by decide +kernel
theorem dX3_putThrough_111 : decode cX3_putThrough 111 = .ok (.getfield 56, 3) := by decide +kernel
theorem dX3_putThrough_114 : decode cX3_putThrough 114 = .ok (.iadd, 1) := by decide +kernel
theorem dX3_putThrough_115 : decode cX3_putThrough 115 = .ok (.aload_n 1, 1) := by decide +kernel
theorem dX3_putThrough_116 : decode cX3_putThrough 116 = .ok (.getfield 35, 3) := by decide +kernel
theorem dX3_putThrough_119 : decode cX3_putThrough 119 = .ok (.iastore, 1) := by decide +kernel
theorem dX3_putThrough_120 : decode cX3_putThrough 120 = .ok (.return_, 1) := by decide +kernel
theorem dX3_arise_0 : decode cX3_arise 0 = .ok (.aload_n 0, 1) := by decide +kernel
theorem dX3_arise_1 : decode cX3_arise 1 = .ok (.dup, 1) := by decide +kernel
theorem dX3_arise_2 : decode cX3_arise 2 = .ok (.getfield 93, 3) := by decide +kernel
theorem dX3_arise_5 : decode cX3_arise 5 = .ok (.iconst 1, 1) := by decide +kernel
theorem dX3_arise_6 : decode cX3_arise 6 = .ok (.iadd, 1) := by decide +kernel
theorem dX3_arise_7 : decode cX3_arise 7 = .ok (.putfield 93, 3) := by decide +kernel
theorem dX3_arise_10 : decode cX3_arise 10 = .ok (.aload_n 0, 1) := by decide +kernel
theorem dX3_arise_11 : decode cX3_arise 11 = .ok (.iload_n 2, 1) := by decide +kernel
theorem dX3_arise_12 : decode cX3_arise 12 = .ok (.putfield 9, 3) := by decide +kernel
theorem dX3_arise_15 : decode cX3_arise 15 = .ok (.aload_n 0, 1) := by decide +kernel
theorem dX3_arise_16 : decode cX3_arise 16 = .ok (.getfield 93, 3) := by decide +kernel
theorem dX3_arise_19 : decode cX3_arise 19 = .ok (.bipush 40, 2) := by decide +kernel
theorem dX3_arise_21 : decode cX3_arise 21 = .ok (.if_icmp .le 8, 3) := by decide +kernel
theorem dX3_arise_24 : decode cX3_arise 24 = .ok (.bipush 23, 2) := by decide +kernel
theorem dX3_arise_26 : decode cX3_arise 26 = .ok (.goto 4, 3) := by decide +kernel
theorem dX3_arise_29 : decode cX3_arise 29 = .ok (.iload_n 1, 1) := by decide +kernel
theorem dX3_arise_30 : decode cX3_arise 30 = .ok (.ireturn, 1) := by decide +kernel
theorem dX3_startType_0 : decode cX3_startType 0 = .ok (.aload_n 0, 1) := by decide +kernel
theorem dX3_startType_1 : decode cX3_startType 1 = .ok (.getfield 19, 3) := by decide +kernel
theorem dX3_startType_4 : decode cX3_startType 4 = .ok (.getfield 96, 3) := by decide +kernel
theorem dX3_startType_7 : decode cX3_startType 7 = .ok (.iload_n 1, 1) := by decide +kernel
theorem dX3_startType_8 : decode cX3_startType 8 = .ok (.iaload, 1) := by decide +kernel
theorem dX3_startType_9 : decode cX3_startType 9 = .ok (.istore 4, 2) := by decide +kernel
theorem dX3_startType_11 : decode cX3_startType 11 = .ok (.iload 4, 2) := by decide +kernel
theorem dX3_startType_13 : decode cX3_startType 13 = .ok (.iconst 3, 1) := by decide +kernel
theorem dX3_startType_14 : decode cX3_startType 14 = .ok (.if_icmp .ne 11, 3) := by decide +kernel
theorem dX3_startType_17 : decode cX3_startType 17 = .ok (.aload_n 0, 1) := by decide +kernel
theorem dX3_startType_18 : decode cX3_startType 18 = .ok (.bipush 21, 2) := by decide +kernel
theorem dX3_startType_20 : decode cX3_startType 20 = .ok (.iload_n 1, 1) := by decide +kernel
theorem dX3_startType_21 : decode cX3_startType 21 = .ok (.invokevirtual 38, 3) := by decide +kernel
theorem dX3_startType_24 : decode cX3_startType 24 = .ok (.ireturn, 1) := by decide +kernel
theorem dX3_startType_25 : decode cX3_startType 25 = .ok (.iload 4, 2) := by decide +kernel
theorem dX3_startType_27 : decode cX3_startType 27 = .ok (.ifCond .eq 6, 3) := by decide +kernel
theorem dX3_startType_30 : decode cX3_startType 30 = .ok (.bipush (-6), 2) := by decide +kernel
theorem dX3_startType_32 : decode cX3_startType 32 = .ok (.ireturn, 1) := by decide +kernel
theorem dX3_startType_33 : decode cX3_startType 33 = .ok (.iload_n 3, 1) := by decide +kernel
theorem dX3_startType_34 : decode cX3_startType 34 = .ok (.bipush 40, 2) := by decide +kernel
theorem dX3_startType_36 : decode cX3_startType 36 = .ok (.if_icmp .lt 6, 3) := by decide +kernel
theorem dX3_startType_39 : decode cX3_startType 39 = .ok (.bipush 23, 2) := by decide +kernel
theorem dX3_startType_41 : decode cX3_startType 41 = .ok (.ireturn, 1) := by decide +kernel
theorem dX3_startType_42 : decode cX3_startType 42 = .ok (.aload_n 0, 1) := by decide +kernel
theorem dX3_startType_43 : decode cX3_startType 43 = .ok (.getfield 19, 3) := by decide +kernel
theorem dX3_startType_46 : decode cX3_startType 46 = .ok (.getfield 96, 3) := by decide +kernel
theorem dX3_startType_49 : decode cX3_startType 49 = .ok (.iload_n 1, 1) := by decide +kernel
theorem dX3_startType_50 : decode cX3_startType 50 = .ok (.iconst 1, 1) := by decide +kernel
theorem dX3_startType_51 : decode cX3_startType 51 = .ok (.iastore, 1) := by decide +kernel
theorem dX3_startType_52 : decode cX3_startType 52 = .ok (.aload_n 0, 1) := by decide +kernel
theorem dX3_startType_53 : decode cX3_startType 53 = .ok (.aload_n 0, 1) := by decide +kernel
theorem dX3_startType_54 : decode cX3_startType 54 = .ok (.getfield 15, 3) := by decide +kernel
theorem dX3_startType_57 : decode cX3_startType 57 = .ok (.getfield 52, 3) := by decide +kernel
theorem dX3_startType_60 : decode cX3_startType 60 = .ok (.iload_n 1, 1) := by decide +kernel
theorem dX3_startType_61 : decode cX3_startType 61 = .ok (.aaload, 1) := by decide +kernel
theorem dX3_startType_62 : decode cX3_startType 62 = .ok (.iload_n 2, 1) := by decide +kernel
theorem dX3_startType_63 : decode cX3_startType 63 = .ok (.iload_n 3, 1) := by decide +kernel
theorem dX3_startType_64 : decode cX3_startType 64 = .ok (.iconst 1, 1) := by decide +kernel
theorem dX3_startType_65 : decode cX3_startType 65 = .ok (.iadd, 1) := by decide +kernel
theorem dX3_startType_66 : decode cX3_startType 66 = .ok (.invokevirtual 99, 3) := by decide +kernel
theorem dX3_startType_69 : decode cX3_startType 69 = .ok (.istore 5, 2) := by decide +kernel
theorem dX3_startType_71 : decode cX3_startType 71 = .ok (.iload 5, 2) := by decide +kernel
theorem dX3_startType_73 : decode cX3_startType 73 = .ok (.bipush (-6), 2) := by decide +kernel
theorem dX3_startType_75 : decode cX3_startType 75 = .ok (.if_icmp .ne 14, 3) := by decide +kernel
theorem dX3_startType_78 : decode cX3_startType 78 = .ok (.aload_n 0, 1) := by decide +kernel
theorem dX3_startType_79 : decode cX3_startType 79 = .ok (.iload_n 1, 1) := by decide +kernel
theorem dX3_startType_80 : decode cX3_startType 80 = .ok (.iload_n 2, 1) := by decide +kernel
theorem dX3_startType_81 : decode cX3_startType 81 = .ok (.iload_n 3, 1) := by decide +kernel
theorem dX3_startType_82 : decode cX3_startType 82 = .ok (.iconst 1, 1) := by decide +kernel
theorem dX3_startType_83 : decode cX3_startType 83 = .ok (.iadd, 1) := by decide +kernel
theorem dX3_startType_84 : decode cX3_startType 84 = .ok (.invokevirtual 103, 3) := by decide +kernel
theorem dX3_startType_87 : decode cX3_startType 87 = .ok (.istore 5, 2) := by decide +kernel
theorem dX3_startType_89 : decode cX3_startType 89 = .ok (.iload 5, 2) := by decide +kernel
theorem dX3_startType_91 : decode cX3_startType 91 = .ok (.ifCond .lt 20, 3) := by decide +kernel
theorem dX3_startType_94 : decode cX3_startType 94 = .ok (.iload 5, 2) := by decide +kernel
theorem dX3_startType_96 : decode cX3_startType 96 = .ok (.bipush 20, 2) := by decide +kernel
theorem dX3_startType_98 : decode cX3_startType 98 = .ok (.if_icmp .ge 13, 3) := by decide +kernel
theorem dX3_startType_101 : decode cX3_startType 101 = .ok (.aload_n 0, 1) := by decide +kernel
theorem dX3_startType_102 : decode cX3_startType 102 = .ok (.bipush 20, 2) := by decide +kernel
theorem dX3_startType_104 : decode cX3_startType 104 = .ok (.iload 5, 2) := by decide +kernel
theorem dX3_startType_106 : decode cX3_startType 106 = .ok (.invokevirtual 38, 3) := by decide +kernel
theorem dX3_startType_109 : decode cX3_startType 109 = .ok (.istore 5, 2) := by decide +kernel
theorem dX3_startType_111 : decode cX3_startType 111 = .ok (.aload_n 0, 1) := by decide +kernel
theorem dX3_startType_112 : decode cX3_startType 112 = .ok (.getfield 19, 3) := by decide +kernel
theorem dX3_startType_115 : decode cX3_startType 115 = .ok (.getfield 96, 3) := by decide +kernel
theorem dX3_startType_118 : decode cX3_startType 118 = .ok (.iload_n 1, 1) := by decide +kernel
theorem dX3_startType_119 : decode cX3_startType 119 = .ok (.iload 5, 2) := by decide +kernel
theorem dX3_startType_121 : decode cX3_startType 121 = .ok (.bipush (-6), 2) := by decide +kernel
theorem dX3_startType_123 : decode cX3_startType 123 = .ok (.if_icmp .ne 7, 3) := by decide +kernel
theorem dX3_startType_126 : decode cX3_startType 126 = .ok (.iconst 2, 1) := by decide +kernel
theorem dX3_startType_127 : decode cX3_startType 127 = .ok (.goto 4, 3) := by decide +kernel
theorem dX3_startType_130 : decode cX3_startType 130 = .ok (.iconst 3, 1) := by decide +kernel
theorem dX3_startType_131 : decode cX3_startType 131 = .ok (.iastore, 1) := by decide +kernel
theorem dX3_startType_132 : decode cX3_startType 132 = .ok (.iload 5, 2) := by decide +kernel
theorem dX3_startType_134 : decode cX3_startType 134 = .ok (.ireturn, 1) := by decide +kernel
theorem dX3_startFirsts_0 : decode cX3_startFirsts 0 = .ok (.aload_n 1, 1) := by decide +kernel
theorem dX3_startFirsts_1 : decode cX3_startFirsts 1 = .ok (.getfield 106, 3) := by decide +kernel
theorem dX3_startFirsts_4 : decode cX3_startFirsts 4 = .ok (.ifCond .eq 6, 3) := by decide +kernel
theorem dX3_startFirsts_7 : decode cX3_startFirsts 7 = .ok (.bipush (-6), 2) := by decide +kernel
theorem dX3_startFirsts_9 : decode cX3_startFirsts 9 = .ok (.ireturn, 1) := by decide +kernel
theorem dX3_startFirsts_10 : decode cX3_startFirsts 10 = .ok (.aload_n 1, 1) := by decide +kernel
theorem dX3_startFirsts_11 : decode cX3_startFirsts 11 = .ok (.getfield 110, 3) := by decide +kernel
theorem dX3_startFirsts_14 : decode cX3_startFirsts 14 = .ok (.ifCond .lt 16, 3) := by decide +kernel
theorem dX3_startFirsts_17 : decode cX3_startFirsts 17 = .ok (.aload_n 0, 1) := by decide +kernel
theorem dX3_startFirsts_18 : decode cX3_startFirsts 18 = .ok (.aload_n 1, 1) := by decide +kernel
theorem dX3_startFirsts_19 : decode cX3_startFirsts 19 = .ok (.getfield 110, 3) := by decide +kernel
theorem dX3_startFirsts_22 : decode cX3_startFirsts 22 = .ok (.iload_n 2, 1) := by decide +kernel
theorem dX3_startFirsts_23 : decode cX3_startFirsts 23 = .ok (.iload_n 3, 1) := by decide +kernel
theorem dX3_startFirsts_24 : decode cX3_startFirsts 24 = .ok (.invokevirtual 48, 3) := by decide +kernel
theorem dX3_startFirsts_27 : decode cX3_startFirsts 27 = .ok (.goto 5, 3) := by decide +kernel
theorem dX3_startFirsts_30 : decode cX3_startFirsts 30 = .ok (.bipush (-6), 2) := by decide +kernel
theorem dX3_startFirsts_32 : decode cX3_startFirsts 32 = .ok (.istore 4, 2) := by decide +kernel
theorem dX3_startFirsts_34 : decode cX3_startFirsts 34 = .ok (.aload_n 0, 1) := by decide +kernel
theorem dX3_startFirsts_35 : decode cX3_startFirsts 35 = .ok (.getfield 15, 3) := by decide +kernel
theorem dX3_startFirsts_38 : decode cX3_startFirsts 38 = .ok (.aload_n 1, 1) := by decide +kernel
theorem dX3_startFirsts_39 : decode cX3_startFirsts 39 = .ok (.invokevirtual 113, 3) := by decide +kernel
theorem dX3_startFirsts_42 : decode cX3_startFirsts 42 = .ok (.iconst 0, 1) := by decide +kernel
theorem dX3_startFirsts_43 : decode cX3_startFirsts 43 = .ok (.istore 5, 2) := by decide +kernel
theorem dX3_startFirsts_45 : decode cX3_startFirsts 45 = .ok (.iload 5, 2) := by decide +kernel
theorem dX3_startFirsts_47 : decode cX3_startFirsts 47 = .ok (.aload_n 1, 1) := by decide +kernel
theorem dX3_startFirsts_48 : decode cX3_startFirsts 48 = .ok (.getfield 117, 3) := by decide +kernel
theorem dX3_startFirsts_51 : decode cX3_startFirsts 51 = .ok (.if_icmp .ge 31, 3) := by decide +kernel
theorem dX3_startFirsts_54 : decode cX3_startFirsts 54 = .ok (.iload 4, 2) := by decide +kernel
theorem dX3_startFirsts_56 : decode cX3_startFirsts 56 = .ok (.bipush (-6), 2) := by decide +kernel
theorem dX3_startFirsts_58 : decode cX3_startFirsts 58 = .ok (.if_icmp .ne 24, 3) := by decide +kernel
theorem dX3_startFirsts_61 : decode cX3_startFirsts 61 = .ok (.aload_n 0, 1) := by decide +kernel
theorem dX3_startFirsts_62 : decode cX3_startFirsts 62 = .ok (.aload_n 1, 1) := by decide +kernel
theorem dX3_startFirsts_63 : decode cX3_startFirsts 63 = .ok (.getfield 120, 3) := by decide +kernel
theorem dX3_startFirsts_66 : decode cX3_startFirsts 66 = .ok (.iload 5, 2) := by decide +kernel
theorem dX3_startFirsts_68 : decode cX3_startFirsts 68 = .ok (.iaload, 1) := by decide +kernel
theorem dX3_startFirsts_69 : decode cX3_startFirsts 69 = .ok (.iload_n 2, 1) := by decide +kernel
theorem dX3_startFirsts_70 : decode cX3_startFirsts 70 = .ok (.iload_n 3, 1) := by decide +kernel
theorem dX3_startFirsts_71 : decode cX3_startFirsts 71 = .ok (.invokevirtual 48, 3) := by decide +kernel
theorem dX3_startFirsts_74 : decode cX3_startFirsts 74 = .ok (.istore 4, 2) := by decide +kernel
theorem dX3_startFirsts_76 : decode cX3_startFirsts 76 = .ok (.iinc 5 1, 3) := by decide +kernel
theorem dX3_startFirsts_79 : decode cX3_startFirsts 79 = .ok (.goto (-34), 3) := by decide +kernel
theorem dX3_startFirsts_82 : decode cX3_startFirsts 82 = .ok (.iload 4, 2) := by decide +kernel
theorem dX3_startFirsts_84 : decode cX3_startFirsts 84 = .ok (.ireturn, 1) := by decide +kernel
theorem dX3_runStart_0 : decode cX3_runStart 0 = .ok (.iload_n 2, 1) := by decide +kernel
theorem dX3_runStart_1 : decode cX3_runStart 1 = .ok (.bipush 30, 2) := by decide +kernel
theorem dX3_runStart_3 : decode cX3_runStart 3 = .ok (.if_icmp .lt 6, 3) := by decide +kernel
theorem dX3_runStart_6 : decode cX3_runStart 6 = .ok (.bipush 23, 2) := by decide +kernel
theorem dX3_runStart_8 : decode cX3_runStart 8 = .ok (.ireturn, 1) := by decide +kernel
theorem dX3_runStart_9 : decode cX3_runStart 9 = .ok (.aload_n 0, 1) := by decide +kernel
theorem dX3_runStart_10 : decode cX3_runStart 10 = .ok (.getfield 19, 3) := by decide +kernel
theorem dX3_runStart_13 : decode cX3_runStart 13 = .ok (.iload_n 1, 1) := by decide +kernel
theorem dX3_runStart_14 : decode cX3_runStart 14 = .ok (.invokevirtual 123, 3) := by decide +kernel
theorem dX3_runStart_17 : decode cX3_runStart 17 = .ok (.aload_n 0, 1) := by decide +kernel
theorem dX3_runStart_18 : decode cX3_runStart 18 = .ok (.dup, 1) := by decide +kernel
theorem dX3_runStart_19 : decode cX3_runStart 19 = .ok (.getfield 126, 3) := by decide +kernel
theorem dX3_runStart_22 : decode cX3_runStart 22 = .ok (.iconst 1, 1) := by decide +kernel
theorem dX3_runStart_23 : decode cX3_runStart 23 = .ok (.iadd, 1) := by decide +kernel
theorem dX3_runStart_24 : decode cX3_runStart 24 = .ok (.putfield 126, 3) := by decide +kernel
theorem dX3_runStart_27 : decode cX3_runStart 27 = .ok (.aload_n 0, 1) := by decide +kernel
theorem dX3_runStart_28 : decode cX3_runStart 28 = .ok (.aload_n 0, 1) := by decide +kernel
theorem dX3_runStart_29 : decode cX3_runStart 29 = .ok (.getfield 15, 3) := by decide +kernel
theorem dX3_runStart_32 : decode cX3_runStart 32 = .ok (.getfield 52, 3) := by decide +kernel
theorem dX3_runStart_35 : decode cX3_runStart 35 = .ok (.iload_n 1, 1) := by decide +kernel
theorem dX3_runStart_36 : decode cX3_runStart 36 = .ok (.aaload, 1) := by decide +kernel
theorem dX3_runStart_37 : decode cX3_runStart 37 = .ok (.getfield 129, 3) := by decide +kernel
theorem dX3_runStart_40 : decode cX3_runStart 40 = .ok (.iload_n 2, 1) := by decide +kernel
theorem dX3_runStart_41 : decode cX3_runStart 41 = .ok (.iload_n 3, 1) := by decide +kernel
theorem dX3_runStart_42 : decode cX3_runStart 42 = .ok (.invokevirtual 65, 3) := by decide +kernel
theorem dX3_runStart_45 : decode cX3_runStart 45 = .ok (.ireturn, 1) := by decide +kernel
theorem dX3_runBody_0 : decode cX3_runBody 0 = .ok (.aload_n 1, 1) := by decide +kernel
theorem dX3_runBody_1 : decode cX3_runBody 1 = .ok (.ifnull 9, 3) := by decide +kernel
theorem dX3_runBody_4 : decode cX3_runBody 4 = .ok (.iload_n 2, 1) := by decide +kernel
theorem dX3_runBody_5 : decode cX3_runBody 5 = .ok (.bipush 30, 2) := by decide +kernel
theorem dX3_runBody_7 : decode cX3_runBody 7 = .ok (.if_icmp .lt 6, 3) := by decide +kernel
theorem dX3_runBody_10 : decode cX3_runBody 10 = .ok (.bipush 23, 2) := by decide +kernel
theorem dX3_runBody_12 : decode cX3_runBody 12 = .ok (.ireturn, 1) := by decide +kernel
theorem dX3_runBody_13 : decode cX3_runBody 13 = .ok (.aload_n 0, 1) := by decide +kernel
theorem dX3_runBody_14 : decode cX3_runBody 14 = .ok (.aload_n 0, 1) := by decide +kernel
theorem dX3_runBody_15 : decode cX3_runBody 15 = .ok (.getfield 133, 3) := by decide +kernel
theorem dX3_runBody_18 : decode cX3_runBody 18 = .ok (.iload_n 2, 1) := by decide +kernel
theorem dX3_runBody_19 : decode cX3_runBody 19 = .ok (.iconst 1, 1) := by decide +kernel
theorem dX3_runBody_20 : decode cX3_runBody 20 = .ok (.iadd, 1) := by decide +kernel
theorem dX3_runBody_21 : decode cX3_runBody 21 = .ok (.invokestatic 136, 3) := by decide +kernel
theorem dX3_runBody_24 : decode cX3_runBody 24 = .ok (.putfield 133, 3) := by decide +kernel
theorem dX3_runBody_27 : decode cX3_runBody 27 = .ok (.iconst 0, 1) := by decide +kernel
theorem dX3_runBody_28 : decode cX3_runBody 28 = .ok (.istore 4, 2) := by decide +kernel
theorem dX3_runBody_30 : decode cX3_runBody 30 = .ok (.iconst 0, 1) := by decide +kernel
theorem dX3_runBody_31 : decode cX3_runBody 31 = .ok (.istore 5, 2) := by decide +kernel
theorem dX3_runBody_33 : decode cX3_runBody 33 = .ok (.iload 5, 2) := by decide +kernel
theorem dX3_runBody_35 : decode cX3_runBody 35 = .ok (.aload_n 1, 1) := by decide +kernel
theorem dX3_runBody_36 : decode cX3_runBody 36 = .ok (.getfield 141, 3) := by decide +kernel
theorem dX3_runBody_39 : decode cX3_runBody 39 = .ok (.if_icmp .ge 92, 3) := by decide +kernel
theorem dX3_runBody_42 : decode cX3_runBody 42 = .ok (.aload_n 0, 1) := by decide +kernel
theorem dX3_runBody_43 : decode cX3_runBody 43 = .ok (.getfield 23, 3) := by decide +kernel
theorem dX3_runBody_46 : decode cX3_runBody 46 = .ok (.sipush 1000, 3) := by decide +kernel
theorem dX3_runBody_49 : decode cX3_runBody 49 = .ok (.if_icmp .lt 6, 3) := by decide +kernel
theorem dX3_runBody_52 : decode cX3_runBody 52 = .ok (.bipush 23, 2) := by decide +kernel
theorem dX3_runBody_54 : decode cX3_runBody 54 = .ok (.ireturn, 1) := by decide +kernel
theorem dX3_runBody_55 : decode cX3_runBody 55 = .ok (.aload_n 0, 1) := by decide +kernel
theorem dX3_runBody_56 : decode cX3_runBody 56 = .ok (.dup, 1) := by decide +kernel
theorem dX3_runBody_57 : decode cX3_runBody 57 = .ok (.getfield 23, 3) := by decide +kernel
theorem dX3_runBody_60 : decode cX3_runBody 60 = .ok (.iconst 1, 1) := by decide +kernel
theorem dX3_runBody_61 : decode cX3_runBody 61 = .ok (.iadd, 1) := by decide +kernel
theorem dX3_runBody_62 : decode cX3_runBody 62 = .ok (.putfield 23, 3) := by decide +kernel
theorem dX3_runBody_65 : decode cX3_runBody 65 = .ok (.aload_n 1, 1) := by decide +kernel
theorem dX3_runBody_66 : decode cX3_runBody 66 = .ok (.getfield 146, 3) := by decide +kernel
theorem dX3_runBody_69 : decode cX3_runBody 69 = .ok (.iload 5, 2) := by decide +kernel
theorem dX3_runBody_71 : decode cX3_runBody 71 = .ok (.aaload, 1) := by decide +kernel
theorem dX3_runBody_72 : decode cX3_runBody 72 = .ok (.astore 6, 2) := by decide +kernel
theorem dX3_runBody_74 : decode cX3_runBody 74 = .ok (.aload 6, 2) := by decide +kernel
theorem dX3_runBody_76 : decode cX3_runBody 76 = .ok (.getfield 30, 3) := by decide +kernel
theorem dX3_runBody_79 : decode cX3_runBody 79 = .ok (.bipush 8, 2) := by decide +kernel
theorem dX3_runBody_81 : decode cX3_runBody 81 = .ok (.if_icmp .eq 44, 3) := by decide +kernel
theorem dX3_runBody_84 : decode cX3_runBody 84 = .ok (.aload_n 0, 1) := by decide +kernel
theorem dX3_runBody_85 : decode cX3_runBody 85 = .ok (.aload 6, 2) := by decide +kernel
theorem dX3_runBody_87 : decode cX3_runBody 87 = .ok (.iload_n 2, 1) := by decide +kernel
theorem dX3_runBody_88 : decode cX3_runBody 88 = .ok (.iconst 1, 1) := by decide +kernel
theorem dX3_runBody_89 : decode cX3_runBody 89 = .ok (.iadd, 1) := by decide +kernel
theorem dX3_runBody_90 : decode cX3_runBody 90 = .ok (.iload_n 3, 1) := by decide +kernel
theorem dX3_runBody_91 : decode cX3_runBody 91 = .ok (.invokevirtual 26, 3) := by decide +kernel
theorem dX3_runBody_94 : decode cX3_runBody 94 = .ok (.istore 7, 2) := by decide +kernel
theorem dX3_runBody_96 : decode cX3_runBody 96 = .ok (.aload_n 0, 1) := by decide +kernel
theorem dX3_runBody_97 : decode cX3_runBody 97 = .ok (.aload_n 1, 1) := by decide +kernel
theorem dX3_runBody_98 : decode cX3_runBody 98 = .ok (.iload 4, 2) := by decide +kernel
theorem dX3_runBody_100 : decode cX3_runBody 100 = .ok (.iload 5, 2) := by decide +kernel
theorem dX3_runBody_102 : decode cX3_runBody 102 = .ok (.iload 7, 2) := by decide +kernel
theorem dX3_runBody_104 : decode cX3_runBody 104 = .ok (.invokevirtual 149, 3) := by decide +kernel
theorem dX3_runBody_107 : decode cX3_runBody 107 = .ok (.istore 7, 2) := by decide +kernel
theorem dX3_runBody_109 : decode cX3_runBody 109 = .ok (.iload 7, 2) := by decide +kernel
theorem dX3_runBody_111 : decode cX3_runBody 111 = .ok (.bipush (-6), 2) := by decide +kernel
theorem dX3_runBody_113 : decode cX3_runBody 113 = .ok (.if_icmp .eq 6, 3) := by decide +kernel
theorem dX3_runBody_116 : decode cX3_runBody 116 = .ok (.iload 7, 2) := by decide +kernel
theorem dX3_runBody_118 : decode cX3_runBody 118 = .ok (.ireturn, 1) := by decide +kernel
theorem dX3_runBody_119 : decode cX3_runBody 119 = .ok (.iload 5, 2) := by decide +kernel
theorem dX3_runBody_121 : decode cX3_runBody 121 = .ok (.iconst 1, 1) := by decide +kernel
theorem dX3_runBody_122 : decode cX3_runBody 122 = .ok (.iadd, 1) := by decide +kernel
theorem dX3_runBody_123 : decode cX3_runBody 123 = .ok (.istore 4, 2) := by decide +kernel
theorem dX3_runBody_125 : decode cX3_runBody 125 = .ok (.iinc 5 1, 3) := by decide +kernel
theorem dX3_runBody_128 : decode cX3_runBody 128 = .ok (.goto (-95), 3) := by decide +kernel
theorem dX3_runBody_131 : decode cX3_runBody 131 = .ok (.bipush (-6), 2) := by decide +kernel
theorem dX3_runBody_133 : decode cX3_runBody 133 = .ok (.ireturn, 1) := by decide +kernel
theorem dX3_takeFailure_0 : decode cX3_takeFailure 0 = .ok (.iload 4, 2) := by decide +kernel
theorem dX3_takeFailure_2 : decode cX3_takeFailure 2 = .ok (.bipush (-6), 2) := by decide +kernel
theorem dX3_takeFailure_4 : decode cX3_takeFailure 4 = .ok (.if_icmp .eq 10, 3) := by decide +kernel
theorem dX3_takeFailure_7 : decode cX3_takeFailure 7 = .ok (.iload 4, 2) := by decide +kernel
theorem dX3_takeFailure_9 : decode cX3_takeFailure 9 = .ok (.bipush 23, 2) := by decide +kernel
theorem dX3_takeFailure_11 : decode cX3_takeFailure 11 = .ok (.if_icmp .ne 6, 3) := by decide +kernel
theorem dX3_takeFailure_14 : decode cX3_takeFailure 14 = .ok (.iload 4, 2) := by decide +kernel
theorem dX3_takeFailure_16 : decode cX3_takeFailure 16 = .ok (.ireturn, 1) := by decide +kernel
theorem dX3_takeFailure_17 : decode cX3_takeFailure 17 = .ok (.iload_n 3, 1) := by decide +kernel
theorem dX3_takeFailure_18 : decode cX3_takeFailure 18 = .ok (.iconst 1, 1) := by decide +kernel
theorem dX3_takeFailure_19 : decode cX3_takeFailure 19 = .ok (.isub, 1) := by decide +kernel
theorem dX3_takeFailure_20 : decode cX3_takeFailure 20 = .ok (.istore 5, 2) := by decide +kernel
theorem dX3_takeFailure_22 : decode cX3_takeFailure 22 = .ok (.iload 5, 2) := by decide +kernel
theorem dX3_takeFailure_24 : decode cX3_takeFailure 24 = .ok (.iload_n 2, 1) := by decide +kernel
theorem dX3_takeFailure_25 : decode cX3_takeFailure 25 = .ok (.if_icmp .lt 50, 3) := by decide +kernel
theorem dX3_takeFailure_28 : decode cX3_takeFailure 28 = .ok (.aload_n 1, 1) := by decide +kernel
theorem dX3_takeFailure_29 : decode cX3_takeFailure 29 = .ok (.getfield 146, 3) := by decide +kernel
theorem dX3_takeFailure_32 : decode cX3_takeFailure 32 = .ok (.iload 5, 2) := by decide +kernel
theorem dX3_takeFailure_34 : decode cX3_takeFailure 34 = .ok (.aaload, 1) := by decide +kernel
theorem dX3_takeFailure_35 : decode cX3_takeFailure 35 = .ok (.getfield 35, 3) := by decide +kernel
theorem dX3_takeFailure_38 : decode cX3_takeFailure 38 = .ok (.istore 6, 2) := by decide +kernel
theorem dX3_takeFailure_40 : decode cX3_takeFailure 40 = .ok (.iload 6, 2) := by decide +kernel
theorem dX3_takeFailure_42 : decode cX3_takeFailure 42 = .ok (.iconst (-1), 1) := by decide +kernel
theorem dX3_takeFailure_43 : decode cX3_takeFailure 43 = .ok (.if_icmp .eq 10, 3) := by decide +kernel
theorem dX3_takeFailure_46 : decode cX3_takeFailure 46 = .ok (.iload 6, 2) := by decide +kernel
theorem dX3_takeFailure_48 : decode cX3_takeFailure 48 = .ok (.iload 4, 2) := by decide +kernel
theorem dX3_takeFailure_50 : decode cX3_takeFailure 50 = .ok (.if_icmp .ne 19, 3) := by decide +kernel
theorem dX3_takeFailure_53 : decode cX3_takeFailure 53 = .ok (.aload_n 0, 1) := by decide +kernel
theorem dX3_takeFailure_54 : decode cX3_takeFailure 54 = .ok (.getfield 19, 3) := by decide +kernel
theorem dX3_takeFailure_57 : decode cX3_takeFailure 57 = .ok (.sipush 1000, 3) := by decide +kernel
theorem dX3_takeFailure_60 : decode cX3_takeFailure 60 = .ok (.iload 4, 2) := by decide +kernel
theorem dX3_takeFailure_62 : decode cX3_takeFailure 62 = .ok (.iadd, 1) := by decide +kernel
theorem dX3_takeFailure_63 : decode cX3_takeFailure 63 = .ok (.invokevirtual 73, 3) := by decide +kernel
theorem dX3_takeFailure_66 : decode cX3_takeFailure 66 = .ok (.bipush (-6), 2) := by decide +kernel
theorem dX3_takeFailure_68 : decode cX3_takeFailure 68 = .ok (.ireturn, 1) := by decide +kernel
theorem dX3_takeFailure_69 : decode cX3_takeFailure 69 = .ok (.iinc 5 (-1), 3) := by decide +kernel
theorem dX3_takeFailure_72 : decode cX3_takeFailure 72 = .ok (.goto (-50), 3) := by decide +kernel
theorem dX3_takeFailure_75 : decode cX3_takeFailure 75 = .ok (.iload 4, 2) := by decide +kernel
theorem dX3_takeFailure_77 : decode cX3_takeFailure 77 = .ok (.ireturn, 1) := by decide +kernel
theorem dX4_init_0 : decode cX4_init 0 = .ok (.aload_n 0, 1) := by decide +kernel
theorem dX4_init_1 : decode cX4_init 1 = .ok (.invokespecial 3, 3) := by decide +kernel
theorem dX4_init_4 : decode cX4_init 4 = .ok (.aload_n 0, 1) := by decide +kernel
theorem dX4_init_5 : decode cX4_init 5 = .ok (.iconst 4, 1) := by decide +kernel
theorem dX4_init_6 : decode cX4_init 6 = .ok (.newarray .int, 2) := by decide +kernel
theorem dX4_init_8 : decode cX4_init 8 = .ok (.putfield 9, 3) := by decide +kernel
theorem dX4_init_11 : decode cX4_init 11 = .ok (.aload_n 0, 1) := by decide +kernel
theorem dX4_init_12 : decode cX4_init 12 = .ok (.bipush 10, 2) := by decide +kernel
theorem dX4_init_14 : decode cX4_init 14 = .ok (.newarray .int, 2) := by decide +kernel
theorem dX4_init_16 : decode cX4_init 16 = .ok (.putfield 15, 3) := by decide +kernel
theorem dX4_init_19 : decode cX4_init 19 = .ok (.aload_n 0, 1) := by decide +kernel
theorem dX4_init_20 : decode cX4_init 20 = .ok (.bipush 10, 2) := by decide +kernel
theorem dX4_init_22 : decode cX4_init 22 = .ok (.newarray .int, 2) := by decide +kernel
theorem dX4_init_24 : decode cX4_init 24 = .ok (.putfield 18, 3) := by decide +kernel
theorem dX4_init_27 : decode cX4_init 27 = .ok (.aload_n 0, 1) := by decide +kernel
theorem dX4_init_28 : decode cX4_init 28 = .ok (.bipush 10, 2) := by decide +kernel
theorem dX4_init_30 : decode cX4_init 30 = .ok (.anewarray 21, 3) := by decide +kernel
theorem dX4_init_33 : decode cX4_init 33 = .ok (.putfield 23, 3) := by decide +kernel
theorem dX4_init_36 : decode cX4_init 36 = .ok (.aload_n 0, 1) := by decide +kernel
theorem dX4_init_37 : decode cX4_init 37 = .ok (.new 21, 3) := by decide +kernel
theorem dX4_init_40 : decode cX4_init 40 = .ok (.dup, 1) := by decide +kernel
theorem dX4_init_41 : decode cX4_init 41 = .ok (.invokespecial 27, 3) := by decide +kernel
theorem dX4_init_44 : decode cX4_init 44 = .ok (.putfield 28, 3) := by decide +kernel
theorem dX4_init_47 : decode cX4_init 47 = .ok (.aload_n 0, 1) := by decide +kernel
theorem dX4_init_48 : decode cX4_init 48 = .ok (.bipush 40, 2) := by decide +kernel
theorem dX4_init_50 : decode cX4_init 50 = .ok (.newarray .int, 2) := by decide +kernel
theorem dX4_init_52 : decode cX4_init 52 = .ok (.putfield 32, 3) := by decide +kernel
theorem dX4_init_55 : decode cX4_init 55 = .ok (.aload_n 0, 1) := by decide +kernel
theorem dX4_init_56 : decode cX4_init 56 = .ok (.iload_n 1, 1) := by decide +kernel
theorem dX4_init_57 : decode cX4_init 57 = .ok (.putfield 35, 3) := by decide +kernel
theorem dX4_init_60 : decode cX4_init 60 = .ok (.aload_n 0, 1) := by decide +kernel
theorem dX4_init_61 : decode cX4_init 61 = .ok (.iload_n 2, 1) := by decide +kernel
theorem dX4_init_62 : decode cX4_init 62 = .ok (.putfield 39, 3) := by decide +kernel
theorem dX4_init_65 : decode cX4_init 65 = .ok (.aload_n 0, 1) := by decide +kernel
theorem dX4_init_66 : decode cX4_init 66 = .ok (.iload_n 3, 1) := by decide +kernel
theorem dX4_init_67 : decode cX4_init 67 = .ok (.putfield 42, 3) := by decide +kernel
theorem dX4_init_70 : decode cX4_init 70 = .ok (.return_, 1) := by decide +kernel
theorem dX4_isUnder_0 : decode cX4_isUnder 0 = .ok (.iconst 0, 1) := by decide +kernel
theorem dX4_isUnder_1 : decode cX4_isUnder 1 = .ok (.istore_n 2, 1) := by decide +kernel
theorem dX4_isUnder_2 : decode cX4_isUnder 2 = .ok (.iload_n 2, 1) := by decide +kernel
theorem dX4_isUnder_3 : decode cX4_isUnder 3 = .ok (.aload_n 0, 1) := by decide +kernel
theorem dX4_isUnder_4 : decode cX4_isUnder 4 = .ok (.getfield 46, 3) := by decide +kernel
theorem dX4_isUnder_7 : decode cX4_isUnder 7 = .ok (.if_icmp .ge 21, 3) := by decide +kernel
theorem dX4_isUnder_10 : decode cX4_isUnder 10 = .ok (.aload_n 0, 1) := by decide +kernel
theorem dX4_isUnder_11 : decode cX4_isUnder 11 = .ok (.getfield 9, 3) := by decide +kernel
theorem dX4_isUnder_14 : decode cX4_isUnder 14 = .ok (.iload_n 2, 1) := by decide +kernel
theorem dX4_isUnder_15 : decode cX4_isUnder 15 = .ok (.iaload, 1) := by decide +kernel
theorem dX4_isUnder_16 : decode cX4_isUnder 16 = .ok (.iload_n 1, 1) := by decide +kernel
theorem dX4_isUnder_17 : decode cX4_isUnder 17 = .ok (.if_icmp .ne 5, 3) := by decide +kernel
theorem dX4_isUnder_20 : decode cX4_isUnder 20 = .ok (.iconst 1, 1) := by decide +kernel
theorem dX4_isUnder_21 : decode cX4_isUnder 21 = .ok (.ireturn, 1) := by decide +kernel
theorem dX4_isUnder_22 : decode cX4_isUnder 22 = .ok (.iinc 2 1, 3) := by decide +kernel
theorem dX4_isUnder_25 : decode cX4_isUnder 25 = .ok (.goto (-23), 3) := by decide +kernel
theorem dX4_isUnder_28 : decode cX4_isUnder 28 = .ok (.iconst 0, 1) := by decide +kernel
theorem dX4_isUnder_29 : decode cX4_isUnder 29 = .ok (.ireturn, 1) := by decide +kernel
theorem dX4_addField_0 : decode cX4_addField 0 = .ok (.aload_n 0, 1) := by decide +kernel
theorem dX4_addField_1 : decode cX4_addField 1 = .ok (.getfield 15, 3) := by decide +kernel
theorem dX4_addField_4 : decode cX4_addField 4 = .ok (.iload_n 1, 1) := by decide +kernel
theorem dX4_addField_5 : decode cX4_addField 5 = .ok (.iload_n 2, 1) := by decide +kernel
theorem dX4_addField_6 : decode cX4_addField 6 = .ok (.ifCond .eq 7, 3) := by decide +kernel
theorem dX4_addField_9 : decode cX4_addField 9 = .ok (.iconst 2, 1) := by decide +kernel
theorem dX4_addField_10 : decode cX4_addField 10 = .ok (.goto 4, 3) := by decide +kernel
theorem dX4_addField_13 : decode cX4_addField 13 = .ok (.iconst 1, 1) := by decide +kernel
theorem dX4_addField_14 : decode cX4_addField 14 = .ok (.iastore, 1) := by decide +kernel
theorem dX4_addField_15 : decode cX4_addField 15 = .ok (.aload_n 0, 1) := by decide +kernel
theorem dX4_addField_16 : decode cX4_addField 16 = .ok (.getfield 18, 3) := by decide +kernel
theorem dX4_addField_19 : decode cX4_addField 19 = .ok (.iload_n 1, 1) := by decide +kernel
theorem dX4_addField_20 : decode cX4_addField 20 = .ok (.iload_n 3, 1) := by decide +kernel
theorem dX4_addField_21 : decode cX4_addField 21 = .ok (.iastore, 1) := by decide +kernel
theorem dX4_addField_22 : decode cX4_addField 22 = .ok (.aload_n 0, 1) := by decide +kernel
theorem dX4_addField_23 : decode cX4_addField 23 = .ok (.dup, 1) := by decide +kernel
theorem dX4_addField_24 : decode cX4_addField 24 = .ok (.getfield 49, 3) := by decide +kernel
theorem dX4_addField_27 : decode cX4_addField 27 = .ok (.iconst 1, 1) := by decide +kernel
theorem dX4_addField_28 : decode cX4_addField 28 = .ok (.iadd, 1) := by decide +kernel
theorem dX4_addField_29 : decode cX4_addField 29 = .ok (.putfield 49, 3) := by decide +kernel
theorem dX4_addField_32 : decode cX4_addField 32 = .ok (.return_, 1) := by decide +kernel
theorem dX4_addMethod_0 : decode cX4_addMethod 0 = .ok (.aload_n 0, 1) := by decide +kernel
theorem dX4_addMethod_1 : decode cX4_addMethod 1 = .ok (.getfield 23, 3) := by decide +kernel
theorem dX4_addMethod_4 : decode cX4_addMethod 4 = .ok (.iload_n 1, 1) := by decide +kernel
theorem dX4_addMethod_5 : decode cX4_addMethod 5 = .ok (.new 21, 3) := by decide +kernel
theorem dX4_addMethod_8 : decode cX4_addMethod 8 = .ok (.dup, 1) := by decide +kernel
theorem dX4_addMethod_9 : decode cX4_addMethod 9 = .ok (.invokespecial 27, 3) := by decide +kernel
theorem dX4_addMethod_12 : decode cX4_addMethod 12 = .ok (.aastore, 1) := by decide +kernel
theorem dX4_addMethod_13 : decode cX4_addMethod 13 = .ok (.aload_n 0, 1) := by decide +kernel
theorem dX4_addMethod_14 : decode cX4_addMethod 14 = .ok (.dup, 1) := by decide +kernel
theorem dX4_addMethod_15 : decode cX4_addMethod 15 = .ok (.getfield 52, 3) := by decide +kernel
theorem dX4_addMethod_18 : decode cX4_addMethod 18 = .ok (.iconst 1, 1) := by decide +kernel
theorem dX4_addMethod_19 : decode cX4_addMethod 19 = .ok (.iadd, 1) := by decide +kernel
theorem dX4_addMethod_20 : decode cX4_addMethod 20 = .ok (.putfield 52, 3) := by decide +kernel
theorem dX4_addMethod_23 : decode cX4_addMethod 23 = .ok (.return_, 1) := by decide +kernel
theorem dX4_bodyOf_0 : decode cX4_bodyOf 0 = .ok (.iload_n 1, 1) := by decide +kernel
theorem dX4_bodyOf_1 : decode cX4_bodyOf 1 = .ok (.iconst (-1), 1) := by decide +kernel
theorem dX4_bodyOf_2 : decode cX4_bodyOf 2 = .ok (.if_icmp .ne 8, 3) := by decide +kernel
theorem dX4_bodyOf_5 : decode cX4_bodyOf 5 = .ok (.aload_n 0, 1) := by decide +kernel
theorem dX4_bodyOf_6 : decode cX4_bodyOf 6 = .ok (.getfield 28, 3) := by decide +kernel
theorem dX4_bodyOf_9 : decode cX4_bodyOf 9 = .ok (.areturn, 1) := by decide +kernel
theorem dX4_bodyOf_10 : decode cX4_bodyOf 10 = .ok (.iload_n 1, 1) := by decide +kernel
theorem dX4_bodyOf_11 : decode cX4_bodyOf 11 = .ok (.invokestatic 55, 3) := by decide +kernel
theorem dX4_bodyOf_14 : decode cX4_bodyOf 14 = .ok (.ifCond .eq 12, 3) := by decide +kernel
theorem dX4_bodyOf_17 : decode cX4_bodyOf 17 = .ok (.aload_n 0, 1) := by decide +kernel
theorem dX4_bodyOf_18 : decode cX4_bodyOf 18 = .ok (.getfield 23, 3) := by decide +kernel
theorem dX4_bodyOf_21 : decode cX4_bodyOf 21 = .ok (.iload_n 1, 1) := by decide +kernel
theorem dX4_bodyOf_22 : decode cX4_bodyOf 22 = .ok (.aaload, 1) := by decide +kernel
theorem dX4_bodyOf_23 : decode cX4_bodyOf 23 = .ok (.goto 4, 3) := by decide +kernel
theorem dX4_bodyOf_26 : decode cX4_bodyOf 26 = .ok (.aconst_null, 1) := by decide +kernel
theorem dX4_bodyOf_27 : decode cX4_bodyOf 27 = .ok (.areturn, 1) := by decide +kernel
theorem dX4_tell_0 : decode cX4_tell 0 = .ok (.iload_n 1, 1) := by decide +kernel
theorem dX4_tell_1 : decode cX4_tell 1 = .ok (.tableswitch 85 2 7 #[39, 52, 65, 70, 75, 80], 39) := by decide +kernel
theorem dX4_tell_40 : decode cX4_tell 40 = .ok (.aload_n 0, 1) := by decide +kernel
theorem dX4_tell_41 : decode cX4_tell 41 = .ok (.getfield 35, 3) := by decide +kernel
theorem dX4_tell_44 : decode cX4_tell 44 = .ok (.ifCond .eq 7, 3) := by decide +kernel
theorem dX4_tell_47 : decode cX4_tell 47 = .ok (.iconst 1, 1) := by decide +kernel
theorem dX4_tell_48 : decode cX4_tell 48 = .ok (.goto 4, 3) := by decide +kernel
theorem dX4_tell_51 : decode cX4_tell 51 = .ok (.iconst 0, 1) := by decide +kernel
theorem dX4_tell_52 : decode cX4_tell 52 = .ok (.ireturn, 1) := by decide +kernel
theorem dX4_tell_53 : decode cX4_tell 53 = .ok (.aload_n 0, 1) := by decide +kernel
theorem dX4_tell_54 : decode cX4_tell 54 = .ok (.getfield 39, 3) := by decide +kernel
theorem dX4_tell_57 : decode cX4_tell 57 = .ok (.ifCond .eq 7, 3) := by decide +kernel
theorem dX4_tell_60 : decode cX4_tell 60 = .ok (.iconst 1, 1) := by decide +kernel
theorem dX4_tell_61 : decode cX4_tell 61 = .ok (.goto 4, 3) := by decide +kernel
theorem dX4_tell_64 : decode cX4_tell 64 = .ok (.iconst 0, 1) := by decide +kernel
theorem dX4_tell_65 : decode cX4_tell 65 = .ok (.ireturn, 1) := by decide +kernel
theorem dX4_tell_66 : decode cX4_tell 66 = .ok (.aload_n 0, 1) := by decide +kernel
theorem dX4_tell_67 : decode cX4_tell 67 = .ok (.getfield 42, 3) := by decide +kernel
theorem dX4_tell_70 : decode cX4_tell 70 = .ok (.ireturn, 1) := by decide +kernel
theorem dX4_tell_71 : decode cX4_tell 71 = .ok (.aload_n 0, 1) := by decide +kernel
theorem dX4_tell_72 : decode cX4_tell 72 = .ok (.getfield 46, 3) := by decide +kernel
theorem dX4_tell_75 : decode cX4_tell 75 = .ok (.ireturn, 1) := by decide +kernel
theorem dX4_tell_76 : decode cX4_tell 76 = .ok (.aload_n 0, 1) := by decide +kernel
theorem dX4_tell_77 : decode cX4_tell 77 = .ok (.getfield 49, 3) := by decide +kernel
theorem dX4_tell_80 : decode cX4_tell 80 = .ok (.ireturn, 1) := by decide +kernel
theorem dX4_tell_81 : decode cX4_tell 81 = .ok (.aload_n 0, 1) := by decide +kernel
theorem dX4_tell_82 : decode cX4_tell 82 = .ok (.getfield 52, 3) := by decide +kernel
theorem dX4_tell_85 : decode cX4_tell 85 = .ok (.ireturn, 1) := by decide +kernel
theorem dX4_tell_86 : decode cX4_tell 86 = .ok (.aload_n 0, 1) := by decide +kernel
theorem dX4_tell_87 : decode cX4_tell 87 = .ok (.getfield 28, 3) := by decide +kernel
theorem dX4_tell_90 : decode cX4_tell 90 = .ok (.getfield 59, 3) := by decide +kernel
theorem dX4_tell_93 : decode cX4_tell 93 = .ok (.ireturn, 1) := by decide +kernel
theorem dX5_init_0 : decode cX5_init 0 = .ok (.aload_n 0, 1) := by decide +kernel
theorem dX5_init_1 : decode cX5_init 1 = .ok (.invokespecial 3, 3) := by decide +kernel
theorem dX5_init_4 : decode cX5_init 4 = .ok (.aload_n 0, 1) := by decide +kernel
theorem dX5_init_5 : decode cX5_init 5 = .ok (.bipush 40, 2) := by decide +kernel
theorem dX5_init_7 : decode cX5_init 7 = .ok (.newarray .int, 2) := by decide +kernel
theorem dX5_init_9 : decode cX5_init 9 = .ok (.putfield 9, 3) := by decide +kernel
theorem dX5_init_12 : decode cX5_init 12 = .ok (.aload_n 0, 1) := by decide +kernel
theorem dX5_init_13 : decode cX5_init 13 = .ok (.sipush 400, 3) := by decide +kernel
theorem dX5_init_16 : decode cX5_init 16 = .ok (.newarray .int, 2) := by decide +kernel
theorem dX5_init_18 : decode cX5_init 18 = .ok (.putfield 15, 3) := by decide +kernel
theorem dX5_init_21 : decode cX5_init 21 = .ok (.aload_n 0, 1) := by decide +kernel
theorem dX5_init_22 : decode cX5_init 22 = .ok (.sipush 300, 3) := by decide +kernel
theorem dX5_init_25 : decode cX5_init 25 = .ok (.newarray .int, 2) := by decide +kernel
theorem dX5_init_27 : decode cX5_init 27 = .ok (.putfield 18, 3) := by decide +kernel
theorem dX5_init_30 : decode cX5_init 30 = .ok (.aload_n 0, 1) := by decide +kernel
theorem dX5_init_31 : decode cX5_init 31 = .ok (.bipush 40, 2) := by decide +kernel
theorem dX5_init_33 : decode cX5_init 33 = .ok (.newarray .int, 2) := by decide +kernel
theorem dX5_init_35 : decode cX5_init 35 = .ok (.putfield 21, 3) := by decide +kernel
theorem dX5_init_38 : decode cX5_init 38 = .ok (.aload_n 0, 1) := by decide +kernel
theorem dX5_init_39 : decode cX5_init 39 = .ok (.bipush (-6), 2) := by decide +kernel
theorem dX5_init_41 : decode cX5_init 41 = .ok (.putfield 24, 3) := by decide +kernel
theorem dX5_init_44 : decode cX5_init 44 = .ok (.aload_n 0, 1) := by decide +kernel
theorem dX5_init_45 : decode cX5_init 45 = .ok (.bipush (-6), 2) := by decide +kernel
theorem dX5_init_47 : decode cX5_init 47 = .ok (.putfield 28, 3) := by decide +kernel
theorem dX5_init_50 : decode cX5_init 50 = .ok (.aload_n 0, 1) := by decide +kernel
theorem dX5_init_51 : decode cX5_init 51 = .ok (.iconst 4, 1) := by decide +kernel
theorem dX5_init_52 : decode cX5_init 52 = .ok (.newarray .int, 2) := by decide +kernel
theorem dX5_init_54 : decode cX5_init 54 = .ok (.putfield 31, 3) := by decide +kernel
theorem dX5_init_57 : decode cX5_init 57 = .ok (.return_, 1) := by decide +kernel
theorem dX5_clear_0 : decode cX5_clear 0 = .ok (.aload_n 0, 1) := by decide +kernel
theorem dX5_clear_1 : decode cX5_clear 1 = .ok (.getfield 9, 3) := by decide +kernel
theorem dX5_clear_4 : decode cX5_clear 4 = .ok (.iconst 0, 1) := by decide +kernel
theorem dX5_clear_5 : decode cX5_clear 5 = .ok (.invokestatic 34, 3) := by decide +kernel
theorem dX5_clear_8 : decode cX5_clear 8 = .ok (.aload_n 0, 1) := by decide +kernel
theorem dX5_clear_9 : decode cX5_clear 9 = .ok (.getfield 15, 3) := by decide +kernel
theorem dX5_clear_12 : decode cX5_clear 12 = .ok (.iconst 0, 1) := by decide +kernel
theorem dX5_clear_13 : decode cX5_clear 13 = .ok (.invokestatic 34, 3) := by decide +kernel
theorem dX5_clear_16 : decode cX5_clear 16 = .ok (.aload_n 0, 1) := by decide +kernel
theorem dX5_clear_17 : decode cX5_clear 17 = .ok (.iconst 0, 1) := by decide +kernel
theorem dX5_clear_18 : decode cX5_clear 18 = .ok (.putfield 40, 3) := by decide +kernel
theorem dX5_clear_21 : decode cX5_clear 21 = .ok (.aload_n 0, 1) := by decide +kernel
theorem dX5_clear_22 : decode cX5_clear 22 = .ok (.iconst 0, 1) := by decide +kernel
theorem dX5_clear_23 : decode cX5_clear 23 = .ok (.putfield 43, 3) := by decide +kernel
theorem dX5_clear_26 : decode cX5_clear 26 = .ok (.aload_n 0, 1) := by decide +kernel
theorem dX5_clear_27 : decode cX5_clear 27 = .ok (.bipush (-6), 2) := by decide +kernel
theorem dX5_clear_29 : decode cX5_clear 29 = .ok (.putfield 24, 3) := by decide +kernel
theorem dX5_clear_32 : decode cX5_clear 32 = .ok (.aload_n 0, 1) := by decide +kernel
theorem dX5_clear_33 : decode cX5_clear 33 = .ok (.bipush (-6), 2) := by decide +kernel
theorem dX5_clear_35 : decode cX5_clear 35 = .ok (.putfield 28, 3) := by decide +kernel
theorem dX5_clear_38 : decode cX5_clear 38 = .ok (.aload_n 0, 1) := by decide +kernel
theorem dX5_clear_39 : decode cX5_clear 39 = .ok (.getfield 31, 3) := by decide +kernel
theorem dX5_clear_42 : decode cX5_clear 42 = .ok (.iconst 0, 1) := by decide +kernel
theorem dX5_clear_43 : decode cX5_clear 43 = .ok (.invokestatic 34, 3) := by decide +kernel
theorem dX5_clear_46 : decode cX5_clear 46 = .ok (.return_, 1) := by decide +kernel
theorem dX5_takeStateOf_0 : decode cX5_takeStateOf 0 = .ok (.aload_n 1, 1) := by decide +kernel
theorem dX5_takeStateOf_1 : decode cX5_takeStateOf 1 = .ok (.getfield 9, 3) := by decide +kernel
theorem dX5_takeStateOf_4 : decode cX5_takeStateOf 4 = .ok (.iconst 0, 1) := by decide +kernel
theorem dX5_takeStateOf_5 : decode cX5_takeStateOf 5 = .ok (.aload_n 0, 1) := by decide +kernel
theorem dX5_takeStateOf_6 : decode cX5_takeStateOf 6 = .ok (.getfield 9, 3) := by decide +kernel
theorem dX5_takeStateOf_9 : decode cX5_takeStateOf 9 = .ok (.iconst 0, 1) := by decide +kernel
theorem dX5_takeStateOf_10 : decode cX5_takeStateOf 10 = .ok (.bipush 40, 2) := by decide +kernel
theorem dX5_takeStateOf_12 : decode cX5_takeStateOf 12 = .ok (.invokestatic 46, 3) := by decide +kernel
theorem dX5_takeStateOf_15 : decode cX5_takeStateOf 15 = .ok (.aload_n 1, 1) := by decide +kernel
theorem dX5_takeStateOf_16 : decode cX5_takeStateOf 16 = .ok (.getfield 15, 3) := by decide +kernel
theorem dX5_takeStateOf_19 : decode cX5_takeStateOf 19 = .ok (.iconst 0, 1) := by decide +kernel
theorem dX5_takeStateOf_20 : decode cX5_takeStateOf 20 = .ok (.aload_n 0, 1) := by decide +kernel
theorem dX5_takeStateOf_21 : decode cX5_takeStateOf 21 = .ok (.getfield 15, 3) := by decide +kernel
theorem dX5_takeStateOf_24 : decode cX5_takeStateOf 24 = .ok (.iconst 0, 1) := by decide +kernel
theorem dX5_takeStateOf_25 : decode cX5_takeStateOf 25 = .ok (.sipush 400, 3) := by decide +kernel
theorem dX5_takeStateOf_28 : decode cX5_takeStateOf 28 = .ok (.invokestatic 46, 3) := by decide +kernel
theorem dX5_takeStateOf_31 : decode cX5_takeStateOf 31 = .ok (.aload_n 0, 1) := by decide +kernel
theorem dX5_takeStateOf_32 : decode cX5_takeStateOf 32 = .ok (.aload_n 1, 1) := by decide +kernel
theorem dX5_takeStateOf_33 : decode cX5_takeStateOf 33 = .ok (.getfield 40, 3) := by decide +kernel
theorem dX5_takeStateOf_36 : decode cX5_takeStateOf 36 = .ok (.putfield 40, 3) := by decide +kernel
theorem dX5_takeStateOf_39 : decode cX5_takeStateOf 39 = .ok (.aload_n 0, 1) := by decide +kernel
theorem dX5_takeStateOf_40 : decode cX5_takeStateOf 40 = .ok (.aload_n 1, 1) := by decide +kernel
theorem dX5_takeStateOf_41 : decode cX5_takeStateOf 41 = .ok (.getfield 43, 3) := by decide +kernel
theorem dX5_takeStateOf_44 : decode cX5_takeStateOf 44 = .ok (.putfield 43, 3) := by decide +kernel
theorem dX5_takeStateOf_47 : decode cX5_takeStateOf 47 = .ok (.return_, 1) := by decide +kernel
theorem dX5_putOnTape_0 : decode cX5_putOnTape 0 = .ok (.aload_n 0, 1) := by decide +kernel
theorem dX5_putOnTape_1 : decode cX5_putOnTape 1 = .ok (.getfield 40, 3) := by decide +kernel
theorem dX5_putOnTape_4 : decode cX5_putOnTape 4 = .ok (.sipush 300, 3) := by decide +kernel
theorem dX5_putOnTape_7 : decode cX5_putOnTape 7 = .ok (.if_icmp .ge 13, 3) := by decide +kernel
theorem dX5_putOnTape_10 : decode cX5_putOnTape 10 = .ok (.aload_n 0, 1) := by decide +kernel
theorem dX5_putOnTape_11 : decode cX5_putOnTape 11 = .ok (.getfield 18, 3) := by decide +kernel
theorem dX5_putOnTape_14 : decode cX5_putOnTape 14 = .ok (.aload_n 0, 1) := by decide +kernel
theorem dX5_putOnTape_15 : decode cX5_putOnTape 15 = .ok (.getfield 40, 3) := by decide +kernel
theorem dX5_putOnTape_18 : decode cX5_putOnTape 18 = .ok (.iload_n 1, 1) := by decide +kernel
theorem dX5_putOnTape_19 : decode cX5_putOnTape 19 = .ok (.iastore, 1) := by decide +kernel
theorem dX5_putOnTape_20 : decode cX5_putOnTape 20 = .ok (.aload_n 0, 1) := by decide +kernel
theorem dX5_putOnTape_21 : decode cX5_putOnTape 21 = .ok (.dup, 1) := by decide +kernel
theorem dX5_putOnTape_22 : decode cX5_putOnTape 22 = .ok (.getfield 40, 3) := by decide +kernel
theorem dX5_putOnTape_25 : decode cX5_putOnTape 25 = .ok (.iconst 1, 1) := by decide +kernel
theorem dX5_putOnTape_26 : decode cX5_putOnTape 26 = .ok (.iadd, 1) := by decide +kernel
theorem dX5_putOnTape_27 : decode cX5_putOnTape 27 = .ok (.putfield 40, 3) := by decide +kernel
theorem dX5_putOnTape_30 : decode cX5_putOnTape 30 = .ok (.return_, 1) := by decide +kernel
theorem dX5_putInRow_0 : decode cX5_putInRow 0 = .ok (.aload_n 0, 1) := by decide +kernel
theorem dX5_putInRow_1 : decode cX5_putInRow 1 = .ok (.getfield 43, 3) := by decide +kernel
theorem dX5_putInRow_4 : decode cX5_putInRow 4 = .ok (.bipush 40, 2) := by decide +kernel
theorem dX5_putInRow_6 : decode cX5_putInRow 6 = .ok (.if_icmp .ge 23, 3) := by decide +kernel
theorem dX5_putInRow_9 : decode cX5_putInRow 9 = .ok (.aload_n 0, 1) := by decide +kernel
theorem dX5_putInRow_10 : decode cX5_putInRow 10 = .ok (.getfield 21, 3) := by decide +kernel
theorem dX5_putInRow_13 : decode cX5_putInRow 13 = .ok (.aload_n 0, 1) := by decide +kernel
theorem dX5_putInRow_14 : decode cX5_putInRow 14 = .ok (.getfield 43, 3) := by decide +kernel
theorem dX5_putInRow_17 : decode cX5_putInRow 17 = .ok (.iload_n 1, 1) := by decide +kernel
theorem dX5_putInRow_18 : decode cX5_putInRow 18 = .ok (.iastore, 1) := by decide +kernel
theorem dX5_putInRow_19 : decode cX5_putInRow 19 = .ok (.aload_n 0, 1) := by decide +kernel
theorem dX5_putInRow_20 : decode cX5_putInRow 20 = .ok (.dup, 1) := by decide +kernel
theorem dX5_putInRow_21 : decode cX5_putInRow 21 = .ok (.getfield 43, 3) := by decide +kernel
theorem dX5_putInRow_24 : decode cX5_putInRow 24 = .ok (.iconst 1, 1) := by decide +kernel
theorem dX5_putInRow_25 : decode cX5_putInRow 25 = .ok (.iadd, 1) := by decide +kernel
theorem dX5_putInRow_26 : decode cX5_putInRow 26 = .ok (.putfield 43, 3) := by decide +kernel
theorem dX5_putInRow_29 : decode cX5_putInRow 29 = .ok (.return_, 1) := by decide +kernel
theorem dX5_keepAccount_0 : decode cX5_keepAccount 0 = .ok (.iload_n 2, 1) := by decide +kernel
theorem dX5_keepAccount_1 : decode cX5_keepAccount 1 = .ok (.bipush (-6), 2) := by decide +kernel
theorem dX5_keepAccount_3 : decode cX5_keepAccount 3 = .ok (.if_icmp .eq 13, 3) := by decide +kernel
theorem dX5_keepAccount_6 : decode cX5_keepAccount 6 = .ok (.iload_n 2, 1) := by decide +kernel
theorem dX5_keepAccount_7 : decode cX5_keepAccount 7 = .ok (.bipush 23, 2) := by decide +kernel
theorem dX5_keepAccount_9 : decode cX5_keepAccount 9 = .ok (.if_icmp .eq 7, 3) := by decide +kernel
theorem dX5_keepAccount_12 : decode cX5_keepAccount 12 = .ok (.iconst 1, 1) := by decide +kernel
theorem dX5_keepAccount_13 : decode cX5_keepAccount 13 = .ok (.goto 4, 3) := by decide +kernel
theorem dX5_keepAccount_16 : decode cX5_keepAccount 16 = .ok (.iconst 0, 1) := by decide +kernel
theorem dX5_keepAccount_17 : decode cX5_keepAccount 17 = .ok (.istore_n 3, 1) := by decide +kernel
theorem dX5_keepAccount_18 : decode cX5_keepAccount 18 = .ok (.aload_n 0, 1) := by decide +kernel
theorem dX5_keepAccount_19 : decode cX5_keepAccount 19 = .ok (.iload_n 3, 1) := by decide +kernel
theorem dX5_keepAccount_20 : decode cX5_keepAccount 20 = .ok (.ifCond .eq 7, 3) := by decide +kernel
theorem dX5_keepAccount_23 : decode cX5_keepAccount 23 = .ok (.iload_n 2, 1) := by decide +kernel
theorem dX5_keepAccount_24 : decode cX5_keepAccount 24 = .ok (.goto 5, 3) := by decide +kernel
theorem dX5_keepAccount_27 : decode cX5_keepAccount 27 = .ok (.bipush (-6), 2) := by decide +kernel
theorem dX5_keepAccount_29 : decode cX5_keepAccount 29 = .ok (.putfield 24, 3) := by decide +kernel
theorem dX5_keepAccount_32 : decode cX5_keepAccount 32 = .ok (.aload_n 0, 1) := by decide +kernel
theorem dX5_keepAccount_33 : decode cX5_keepAccount 33 = .ok (.iload_n 3, 1) := by decide +kernel
theorem dX5_keepAccount_34 : decode cX5_keepAccount 34 = .ok (.ifCond .eq 10, 3) := by decide +kernel
theorem dX5_keepAccount_37 : decode cX5_keepAccount 37 = .ok (.aload_n 1, 1) := by decide +kernel
theorem dX5_keepAccount_38 : decode cX5_keepAccount 38 = .ok (.getfield 52, 3) := by decide +kernel
theorem dX5_keepAccount_41 : decode cX5_keepAccount 41 = .ok (.goto 5, 3) := by decide +kernel
theorem dX5_keepAccount_44 : decode cX5_keepAccount 44 = .ok (.bipush (-6), 2) := by decide +kernel
theorem dX5_keepAccount_46 : decode cX5_keepAccount 46 = .ok (.putfield 28, 3) := by decide +kernel
theorem dX5_keepAccount_49 : decode cX5_keepAccount 49 = .ok (.aload_n 0, 1) := by decide +kernel
theorem dX5_keepAccount_50 : decode cX5_keepAccount 50 = .ok (.getfield 31, 3) := by decide +kernel
theorem dX5_keepAccount_53 : decode cX5_keepAccount 53 = .ok (.iconst 0, 1) := by decide +kernel
theorem dX5_keepAccount_54 : decode cX5_keepAccount 54 = .ok (.aload_n 1, 1) := by decide +kernel
theorem dX5_keepAccount_55 : decode cX5_keepAccount 55 = .ok (.getfield 55, 3) := by decide +kernel
theorem dX5_keepAccount_58 : decode cX5_keepAccount 58 = .ok (.iastore, 1) := by decide +kernel
theorem dX5_keepAccount_59 : decode cX5_keepAccount 59 = .ok (.aload_n 0, 1) := by decide +kernel
theorem dX5_keepAccount_60 : decode cX5_keepAccount 60 = .ok (.getfield 31, 3) := by decide +kernel
theorem dX5_keepAccount_63 : decode cX5_keepAccount 63 = .ok (.iconst 1, 1) := by decide +kernel
theorem dX5_keepAccount_64 : decode cX5_keepAccount 64 = .ok (.aload_n 1, 1) := by decide +kernel
theorem dX5_keepAccount_65 : decode cX5_keepAccount 65 = .ok (.getfield 58, 3) := by decide +kernel
theorem dX5_keepAccount_68 : decode cX5_keepAccount 68 = .ok (.iastore, 1) := by decide +kernel
theorem dX5_keepAccount_69 : decode cX5_keepAccount 69 = .ok (.aload_n 0, 1) := by decide +kernel
theorem dX5_keepAccount_70 : decode cX5_keepAccount 70 = .ok (.getfield 31, 3) := by decide +kernel
theorem dX5_keepAccount_73 : decode cX5_keepAccount 73 = .ok (.iconst 2, 1) := by decide +kernel
theorem dX5_keepAccount_74 : decode cX5_keepAccount 74 = .ok (.aload_n 1, 1) := by decide +kernel
theorem dX5_keepAccount_75 : decode cX5_keepAccount 75 = .ok (.getfield 61, 3) := by decide +kernel
theorem dX5_keepAccount_78 : decode cX5_keepAccount 78 = .ok (.iastore, 1) := by decide +kernel
theorem dX5_keepAccount_79 : decode cX5_keepAccount 79 = .ok (.aload_n 0, 1) := by decide +kernel
theorem dX5_keepAccount_80 : decode cX5_keepAccount 80 = .ok (.getfield 31, 3) := by decide +kernel
theorem dX5_keepAccount_83 : decode cX5_keepAccount 83 = .ok (.iconst 3, 1) := by decide +kernel
theorem dX5_keepAccount_84 : decode cX5_keepAccount 84 = .ok (.aload_n 1, 1) := by decide +kernel
theorem dX5_keepAccount_85 : decode cX5_keepAccount 85 = .ok (.getfield 64, 3) := by decide +kernel
theorem dX5_keepAccount_88 : decode cX5_keepAccount 88 = .ok (.iastore, 1) := by decide +kernel
theorem dX5_keepAccount_89 : decode cX5_keepAccount 89 = .ok (.return_, 1) := by decide +kernel
theorem dX5_sameIn_0 : decode cX5_sameIn 0 = .ok (.aload_n 0, 1) := by decide +kernel
theorem dX5_sameIn_1 : decode cX5_sameIn 1 = .ok (.getfield 9, 3) := by decide +kernel
theorem dX5_sameIn_4 : decode cX5_sameIn 4 = .ok (.iload_n 2, 1) := by decide +kernel
theorem dX5_sameIn_5 : decode cX5_sameIn 5 = .ok (.iaload, 1) := by decide +kernel
theorem dX5_sameIn_6 : decode cX5_sameIn 6 = .ok (.aload_n 1, 1) := by decide +kernel
theorem dX5_sameIn_7 : decode cX5_sameIn 7 = .ok (.getfield 9, 3) := by decide +kernel
theorem dX5_sameIn_10 : decode cX5_sameIn 10 = .ok (.iload_n 2, 1) := by decide +kernel
theorem dX5_sameIn_11 : decode cX5_sameIn 11 = .ok (.iaload, 1) := by decide +kernel
theorem dX5_sameIn_12 : decode cX5_sameIn 12 = .ok (.if_icmp .eq 5, 3) := by decide +kernel
theorem dX5_sameIn_15 : decode cX5_sameIn 15 = .ok (.iconst 0, 1) := by decide +kernel
theorem dX5_sameIn_16 : decode cX5_sameIn 16 = .ok (.ireturn, 1) := by decide +kernel
theorem dX5_sameIn_17 : decode cX5_sameIn 17 = .ok (.iload_n 2, 1) := by decide +kernel
theorem dX5_sameIn_18 : decode cX5_sameIn 18 = .ok (.bipush 10, 2) := by decide +kernel
theorem dX5_sameIn_20 : decode cX5_sameIn 20 = .ok (.imul, 1) := by decide +kernel
theorem dX5_sameIn_21 : decode cX5_sameIn 21 = .ok (.istore_n 3, 1) := by decide +kernel
theorem dX5_sameIn_22 : decode cX5_sameIn 22 = .ok (.iload_n 3, 1) := by decide +kernel
theorem dX5_sameIn_23 : decode cX5_sameIn 23 = .ok (.iload_n 2, 1) := by decide +kernel
theorem dX5_sameIn_24 : decode cX5_sameIn 24 = .ok (.iconst 1, 1) := by decide +kernel
theorem dX5_sameIn_25 : decode cX5_sameIn 25 = .ok (.iadd, 1) := by decide +kernel
theorem dX5_sameIn_26 : decode cX5_sameIn 26 = .ok (.bipush 10, 2) := by decide +kernel
theorem dX5_sameIn_28 : decode cX5_sameIn 28 = .ok (.imul, 1) := by decide +kernel
theorem dX5_sameIn_29 : decode cX5_sameIn 29 = .ok (.if_icmp .ge 26, 3) := by decide +kernel
theorem dX5_sameIn_32 : decode cX5_sameIn 32 = .ok (.aload_n 0, 1) := by decide +kernel
theorem dX5_sameIn_33 : decode cX5_sameIn 33 = .ok (.getfield 15, 3) := by decide +kernel
theorem dX5_sameIn_36 : decode cX5_sameIn 36 = .ok (.iload_n 3, 1) := by decide +kernel
theorem dX5_sameIn_37 : decode cX5_sameIn 37 = .ok (.iaload, 1) := by decide +kernel
theorem dX5_sameIn_38 : decode cX5_sameIn 38 = .ok (.aload_n 1, 1) := by decide +kernel
theorem dX5_sameIn_39 : decode cX5_sameIn 39 = .ok (.getfield 15, 3) := by decide +kernel
theorem dX5_sameIn_42 : decode cX5_sameIn 42 = .ok (.iload_n 3, 1) := by decide +kernel
theorem dX5_sameIn_43 : decode cX5_sameIn 43 = .ok (.iaload, 1) := by decide +kernel
theorem dX5_sameIn_44 : decode cX5_sameIn 44 = .ok (.if_icmp .eq 5, 3) := by decide +kernel
theorem dX5_sameIn_47 : decode cX5_sameIn 47 = .ok (.iconst 0, 1) := by decide +kernel
theorem dX5_sameIn_48 : decode cX5_sameIn 48 = .ok (.ireturn, 1) := by decide +kernel
theorem dX5_sameIn_49 : decode cX5_sameIn 49 = .ok (.iinc 3 1, 3) := by decide +kernel
theorem dX5_sameIn_52 : decode cX5_sameIn 52 = .ok (.goto (-30), 3) := by decide +kernel
theorem dX5_sameIn_55 : decode cX5_sameIn 55 = .ok (.iconst 1, 1) := by decide +kernel
theorem dX5_sameIn_56 : decode cX5_sameIn 56 = .ok (.ireturn, 1) := by decide +kernel
theorem dX6_init_0 : decode cX6_init 0 = .ok (.aload_n 0, 1) := by decide +kernel
theorem dX6_init_1 : decode cX6_init 1 = .ok (.invokespecial 1, 3) := by decide +kernel
theorem dX6_init_4 : decode cX6_init 4 = .ok (.aload_n 0, 1) := by decide +kernel
theorem dX6_init_5 : decode cX6_init 5 = .ok (.new 7, 3) := by decide +kernel
theorem dX6_init_8 : decode cX6_init 8 = .ok (.dup, 1) := by decide +kernel
theorem dX6_init_9 : decode cX6_init 9 = .ok (.invokespecial 9, 3) := by decide +kernel
theorem dX6_init_12 : decode cX6_init 12 = .ok (.putfield 10, 3) := by decide +kernel
theorem dX6_init_15 : decode cX6_init 15 = .ok (.aload_n 0, 1) := by decide +kernel
theorem dX6_init_16 : decode cX6_init 16 = .ok (.bipush 12, 2) := by decide +kernel
theorem dX6_init_18 : decode cX6_init 18 = .ok (.anewarray 16, 3) := by decide +kernel
theorem dX6_init_21 : decode cX6_init 21 = .ok (.putfield 18, 3) := by decide +kernel
theorem dX6_init_24 : decode cX6_init 24 = .ok (.aload_n 0, 1) := by decide +kernel
theorem dX6_init_25 : decode cX6_init 25 = .ok (.iconst 0, 1) := by decide +kernel
theorem dX6_init_26 : decode cX6_init 26 = .ok (.putfield 22, 3) := by decide +kernel
theorem dX6_init_29 : decode cX6_init 29 = .ok (.aload_n 0, 1) := by decide +kernel
theorem dX6_init_30 : decode cX6_init 30 = .ok (.new 16, 3) := by decide +kernel
theorem dX6_init_33 : decode cX6_init 33 = .ok (.dup, 1) := by decide +kernel
theorem dX6_init_34 : decode cX6_init 34 = .ok (.invokespecial 26, 3) := by decide +kernel
theorem dX6_init_37 : decode cX6_init 37 = .ok (.putfield 27, 3) := by decide +kernel
theorem dX6_init_40 : decode cX6_init 40 = .ok (.return_, 1) := by decide +kernel
theorem dX6_cls_0 : decode cX6_cls 0 = .ok (.iload_n 1, 1) := by decide +kernel
theorem dX6_cls_1 : decode cX6_cls 1 = .ok (.iconst (-1), 1) := by decide +kernel
theorem dX6_cls_2 : decode cX6_cls 2 = .ok (.if_icmp .eq 16, 3) := by decide +kernel
theorem dX6_cls_5 : decode cX6_cls 5 = .ok (.aload_n 0, 1) := by decide +kernel
theorem dX6_cls_6 : decode cX6_cls 6 = .ok (.getfield 10, 3) := by decide +kernel
theorem dX6_cls_9 : decode cX6_cls 9 = .ok (.iload_n 1, 1) := by decide +kernel
theorem dX6_cls_10 : decode cX6_cls 10 = .ok (.invokevirtual 31, 3) := by decide +kernel
theorem dX6_cls_13 : decode cX6_cls 13 = .ok (.ifCond .ne 5, 3) := by decide +kernel
theorem dX6_cls_16 : decode cX6_cls 16 = .ok (.iconst (-1), 1) := by decide +kernel
theorem dX6_cls_17 : decode cX6_cls 17 = .ok (.ireturn, 1) := by decide +kernel
theorem dX6_cls_18 : decode cX6_cls 18 = .ok (.iload_n 1, 1) := by decide +kernel
theorem dX6_cls_19 : decode cX6_cls 19 = .ok (.iconst (-1), 1) := by decide +kernel
theorem dX6_cls_20 : decode cX6_cls 20 = .ok (.if_icmp .eq 21, 3) := by decide +kernel
theorem dX6_cls_23 : decode cX6_cls 23 = .ok (.aload_n 0, 1) := by decide +kernel
theorem dX6_cls_24 : decode cX6_cls 24 = .ok (.getfield 10, 3) := by decide +kernel
theorem dX6_cls_27 : decode cX6_cls 27 = .ok (.getfield 35, 3) := by decide +kernel
theorem dX6_cls_30 : decode cX6_cls 30 = .ok (.iload_n 1, 1) := by decide +kernel
theorem dX6_cls_31 : decode cX6_cls 31 = .ok (.aaload, 1) := by decide +kernel
theorem dX6_cls_32 : decode cX6_cls 32 = .ok (.getfield 39, 3) := by decide +kernel
theorem dX6_cls_35 : decode cX6_cls 35 = .ok (.ifCond .eq 6, 3) := by decide +kernel
theorem dX6_cls_38 : decode cX6_cls 38 = .ok (.bipush (-2), 2) := by decide +kernel
theorem dX6_cls_40 : decode cX6_cls 40 = .ok (.ireturn, 1) := by decide +kernel
theorem dX6_cls_41 : decode cX6_cls 41 = .ok (.aload_n 0, 1) := by decide +kernel
theorem dX6_cls_42 : decode cX6_cls 42 = .ok (.iconst 0, 1) := by decide +kernel
theorem dX6_cls_43 : decode cX6_cls 43 = .ok (.iload_n 2, 1) := by decide +kernel
theorem dX6_cls_44 : decode cX6_cls 44 = .ok (.iload_n 1, 1) := by decide +kernel
theorem dX6_cls_45 : decode cX6_cls 45 = .ok (.iconst (-1), 1) := by decide +kernel
theorem dX6_cls_46 : decode cX6_cls 46 = .ok (.if_icmp .ne 8, 3) := by decide +kernel
theorem dX6_cls_49 : decode cX6_cls 49 = .ok (.bipush (-6), 2) := by decide +kernel
theorem dX6_cls_51 : decode cX6_cls 51 = .ok (.goto 4, 3) := by decide +kernel
theorem dX6_cls_54 : decode cX6_cls 54 = .ok (.iload_n 1, 1) := by decide +kernel
theorem dX6_cls_55 : decode cX6_cls 55 = .ok (.invokevirtual 45, 3) := by decide +kernel
theorem dX6_cls_58 : decode cX6_cls 58 = .ok (.ireturn, 1) := by decide +kernel
theorem dX6_face_0 : decode cX6_face 0 = .ok (.aload_n 0, 1) := by decide +kernel
theorem dX6_face_1 : decode cX6_face 1 = .ok (.iconst 1, 1) := by decide +kernel
theorem dX6_face_2 : decode cX6_face 2 = .ok (.iload_n 1, 1) := by decide +kernel
theorem dX6_face_3 : decode cX6_face 3 = .ok (.bipush (-6), 2) := by decide +kernel
theorem dX6_face_5 : decode cX6_face 5 = .ok (.invokevirtual 45, 3) := by decide +kernel
theorem dX6_face_8 : decode cX6_face 8 = .ok (.ireturn, 1) := by decide +kernel
theorem dX6_addType_0 : decode cX6_addType 0 = .ok (.aload_n 0, 1) := by decide +kernel
theorem dX6_addType_1 : decode cX6_addType 1 = .ok (.getfield 22, 3) := by decide +kernel
theorem dX6_addType_4 : decode cX6_addType 4 = .ok (.ifCond .le 6, 3) := by decide +kernel
theorem dX6_addType_7 : decode cX6_addType 7 = .ok (.bipush (-3), 2) := by decide +kernel
theorem dX6_addType_9 : decode cX6_addType 9 = .ok (.ireturn, 1) := by decide +kernel
theorem dX6_addType_10 : decode cX6_addType 10 = .ok (.aload_n 0, 1) := by decide +kernel
theorem dX6_addType_11 : decode cX6_addType 11 = .ok (.getfield 10, 3) := by decide +kernel
theorem dX6_addType_14 : decode cX6_addType 14 = .ok (.getfield 49, 3) := by decide +kernel
theorem dX6_addType_17 : decode cX6_addType 17 = .ok (.bipush 40, 2) := by decide +kernel
theorem dX6_addType_19 : decode cX6_addType 19 = .ok (.if_icmp .lt 8, 3) := by decide +kernel
theorem dX6_addType_22 : decode cX6_addType 22 = .ok (.bipush (-4), 2) := by decide +kernel
theorem dX6_addType_24 : decode cX6_addType 24 = .ok (.goto 20, 3) := by decide +kernel
theorem dX6_addType_27 : decode cX6_addType 27 = .ok (.aload_n 0, 1) := by decide +kernel
theorem dX6_addType_28 : decode cX6_addType 28 = .ok (.getfield 10, 3) := by decide +kernel
theorem dX6_addType_31 : decode cX6_addType 31 = .ok (.new 40, 3) := by decide +kernel
theorem dX6_addType_34 : decode cX6_addType 34 = .ok (.dup, 1) := by decide +kernel
theorem dX6_addType_35 : decode cX6_addType 35 = .ok (.iload_n 1, 1) := by decide +kernel
theorem dX6_addType_36 : decode cX6_addType 36 = .ok (.iload_n 2, 1) := by decide +kernel
theorem dX6_addType_37 : decode cX6_addType 37 = .ok (.iload_n 3, 1) := by decide +kernel
theorem dX6_addType_38 : decode cX6_addType 38 = .ok (.invokespecial 52, 3) := by decide +kernel
theorem dX6_addType_41 : decode cX6_addType 41 = .ok (.invokevirtual 55, 3) := by decide +kernel
theorem dX6_addType_44 : decode cX6_addType 44 = .ok (.ireturn, 1) := by decide +kernel
theorem dX6_under_0 : decode cX6_under 0 = .ok (.aload_n 0, 1) := by decide +kernel
theorem dX6_under_1 : decode cX6_under 1 = .ok (.getfield 10, 3) := by decide +kernel
theorem dX6_under_4 : decode cX6_under 4 = .ok (.iload_n 1, 1) := by decide +kernel
theorem dX6_under_5 : decode cX6_under 5 = .ok (.invokevirtual 31, 3) := by decide +kernel
theorem dX6_under_8 : decode cX6_under 8 = .ok (.ifCond .eq 14, 3) := by decide +kernel
theorem dX6_under_11 : decode cX6_under 11 = .ok (.aload_n 0, 1) := by decide +kernel
theorem dX6_under_12 : decode cX6_under 12 = .ok (.getfield 10, 3) := by decide +kernel
theorem dX6_under_15 : decode cX6_under 15 = .ok (.iload_n 2, 1) := by decide +kernel
theorem dX6_under_16 : decode cX6_under 16 = .ok (.invokevirtual 31, 3) := by decide +kernel
theorem dX6_under_19 : decode cX6_under 19 = .ok (.ifCond .ne 5, 3) := by decide +kernel
theorem dX6_under_22 : decode cX6_under 22 = .ok (.iconst (-1), 1) := by decide +kernel
theorem dX6_under_23 : decode cX6_under 23 = .ok (.ireturn, 1) := by decide +kernel
theorem dX6_under_24 : decode cX6_under 24 = .ok (.aload_n 0, 1) := by decide +kernel
theorem dX6_under_25 : decode cX6_under 25 = .ok (.getfield 10, 3) := by decide +kernel
theorem dX6_under_28 : decode cX6_under 28 = .ok (.getfield 35, 3) := by decide +kernel
theorem dX6_under_31 : decode cX6_under 31 = .ok (.iload_n 2, 1) := by decide +kernel
theorem dX6_under_32 : decode cX6_under 32 = .ok (.aaload, 1) := by decide +kernel
theorem dX6_under_33 : decode cX6_under 33 = .ok (.getfield 39, 3) := by decide +kernel
theorem dX6_under_36 : decode cX6_under 36 = .ok (.ifCond .ne 6, 3) := by decide +kernel
theorem dX6_under_39 : decode cX6_under 39 = .ok (.bipush (-2), 2) := by decide +kernel
theorem dX6_under_41 : decode cX6_under 41 = .ok (.ireturn, 1) := by decide +kernel
theorem dX6_under_42 : decode cX6_under 42 = .ok (.aload_n 0, 1) := by decide +kernel
theorem dX6_under_43 : decode cX6_under 43 = .ok (.getfield 22, 3) := by decide +kernel
theorem dX6_under_46 : decode cX6_under 46 = .ok (.ifCond .le 6, 3) := by decide +kernel
theorem dX6_under_49 : decode cX6_under 49 = .ok (.bipush (-3), 2) := by decide +kernel
theorem dX6_under_51 : decode cX6_under 51 = .ok (.ireturn, 1) := by decide +kernel
theorem dX6_under_52 : decode cX6_under 52 = .ok (.aload_n 0, 1) := by decide +kernel
theorem dX6_under_53 : decode cX6_under 53 = .ok (.getfield 10, 3) := by decide +kernel
theorem dX6_under_56 : decode cX6_under 56 = .ok (.getfield 35, 3) := by decide +kernel
theorem dX6_under_59 : decode cX6_under 59 = .ok (.iload_n 1, 1) := by decide +kernel
theorem dX6_under_60 : decode cX6_under 60 = .ok (.aaload, 1) := by decide +kernel
theorem dX6_under_61 : decode cX6_under 61 = .ok (.astore_n 3, 1) := by decide +kernel
theorem dX6_under_62 : decode cX6_under 62 = .ok (.aload_n 3, 1) := by decide +kernel
theorem dX6_under_63 : decode cX6_under 63 = .ok (.getfield 59, 3) := by decide +kernel
theorem dX6_under_66 : decode cX6_under 66 = .ok (.iconst 4, 1) := by decide +kernel
theorem dX6_under_67 : decode cX6_under 67 = .ok (.if_icmp .lt 6, 3) := by decide +kernel
theorem dX6_under_70 : decode cX6_under 70 = .ok (.bipush (-4), 2) := by decide +kernel
theorem dX6_under_72 : decode cX6_under 72 = .ok (.ireturn, 1) := by decide +kernel
theorem dX6_under_73 : decode cX6_under 73 = .ok (.aload_n 3, 1) := by decide +kernel
theorem dX6_under_74 : decode cX6_under 74 = .ok (.iload_n 2, 1) := by decide +kernel
theorem dX6_under_75 : decode cX6_under 75 = .ok (.invokevirtual 62, 3) := by decide +kernel
theorem dX6_under_78 : decode cX6_under 78 = .ok (.ifCond .ne 20, 3) := by decide +kernel
theorem dX6_under_81 : decode cX6_under 81 = .ok (.iload_n 2, 1) := by decide +kernel
theorem dX6_under_82 : decode cX6_under 82 = .ok (.iload_n 1, 1) := by decide +kernel
theorem dX6_under_83 : decode cX6_under 83 = .ok (.if_icmp .eq 15, 3) := by decide +kernel
theorem dX6_under_86 : decode cX6_under 86 = .ok (.aload_n 0, 1) := by decide +kernel
theorem dX6_under_87 : decode cX6_under 87 = .ok (.getfield 10, 3) := by decide +kernel
theorem dX6_under_90 : decode cX6_under 90 = .ok (.iload_n 2, 1) := by decide +kernel
theorem dX6_under_91 : decode cX6_under 91 = .ok (.iload_n 1, 1) := by decide +kernel
theorem dX6_under_92 : decode cX6_under 92 = .ok (.invokevirtual 65, 3) := by decide +kernel
theorem dX6_under_95 : decode cX6_under 95 = .ok (.ifCond .eq 6, 3) := by decide +kernel
theorem dX6_under_98 : decode cX6_under 98 = .ok (.bipush (-5), 2) := by decide +kernel
theorem dX6_under_100 : decode cX6_under 100 = .ok (.ireturn, 1) := by decide +kernel
theorem dX6_under_101 : decode cX6_under 101 = .ok (.aload_n 0, 1) := by decide +kernel
theorem dX6_under_102 : decode cX6_under 102 = .ok (.getfield 10, 3) := by decide +kernel
theorem dX6_under_105 : decode cX6_under 105 = .ok (.iload_n 1, 1) := by decide +kernel
theorem dX6_under_106 : decode cX6_under 106 = .ok (.iload_n 2, 1) := by decide +kernel
theorem dX6_under_107 : decode cX6_under 107 = .ok (.invokevirtual 69, 3) := by decide +kernel
theorem dX6_under_110 : decode cX6_under 110 = .ok (.aload_n 3, 1) := by decide +kernel
theorem dX6_under_111 : decode cX6_under 111 = .ok (.getfield 59, 3) := by decide +kernel
theorem dX6_under_114 : decode cX6_under 114 = .ok (.ireturn, 1) := by decide +kernel
theorem dX6_field_0 : decode cX6_field 0 = .ok (.aload_n 0, 1) := by decide +kernel
theorem dX6_field_1 : decode cX6_field 1 = .ok (.iload_n 1, 1) := by decide +kernel
theorem dX6_field_2 : decode cX6_field 2 = .ok (.iload_n 2, 1) := by decide +kernel
theorem dX6_field_3 : decode cX6_field 3 = .ok (.invokevirtual 73, 3) := by decide +kernel
theorem dX6_field_6 : decode cX6_field 6 = .ok (.istore 5, 2) := by decide +kernel
theorem dX6_field_8 : decode cX6_field 8 = .ok (.iload 5, 2) := by decide +kernel
theorem dX6_field_10 : decode cX6_field 10 = .ok (.ifCond .eq 6, 3) := by decide +kernel
theorem dX6_field_13 : decode cX6_field 13 = .ok (.iload 5, 2) := by decide +kernel
theorem dX6_field_15 : decode cX6_field 15 = .ok (.ireturn, 1) := by decide +kernel
theorem dX6_field_16 : decode cX6_field 16 = .ok (.aload_n 0, 1) := by decide +kernel
theorem dX6_field_17 : decode cX6_field 17 = .ok (.getfield 10, 3) := by decide +kernel
theorem dX6_field_20 : decode cX6_field 20 = .ok (.getfield 35, 3) := by decide +kernel
theorem dX6_field_23 : decode cX6_field 23 = .ok (.iload_n 1, 1) := by decide +kernel
theorem dX6_field_24 : decode cX6_field 24 = .ok (.aaload, 1) := by decide +kernel
theorem dX6_field_25 : decode cX6_field 25 = .ok (.astore 6, 2) := by decide +kernel
theorem dX6_field_27 : decode cX6_field 27 = .ok (.aload 6, 2) := by decide +kernel
theorem dX6_field_29 : decode cX6_field 29 = .ok (.getfield 77, 3) := by decide +kernel
theorem dX6_field_32 : decode cX6_field 32 = .ok (.bipush 6, 2) := by decide +kernel
theorem dX6_field_34 : decode cX6_field 34 = .ok (.if_icmp .lt 6, 3) := by decide +kernel
theorem dX6_field_37 : decode cX6_field 37 = .ok (.bipush (-4), 2) := by decide +kernel
theorem dX6_field_39 : decode cX6_field 39 = .ok (.ireturn, 1) := by decide +kernel
theorem dX6_field_40 : decode cX6_field 40 = .ok (.aload 6, 2) := by decide +kernel
theorem dX6_field_42 : decode cX6_field 42 = .ok (.getfield 80, 3) := by decide +kernel
theorem dX6_field_45 : decode cX6_field 45 = .ok (.iload_n 2, 1) := by decide +kernel
theorem dX6_field_46 : decode cX6_field 46 = .ok (.iaload, 1) := by decide +kernel
theorem dX6_field_47 : decode cX6_field 47 = .ok (.ifCond .eq 6, 3) := by decide +kernel
theorem dX6_field_50 : decode cX6_field 50 = .ok (.bipush (-5), 2) := by decide +kernel
theorem dX6_field_52 : decode cX6_field 52 = .ok (.ireturn, 1) := by decide +kernel
theorem dX6_field_53 : decode cX6_field 53 = .ok (.aload 6, 2) := by decide +kernel
theorem dX6_field_55 : decode cX6_field 55 = .ok (.iload_n 2, 1) := by decide +kernel
theorem dX6_field_56 : decode cX6_field 56 = .ok (.iload_n 3, 1) := by decide +kernel
theorem dX6_field_57 : decode cX6_field 57 = .ok (.iload 4, 2) := by decide +kernel
theorem dX6_field_59 : decode cX6_field 59 = .ok (.invokevirtual 84, 3) := by decide +kernel
theorem dX6_field_62 : decode cX6_field 62 = .ok (.aload_n 0, 1) := by decide +kernel
theorem dX6_field_63 : decode cX6_field 63 = .ok (.getfield 10, 3) := by decide +kernel
theorem dX6_field_66 : decode cX6_field 66 = .ok (.invokevirtual 88, 3) := by decide +kernel
theorem dX6_field_69 : decode cX6_field 69 = .ok (.aload 6, 2) := by decide +kernel
theorem dX6_field_71 : decode cX6_field 71 = .ok (.getfield 77, 3) := by decide +kernel
theorem dX6_field_74 : decode cX6_field 74 = .ok (.ireturn, 1) := by decide +kernel
theorem dX6_method_0 : decode cX6_method 0 = .ok (.aload_n 0, 1) := by decide +kernel
theorem dX6_method_1 : decode cX6_method 1 = .ok (.iload_n 1, 1) := by decide +kernel
theorem dX6_method_2 : decode cX6_method 2 = .ok (.iload_n 2, 1) := by decide +kernel
theorem dX6_method_3 : decode cX6_method 3 = .ok (.invokevirtual 73, 3) := by decide +kernel
theorem dX6_method_6 : decode cX6_method 6 = .ok (.istore_n 3, 1) := by decide +kernel
theorem dX6_method_7 : decode cX6_method 7 = .ok (.iload_n 3, 1) := by decide +kernel
theorem dX6_method_8 : decode cX6_method 8 = .ok (.ifCond .eq 5, 3) := by decide +kernel
theorem dX6_method_11 : decode cX6_method 11 = .ok (.iload_n 3, 1) := by decide +kernel
theorem dX6_method_12 : decode cX6_method 12 = .ok (.ireturn, 1) := by decide +kernel
theorem dX6_method_13 : decode cX6_method 13 = .ok (.aload_n 0, 1) := by decide +kernel
theorem dX6_method_14 : decode cX6_method 14 = .ok (.getfield 10, 3) := by decide +kernel
theorem dX6_method_17 : decode cX6_method 17 = .ok (.getfield 35, 3) := by decide +kernel
theorem dX6_method_20 : decode cX6_method 20 = .ok (.iload_n 1, 1) := by decide +kernel
theorem dX6_method_21 : decode cX6_method 21 = .ok (.aaload, 1) := by decide +kernel
theorem dX6_method_22 : decode cX6_method 22 = .ok (.astore 4, 2) := by decide +kernel
theorem dX6_method_24 : decode cX6_method 24 = .ok (.aload 4, 2) := by decide +kernel
theorem dX6_method_26 : decode cX6_method 26 = .ok (.getfield 91, 3) := by decide +kernel
theorem dX6_method_29 : decode cX6_method 29 = .ok (.iconst 4, 1) := by decide +kernel
theorem dX6_method_30 : decode cX6_method 30 = .ok (.if_icmp .lt 6, 3) := by decide +kernel
theorem dX6_method_33 : decode cX6_method 33 = .ok (.bipush (-4), 2) := by decide +kernel
theorem dX6_method_35 : decode cX6_method 35 = .ok (.ireturn, 1) := by decide +kernel
theorem dX6_method_36 : decode cX6_method 36 = .ok (.aload 4, 2) := by decide +kernel
theorem dX6_method_38 : decode cX6_method 38 = .ok (.getfield 94, 3) := by decide +kernel
theorem dX6_method_41 : decode cX6_method 41 = .ok (.iload_n 2, 1) := by decide +kernel
theorem dX6_method_42 : decode cX6_method 42 = .ok (.aaload, 1) := by decide +kernel
theorem dX6_method_43 : decode cX6_method 43 = .ok (.ifnull 6, 3) := by decide +kernel
theorem dX6_method_46 : decode cX6_method 46 = .ok (.bipush (-5), 2) := by decide +kernel
theorem dX6_method_48 : decode cX6_method 48 = .ok (.ireturn, 1) := by decide +kernel
theorem dX6_method_49 : decode cX6_method 49 = .ok (.aload 4, 2) := by decide +kernel
theorem dX6_method_51 : decode cX6_method 51 = .ok (.iload_n 2, 1) := by decide +kernel
theorem dX6_method_52 : decode cX6_method 52 = .ok (.invokevirtual 98, 3) := by decide +kernel
theorem dX6_method_55 : decode cX6_method 55 = .ok (.aload 4, 2) := by decide +kernel
theorem dX6_method_57 : decode cX6_method 57 = .ok (.getfield 91, 3) := by decide +kernel
theorem dX6_method_60 : decode cX6_method 60 = .ok (.ireturn, 1) := by decide +kernel
theorem dX6_refusalOfMember_0 : decode cX6_refusalOfMember 0 = .ok (.aload_n 0, 1) := by decide +kernel
theorem dX6_refusalOfMember_1 : decode cX6_refusalOfMember 1 = .ok (.getfield 10, 3) := by decide +kernel
theorem dX6_refusalOfMember_4 : decode cX6_refusalOfMember 4 = .ok (.iload_n 1, 1) := by decide +kernel
theorem dX6_refusalOfMember_5 : decode cX6_refusalOfMember 5 = .ok (.invokevirtual 31, 3) := by decide +kernel
theorem dX6_refusalOfMember_8 : decode cX6_refusalOfMember 8 = .ok (.ifCond .ne 5, 3) := by decide +kernel
theorem dX6_refusalOfMember_11 : decode cX6_refusalOfMember 11 = .ok (.iconst (-1), 1) := by decide +kernel
theorem dX6_refusalOfMember_12 : decode cX6_refusalOfMember 12 = .ok (.ireturn, 1) := by decide +kernel
theorem dX6_refusalOfMember_13 : decode cX6_refusalOfMember 13 = .ok (.iload_n 2, 1) := by decide +kernel
theorem dX6_refusalOfMember_14 : decode cX6_refusalOfMember 14 = .ok (.invokestatic 102, 3) := by decide +kernel
theorem dX6_refusalOfMember_17 : decode cX6_refusalOfMember 17 = .ok (.ifCond .ne 6, 3) := by decide +kernel
theorem dX6_refusalOfMember_20 : decode cX6_refusalOfMember 20 = .ok (.bipush (-2), 2) := by decide +kernel
theorem dX6_refusalOfMember_22 : decode cX6_refusalOfMember 22 = .ok (.ireturn, 1) := by decide +kernel
theorem dX6_refusalOfMember_23 : decode cX6_refusalOfMember 23 = .ok (.aload_n 0, 1) := by decide +kernel
theorem dX6_refusalOfMember_24 : decode cX6_refusalOfMember 24 = .ok (.getfield 22, 3) := by decide +kernel
theorem dX6_refusalOfMember_27 : decode cX6_refusalOfMember 27 = .ok (.ifCond .le 8, 3) := by decide +kernel
theorem dX6_refusalOfMember_30 : decode cX6_refusalOfMember 30 = .ok (.bipush (-3), 2) := by decide +kernel
theorem dX6_refusalOfMember_32 : decode cX6_refusalOfMember 32 = .ok (.goto 4, 3) := by decide +kernel
theorem dX6_refusalOfMember_35 : decode cX6_refusalOfMember 35 = .ok (.iconst 0, 1) := by decide +kernel
theorem dX6_refusalOfMember_36 : decode cX6_refusalOfMember 36 = .ok (.ireturn, 1) := by decide +kernel
theorem dX6_act_0 : decode cX6_act 0 = .ok (.aload_n 0, 1) := by decide +kernel
theorem dX6_act_1 : decode cX6_act 1 = .ok (.getfield 10, 3) := by decide +kernel
theorem dX6_act_4 : decode cX6_act 4 = .ok (.iload_n 1, 1) := by decide +kernel
theorem dX6_act_5 : decode cX6_act 5 = .ok (.invokevirtual 31, 3) := by decide +kernel
theorem dX6_act_8 : decode cX6_act 8 = .ok (.ifCond .eq 22, 3) := by decide +kernel
theorem dX6_act_11 : decode cX6_act 11 = .ok (.iload_n 3, 1) := by decide +kernel
theorem dX6_act_12 : decode cX6_act 12 = .ok (.invokestatic 105, 3) := by decide +kernel
theorem dX6_act_15 : decode cX6_act 15 = .ok (.ifCond .eq 17, 3) := by decide +kernel
theorem dX6_act_18 : decode cX6_act 18 = .ok (.aload_n 0, 1) := by decide +kernel
theorem dX6_act_19 : decode cX6_act 19 = .ok (.getfield 10, 3) := by decide +kernel
theorem dX6_act_22 : decode cX6_act 22 = .ok (.iload 4, 2) := by decide +kernel
theorem dX6_act_24 : decode cX6_act 24 = .ok (.invokevirtual 31, 3) := by decide +kernel
theorem dX6_act_27 : decode cX6_act 27 = .ok (.ifCond .ne 5, 3) := by decide +kernel
theorem dX6_act_30 : decode cX6_act 30 = .ok (.iconst (-1), 1) := by decide +kernel
theorem dX6_act_31 : decode cX6_act 31 = .ok (.ireturn, 1) := by decide +kernel
theorem dX6_act_32 : decode cX6_act 32 = .ok (.iload_n 3, 1) := by decide +kernel
theorem dX6_act_33 : decode cX6_act 33 = .ok (.ifCond .lt 33, 3) := by decide +kernel
theorem dX6_act_36 : decode cX6_act 36 = .ok (.iload_n 3, 1) := by decide +kernel
theorem dX6_act_37 : decode cX6_act 37 = .ok (.bipush 8, 2) := by decide +kernel
theorem dX6_act_39 : decode cX6_act 39 = .ok (.if_icmp .gt 27, 3) := by decide +kernel
theorem dX6_act_42 : decode cX6_act 42 = .ok (.iload_n 3, 1) := by decide +kernel
theorem dX6_act_43 : decode cX6_act 43 = .ok (.invokestatic 108, 3) := by decide +kernel
theorem dX6_act_46 : decode cX6_act 46 = .ok (.ifCond .eq 11, 3) := by decide +kernel
theorem dX6_act_49 : decode cX6_act 49 = .ok (.iload 5, 2) := by decide +kernel
theorem dX6_act_51 : decode cX6_act 51 = .ok (.invokestatic 102, 3) := by decide +kernel
theorem dX6_act_54 : decode cX6_act 54 = .ok (.ifCond .eq 12, 3) := by decide +kernel
theorem dX6_act_57 : decode cX6_act 57 = .ok (.iload_n 3, 1) := by decide +kernel
theorem dX6_act_58 : decode cX6_act 58 = .ok (.iload 6, 2) := by decide +kernel
theorem dX6_act_60 : decode cX6_act 60 = .ok (.invokestatic 111, 3) := by decide +kernel
theorem dX6_act_63 : decode cX6_act 63 = .ok (.ifCond .ne 6, 3) := by decide +kernel
theorem dX6_act_66 : decode cX6_act 66 = .ok (.bipush (-2), 2) := by decide +kernel
theorem dX6_act_68 : decode cX6_act 68 = .ok (.ireturn, 1) := by decide +kernel
theorem dX6_act_69 : decode cX6_act 69 = .ok (.aload_n 0, 1) := by decide +kernel
theorem dX6_act_70 : decode cX6_act 70 = .ok (.getfield 22, 3) := by decide +kernel
theorem dX6_act_73 : decode cX6_act 73 = .ok (.ifCond .le 6, 3) := by decide +kernel
theorem dX6_act_76 : decode cX6_act 76 = .ok (.bipush (-3), 2) := by decide +kernel
theorem dX6_act_78 : decode cX6_act 78 = .ok (.ireturn, 1) := by decide +kernel
theorem dX6_act_79 : decode cX6_act 79 = .ok (.aload_n 0, 1) := by decide +kernel
theorem dX6_act_80 : decode cX6_act 80 = .ok (.getfield 10, 3) := by decide +kernel
theorem dX6_act_83 : decode cX6_act 83 = .ok (.getfield 35, 3) := by decide +kernel
theorem dX6_act_86 : decode cX6_act 86 = .ok (.iload_n 1, 1) := by decide +kernel
theorem dX6_act_87 : decode cX6_act 87 = .ok (.aaload, 1) := by decide +kernel
theorem dX6_act_88 : decode cX6_act 88 = .ok (.iload_n 2, 1) := by decide +kernel
theorem dX6_act_89 : decode cX6_act 89 = .ok (.invokevirtual 114, 3) := by decide +kernel
theorem dX6_act_92 : decode cX6_act 92 = .ok (.astore 7, 2) := by decide +kernel
theorem dX6_act_94 : decode cX6_act 94 = .ok (.aload 7, 2) := by decide +kernel
theorem dX6_act_96 : decode cX6_act 96 = .ok (.ifnonnull 6, 3) := by decide +kernel
theorem dX6_act_99 : decode cX6_act 99 = .ok (.bipush (-5), 2) := by decide +kernel
theorem dX6_act_101 : decode cX6_act 101 = .ok (.ireturn, 1) := by decide +kernel
theorem dX6_act_102 : decode cX6_act 102 = .ok (.aload 7, 2) := by decide +kernel
theorem dX6_act_104 : decode cX6_act 104 = .ok (.getfield 118, 3) := by decide +kernel
theorem dX6_act_107 : decode cX6_act 107 = .ok (.bipush 12, 2) := by decide +kernel
theorem dX6_act_109 : decode cX6_act 109 = .ok (.if_icmp .lt 8, 3) := by decide +kernel
theorem dX6_act_112 : decode cX6_act 112 = .ok (.bipush (-4), 2) := by decide +kernel
theorem dX6_act_114 : decode cX6_act 114 = .ok (.goto 22, 3) := by decide +kernel
theorem dX6_act_117 : decode cX6_act 117 = .ok (.aload 7, 2) := by decide +kernel
theorem dX6_act_119 : decode cX6_act 119 = .ok (.new 123, 3) := by decide +kernel
theorem dX6_act_122 : decode cX6_act 122 = .ok (.dup, 1) := by decide +kernel
theorem dX6_act_123 : decode cX6_act 123 = .ok (.iload_n 3, 1) := by decide +kernel
theorem dX6_act_124 : decode cX6_act 124 = .ok (.iload 4, 2) := by decide +kernel
theorem dX6_act_126 : decode cX6_act 126 = .ok (.iload 5, 2) := by decide +kernel
theorem dX6_act_128 : decode cX6_act 128 = .ok (.iload 6, 2) := by decide +kernel
theorem dX6_act_130 : decode cX6_act 130 = .ok (.invokespecial 125, 3) := by decide +kernel
theorem dX6_act_133 : decode cX6_act 133 = .ok (.invokevirtual 128, 3) := by decide +kernel
theorem dX6_act_136 : decode cX6_act 136 = .ok (.ireturn, 1) := by decide +kernel
theorem dX6_told_0 : decode cX6_told 0 = .ok (.iload_n 2, 1) := by decide +kernel
theorem dX6_told_1 : decode cX6_told 1 = .ok (.ifCond .lt 9, 3) := by decide +kernel
theorem dX6_told_4 : decode cX6_told 4 = .ok (.iload_n 2, 1) := by decide +kernel
theorem dX6_told_5 : decode cX6_told 5 = .ok (.bipush 9, 2) := by decide +kernel
theorem dX6_told_7 : decode cX6_told 7 = .ok (.if_icmp .le 6, 3) := by decide +kernel
theorem dX6_told_10 : decode cX6_told 10 = .ok (.bipush (-2), 2) := by decide +kernel
theorem dX6_told_12 : decode cX6_told 12 = .ok (.ireturn, 1) := by decide +kernel
theorem dX6_told_13 : decode cX6_told 13 = .ok (.iload_n 2, 1) := by decide +kernel
theorem dX6_told_14 : decode cX6_told 14 = .ok (.ifCond .ne 11, 3) := by decide +kernel
theorem dX6_told_17 : decode cX6_told 17 = .ok (.aload_n 0, 1) := by decide +kernel
theorem dX6_told_18 : decode cX6_told 18 = .ok (.getfield 10, 3) := by decide +kernel
theorem dX6_told_21 : decode cX6_told 21 = .ok (.getfield 49, 3) := by decide +kernel
theorem dX6_told_24 : decode cX6_told 24 = .ok (.ireturn, 1) := by decide +kernel
theorem dX6_told_25 : decode cX6_told 25 = .ok (.iload_n 2, 1) := by decide +kernel
theorem dX6_told_26 : decode cX6_told 26 = .ok (.iconst 1, 1) := by decide +kernel
theorem dX6_told_27 : decode cX6_told 27 = .ok (.if_icmp .ne 8, 3) := by decide +kernel
theorem dX6_told_30 : decode cX6_told 30 = .ok (.aload_n 0, 1) := by decide +kernel
theorem dX6_told_31 : decode cX6_told 31 = .ok (.getfield 22, 3) := by decide +kernel
theorem dX6_told_34 : decode cX6_told 34 = .ok (.ireturn, 1) := by decide +kernel
theorem dX6_told_35 : decode cX6_told 35 = .ok (.aload_n 0, 1) := by decide +kernel
theorem dX6_told_36 : decode cX6_told 36 = .ok (.getfield 10, 3) := by decide +kernel
theorem dX6_told_39 : decode cX6_told 39 = .ok (.iload_n 1, 1) := by decide +kernel
theorem dX6_told_40 : decode cX6_told 40 = .ok (.invokevirtual 31, 3) := by decide +kernel
theorem dX6_told_43 : decode cX6_told 43 = .ok (.ifCond .ne 5, 3) := by decide +kernel
theorem dX6_told_46 : decode cX6_told 46 = .ok (.iconst (-1), 1) := by decide +kernel
theorem dX6_told_47 : decode cX6_told 47 = .ok (.ireturn, 1) := by decide +kernel
theorem dX6_told_48 : decode cX6_told 48 = .ok (.iload_n 2, 1) := by decide +kernel
theorem dX6_told_49 : decode cX6_told 49 = .ok (.bipush 9, 2) := by decide +kernel
theorem dX6_told_51 : decode cX6_told 51 = .ok (.if_icmp .ne 14, 3) := by decide +kernel
theorem dX6_told_54 : decode cX6_told 54 = .ok (.aload_n 0, 1) := by decide +kernel
theorem dX6_told_55 : decode cX6_told 55 = .ok (.getfield 10, 3) := by decide +kernel
theorem dX6_told_58 : decode cX6_told 58 = .ok (.iload_n 1, 1) := by decide +kernel
theorem dX6_told_59 : decode cX6_told 59 = .ok (.invokevirtual 131, 3) := by decide +kernel
theorem dX6_told_62 : decode cX6_told 62 = .ok (.goto 16, 3) := by decide +kernel
theorem dX6_told_65 : decode cX6_told 65 = .ok (.aload_n 0, 1) := by decide +kernel
theorem dX6_told_66 : decode cX6_told 66 = .ok (.getfield 10, 3) := by decide +kernel
theorem dX6_told_69 : decode cX6_told 69 = .ok (.getfield 35, 3) := by decide +kernel
theorem dX6_told_72 : decode cX6_told 72 = .ok (.iload_n 1, 1) := by decide +kernel
theorem dX6_told_73 : decode cX6_told 73 = .ok (.aaload, 1) := by decide +kernel
theorem dX6_told_74 : decode cX6_told 74 = .ok (.iload_n 2, 1) := by decide +kernel
theorem dX6_told_75 : decode cX6_told 75 = .ok (.invokevirtual 135, 3) := by decide +kernel
theorem dX6_told_78 : decode cX6_told 78 = .ok (.ireturn, 1) := by decide +kernel
theorem dX6_below_0 : decode cX6_below 0 = .ok (.aload_n 0, 1) := by decide +kernel
theorem dX6_below_1 : decode cX6_below 1 = .ok (.getfield 10, 3) := by decide +kernel
theorem dX6_below_4 : decode cX6_below 4 = .ok (.iload_n 1, 1) := by decide +kernel
theorem dX6_below_5 : decode cX6_below 5 = .ok (.invokevirtual 31, 3) := by decide +kernel
theorem dX6_below_8 : decode cX6_below 8 = .ok (.ifCond .eq 14, 3) := by decide +kernel
theorem dX6_below_11 : decode cX6_below 11 = .ok (.aload_n 0, 1) := by decide +kernel
theorem dX6_below_12 : decode cX6_below 12 = .ok (.getfield 10, 3) := by decide +kernel
theorem dX6_below_15 : decode cX6_below 15 = .ok (.iload_n 2, 1) := by decide +kernel
theorem dX6_below_16 : decode cX6_below 16 = .ok (.invokevirtual 31, 3) := by decide +kernel
theorem dX6_below_19 : decode cX6_below 19 = .ok (.ifCond .ne 5, 3) := by decide +kernel
theorem dX6_below_22 : decode cX6_below 22 = .ok (.iconst (-1), 1) := by decide +kernel
theorem dX6_below_23 : decode cX6_below 23 = .ok (.ireturn, 1) := by decide +kernel
theorem dX6_below_24 : decode cX6_below 24 = .ok (.aload_n 0, 1) := by decide +kernel
theorem dX6_below_25 : decode cX6_below 25 = .ok (.getfield 10, 3) := by decide +kernel
theorem dX6_below_28 : decode cX6_below 28 = .ok (.iload_n 1, 1) := by decide +kernel
theorem dX6_below_29 : decode cX6_below 29 = .ok (.iload_n 2, 1) := by decide +kernel
theorem dX6_below_30 : decode cX6_below 30 = .ok (.invokevirtual 65, 3) := by decide +kernel
theorem dX6_below_33 : decode cX6_below 33 = .ok (.ifCond .eq 7, 3) := by decide +kernel
theorem dX6_below_36 : decode cX6_below 36 = .ok (.iconst 1, 1) := by decide +kernel
theorem dX6_below_37 : decode cX6_below 37 = .ok (.goto 4, 3) := by decide +kernel
theorem dX6_below_40 : decode cX6_below 40 = .ok (.iconst 0, 1) := by decide +kernel
theorem dX6_below_41 : decode cX6_below 41 = .ok (.ireturn, 1) := by decide +kernel
theorem dX6_found_0 : decode cX6_found 0 = .ok (.aload_n 0, 1) := by decide +kernel
theorem dX6_found_1 : decode cX6_found 1 = .ok (.getfield 10, 3) := by decide +kernel
theorem dX6_found_4 : decode cX6_found 4 = .ok (.iload_n 1, 1) := by decide +kernel
theorem dX6_found_5 : decode cX6_found 5 = .ok (.invokevirtual 31, 3) := by decide +kernel
theorem dX6_found_8 : decode cX6_found 8 = .ok (.ifCond .ne 5, 3) := by decide +kernel
theorem dX6_found_11 : decode cX6_found 11 = .ok (.iconst (-1), 1) := by decide +kernel
theorem dX6_found_12 : decode cX6_found 12 = .ok (.ireturn, 1) := by decide +kernel
theorem dX6_found_13 : decode cX6_found 13 = .ok (.iload_n 2, 1) := by decide +kernel
theorem dX6_found_14 : decode cX6_found 14 = .ok (.invokestatic 102, 3) := by decide +kernel
theorem dX6_found_17 : decode cX6_found 17 = .ok (.ifCond .ne 6, 3) := by decide +kernel
theorem dX6_found_20 : decode cX6_found 20 = .ok (.bipush (-2), 2) := by decide +kernel
theorem dX6_found_22 : decode cX6_found 22 = .ok (.ireturn, 1) := by decide +kernel
theorem dX6_found_23 : decode cX6_found 23 = .ok (.iload_n 3, 1) := by decide +kernel
theorem dX6_found_24 : decode cX6_found 24 = .ok (.ifCond .eq 15, 3) := by decide +kernel
theorem dX6_found_27 : decode cX6_found 27 = .ok (.aload_n 0, 1) := by decide +kernel
theorem dX6_found_28 : decode cX6_found 28 = .ok (.getfield 10, 3) := by decide +kernel
theorem dX6_found_31 : decode cX6_found 31 = .ok (.iload_n 1, 1) := by decide +kernel
theorem dX6_found_32 : decode cX6_found 32 = .ok (.iload_n 2, 1) := by decide +kernel
theorem dX6_found_33 : decode cX6_found 33 = .ok (.invokevirtual 138, 3) := by decide +kernel
theorem dX6_found_36 : decode cX6_found 36 = .ok (.goto 12, 3) := by decide +kernel
theorem dX6_found_39 : decode cX6_found 39 = .ok (.aload_n 0, 1) := by decide +kernel
theorem dX6_found_40 : decode cX6_found 40 = .ok (.getfield 10, 3) := by decide +kernel
theorem dX6_found_43 : decode cX6_found 43 = .ok (.iload_n 1, 1) := by decide +kernel
theorem dX6_found_44 : decode cX6_found 44 = .ok (.iload_n 2, 1) := by decide +kernel
theorem dX6_found_45 : decode cX6_found 45 = .ok (.invokevirtual 141, 3) := by decide +kernel
theorem dX6_found_48 : decode cX6_found 48 = .ok (.ireturn, 1) := by decide +kernel
theorem dX6_asks_0 : decode cX6_asks 0 = .ok (.aload_n 0, 1) := by decide +kernel
theorem dX6_asks_1 : decode cX6_asks 1 = .ok (.getfield 10, 3) := by decide +kernel
theorem dX6_asks_4 : decode cX6_asks 4 = .ok (.iload_n 1, 1) := by decide +kernel
theorem dX6_asks_5 : decode cX6_asks 5 = .ok (.invokevirtual 31, 3) := by decide +kernel
theorem dX6_asks_8 : decode cX6_asks 8 = .ok (.ifCond .ne 5, 3) := by decide +kernel
theorem dX6_asks_11 : decode cX6_asks 11 = .ok (.iconst (-1), 1) := by decide +kernel
theorem dX6_asks_12 : decode cX6_asks 12 = .ok (.ireturn, 1) := by decide +kernel
theorem dX6_asks_13 : decode cX6_asks 13 = .ok (.aload_n 0, 1) := by decide +kernel
theorem dX6_asks_14 : decode cX6_asks 14 = .ok (.getfield 10, 3) := by decide +kernel
theorem dX6_asks_17 : decode cX6_asks 17 = .ok (.iload_n 1, 1) := by decide +kernel
theorem dX6_asks_18 : decode cX6_asks 18 = .ok (.invokevirtual 144, 3) := by decide +kernel
theorem dX6_asks_21 : decode cX6_asks 21 = .ok (.iload_n 2, 1) := by decide +kernel
theorem dX6_asks_22 : decode cX6_asks 22 = .ok (.ifCond .lt 26, 3) := by decide +kernel
theorem dX6_asks_25 : decode cX6_asks 25 = .ok (.iload_n 2, 1) := by decide +kernel
theorem dX6_asks_26 : decode cX6_asks 26 = .ok (.aload_n 0, 1) := by decide +kernel
theorem dX6_asks_27 : decode cX6_asks 27 = .ok (.getfield 10, 3) := by decide +kernel
theorem dX6_asks_30 : decode cX6_asks 30 = .ok (.getfield 147, 3) := by decide +kernel
theorem dX6_asks_33 : decode cX6_asks 33 = .ok (.if_icmp .ge 15, 3) := by decide +kernel
theorem dX6_asks_36 : decode cX6_asks 36 = .ok (.aload_n 0, 1) := by decide +kernel
theorem dX6_asks_37 : decode cX6_asks 37 = .ok (.getfield 10, 3) := by decide +kernel
theorem dX6_asks_40 : decode cX6_asks 40 = .ok (.getfield 150, 3) := by decide +kernel
theorem dX6_asks_43 : decode cX6_asks 43 = .ok (.iload_n 2, 1) := by decide +kernel
theorem dX6_asks_44 : decode cX6_asks 44 = .ok (.iaload, 1) := by decide +kernel
theorem dX6_asks_45 : decode cX6_asks 45 = .ok (.goto 5, 3) := by decide +kernel
theorem dX6_asks_48 : decode cX6_asks 48 = .ok (.bipush (-6), 2) := by decide +kernel
theorem dX6_asks_50 : decode cX6_asks 50 = .ok (.ireturn, 1) := by decide +kernel
theorem dX6_round_0 : decode cX6_round 0 = .ok (.iload_n 1, 1) := by decide +kernel
theorem dX6_round_1 : decode cX6_round 1 = .ok (.ifCond .ge 8, 3) := by decide +kernel
theorem dX6_round_4 : decode cX6_round 4 = .ok (.bipush (-6), 2) := by decide +kernel
theorem dX6_round_6 : decode cX6_round 6 = .ok (.goto 11, 3) := by decide +kernel
theorem dX6_round_9 : decode cX6_round 9 = .ok (.aload_n 0, 1) := by decide +kernel
theorem dX6_round_10 : decode cX6_round 10 = .ok (.getfield 10, 3) := by decide +kernel
theorem dX6_round_13 : decode cX6_round 13 = .ok (.iload_n 1, 1) := by decide +kernel
theorem dX6_round_14 : decode cX6_round 14 = .ok (.invokevirtual 153, 3) := by decide +kernel
theorem dX6_round_17 : decode cX6_round 17 = .ok (.ireturn, 1) := by decide +kernel
theorem dX6_world_0 : decode cX6_world 0 = .ok (.aload_n 0, 1) := by decide +kernel
theorem dX6_world_1 : decode cX6_world 1 = .ok (.getfield 22, 3) := by decide +kernel
theorem dX6_world_4 : decode cX6_world 4 = .ok (.bipush 12, 2) := by decide +kernel
theorem dX6_world_6 : decode cX6_world 6 = .ok (.if_icmp .lt 6, 3) := by decide +kernel
theorem dX6_world_9 : decode cX6_world 9 = .ok (.bipush (-4), 2) := by decide +kernel
theorem dX6_world_11 : decode cX6_world 11 = .ok (.ireturn, 1) := by decide +kernel
theorem dX6_world_12 : decode cX6_world 12 = .ok (.aload_n 0, 1) := by decide +kernel
theorem dX6_world_13 : decode cX6_world 13 = .ok (.getfield 10, 3) := by decide +kernel
theorem dX6_world_16 : decode cX6_world 16 = .ok (.getfield 49, 3) := by decide +kernel
theorem dX6_world_19 : decode cX6_world 19 = .ok (.ifCond .ne 6, 3) := by decide +kernel
theorem dX6_world_22 : decode cX6_world 22 = .ok (.bipush (-5), 2) := by decide +kernel
theorem dX6_world_24 : decode cX6_world 24 = .ok (.ireturn, 1) := by decide +kernel
theorem dX6_world_25 : decode cX6_world 25 = .ok (.aload_n 0, 1) := by decide +kernel
theorem dX6_world_26 : decode cX6_world 26 = .ok (.getfield 18, 3) := by decide +kernel
theorem dX6_world_29 : decode cX6_world 29 = .ok (.aload_n 0, 1) := by decide +kernel
theorem dX6_world_30 : decode cX6_world 30 = .ok (.getfield 22, 3) := by decide +kernel
theorem dX6_world_33 : decode cX6_world 33 = .ok (.aaload, 1) := by decide +kernel
theorem dX6_world_34 : decode cX6_world 34 = .ok (.ifnonnull 22, 3) := by decide +kernel
theorem dX6_world_37 : decode cX6_world 37 = .ok (.aload_n 0, 1) := by decide +kernel
theorem dX6_world_38 : decode cX6_world 38 = .ok (.getfield 18, 3) := by decide +kernel
theorem dX6_world_41 : decode cX6_world 41 = .ok (.aload_n 0, 1) := by decide +kernel
theorem dX6_world_42 : decode cX6_world 42 = .ok (.getfield 22, 3) := by decide +kernel
theorem dX6_world_45 : decode cX6_world 45 = .ok (.new 16, 3) := by decide +kernel
theorem dX6_world_48 : decode cX6_world 48 = .ok (.dup, 1) := by decide +kernel
theorem dX6_world_49 : decode cX6_world 49 = .ok (.invokespecial 26, 3) := by decide +kernel
theorem dX6_world_52 : decode cX6_world 52 = .ok (.aastore, 1) := by decide +kernel
theorem dX6_world_53 : decode cX6_world 53 = .ok (.goto 15, 3) := by decide +kernel
theorem dX6_world_56 : decode cX6_world 56 = .ok (.aload_n 0, 1) := by decide +kernel
theorem dX6_world_57 : decode cX6_world 57 = .ok (.getfield 18, 3) := by decide +kernel
theorem dX6_world_60 : decode cX6_world 60 = .ok (.aload_n 0, 1) := by decide +kernel
theorem dX6_world_61 : decode cX6_world 61 = .ok (.getfield 22, 3) := by decide +kernel
theorem dX6_world_64 : decode cX6_world 64 = .ok (.aaload, 1) := by decide +kernel
theorem dX6_world_65 : decode cX6_world 65 = .ok (.invokevirtual 156, 3) := by decide +kernel
theorem dX6_world_68 : decode cX6_world 68 = .ok (.aload_n 0, 1) := by decide +kernel
theorem dX6_world_69 : decode cX6_world 69 = .ok (.dup, 1) := by decide +kernel
theorem dX6_world_70 : decode cX6_world 70 = .ok (.getfield 22, 3) := by decide +kernel
theorem dX6_world_73 : decode cX6_world 73 = .ok (.iconst 1, 1) := by decide +kernel
theorem dX6_world_74 : decode cX6_world 74 = .ok (.iadd, 1) := by decide +kernel
theorem dX6_world_75 : decode cX6_world 75 = .ok (.putfield 22, 3) := by decide +kernel
theorem dX6_world_78 : decode cX6_world 78 = .ok (.aload_n 0, 1) := by decide +kernel
theorem dX6_world_79 : decode cX6_world 79 = .ok (.getfield 22, 3) := by decide +kernel
theorem dX6_world_82 : decode cX6_world 82 = .ok (.iconst 1, 1) := by decide +kernel
theorem dX6_world_83 : decode cX6_world 83 = .ok (.isub, 1) := by decide +kernel
theorem dX6_world_84 : decode cX6_world 84 = .ok (.ireturn, 1) := by decide +kernel
theorem dX6_gone_0 : decode cX6_gone 0 = .ok (.aload_n 0, 1) := by decide +kernel
theorem dX6_gone_1 : decode cX6_gone 1 = .ok (.getfield 22, 3) := by decide +kernel
theorem dX6_gone_4 : decode cX6_gone 4 = .ok (.istore_n 1, 1) := by decide +kernel
theorem dX6_gone_5 : decode cX6_gone 5 = .ok (.aload_n 0, 1) := by decide +kernel
theorem dX6_gone_6 : decode cX6_gone 6 = .ok (.iconst 0, 1) := by decide +kernel
theorem dX6_gone_7 : decode cX6_gone 7 = .ok (.putfield 22, 3) := by decide +kernel
theorem dX6_gone_10 : decode cX6_gone 10 = .ok (.iload_n 1, 1) := by decide +kernel
theorem dX6_gone_11 : decode cX6_gone 11 = .ok (.ireturn, 1) := by decide +kernel
theorem dX6_touch_0 : decode cX6_touch 0 = .ok (.aload_n 0, 1) := by decide +kernel
theorem dX6_touch_1 : decode cX6_touch 1 = .ok (.iload_n 1, 1) := by decide +kernel
theorem dX6_touch_2 : decode cX6_touch 2 = .ok (.iload_n 2, 1) := by decide +kernel
theorem dX6_touch_3 : decode cX6_touch 3 = .ok (.iload_n 3, 1) := by decide +kernel
theorem dX6_touch_4 : decode cX6_touch 4 = .ok (.iload 4, 2) := by decide +kernel
theorem dX6_touch_6 : decode cX6_touch 6 = .ok (.invokevirtual 159, 3) := by decide +kernel
theorem dX6_touch_9 : decode cX6_touch 9 = .ok (.istore 6, 2) := by decide +kernel
theorem dX6_touch_11 : decode cX6_touch 11 = .ok (.iload 6, 2) := by decide +kernel
theorem dX6_touch_13 : decode cX6_touch 13 = .ok (.ifCond .eq 6, 3) := by decide +kernel
theorem dX6_touch_16 : decode cX6_touch 16 = .ok (.iload 6, 2) := by decide +kernel
theorem dX6_touch_18 : decode cX6_touch 18 = .ok (.ireturn, 1) := by decide +kernel
theorem dX6_touch_19 : decode cX6_touch 19 = .ok (.aload_n 0, 1) := by decide +kernel
theorem dX6_touch_20 : decode cX6_touch 20 = .ok (.getfield 18, 3) := by decide +kernel
theorem dX6_touch_23 : decode cX6_touch 23 = .ok (.iload_n 1, 1) := by decide +kernel
theorem dX6_touch_24 : decode cX6_touch 24 = .ok (.aaload, 1) := by decide +kernel
theorem dX6_touch_25 : decode cX6_touch 25 = .ok (.astore 7, 2) := by decide +kernel
theorem dX6_touch_27 : decode cX6_touch 27 = .ok (.aload_n 0, 1) := by decide +kernel
theorem dX6_touch_28 : decode cX6_touch 28 = .ok (.getfield 27, 3) := by decide +kernel
theorem dX6_touch_31 : decode cX6_touch 31 = .ok (.aload 7, 2) := by decide +kernel
theorem dX6_touch_33 : decode cX6_touch 33 = .ok (.invokevirtual 163, 3) := by decide +kernel
theorem dX6_touch_36 : decode cX6_touch 36 = .ok (.new 167, 3) := by decide +kernel
theorem dX6_touch_39 : decode cX6_touch 39 = .ok (.dup, 1) := by decide +kernel
theorem dX6_touch_40 : decode cX6_touch 40 = .ok (.aload_n 0, 1) := by decide +kernel
theorem dX6_touch_41 : decode cX6_touch 41 = .ok (.getfield 10, 3) := by decide +kernel
theorem dX6_touch_44 : decode cX6_touch 44 = .ok (.aload 7, 2) := by decide +kernel
theorem dX6_touch_46 : decode cX6_touch 46 = .ok (.invokespecial 169, 3) := by decide +kernel
theorem dX6_touch_49 : decode cX6_touch 49 = .ok (.astore 8, 2) := by decide +kernel
theorem dX6_touch_51 : decode cX6_touch 51 = .ok (.aload 8, 2) := by decide +kernel
theorem dX6_touch_53 : decode cX6_touch 53 = .ok (.new 123, 3) := by decide +kernel
theorem dX6_touch_56 : decode cX6_touch 56 = .ok (.dup, 1) := by decide +kernel
theorem dX6_touch_57 : decode cX6_touch 57 = .ok (.iload_n 2, 1) := by decide +kernel
theorem dX6_touch_58 : decode cX6_touch 58 = .ok (.iload_n 3, 1) := by decide +kernel
theorem dX6_touch_59 : decode cX6_touch 59 = .ok (.iload 4, 2) := by decide +kernel
theorem dX6_touch_61 : decode cX6_touch 61 = .ok (.iload 5, 2) := by decide +kernel
theorem dX6_touch_63 : decode cX6_touch 63 = .ok (.invokespecial 125, 3) := by decide +kernel
theorem dX6_touch_66 : decode cX6_touch 66 = .ok (.invokevirtual 172, 3) := by decide +kernel
theorem dX6_touch_69 : decode cX6_touch 69 = .ok (.istore 9, 2) := by decide +kernel
theorem dX6_touch_71 : decode cX6_touch 71 = .ok (.iload 9, 2) := by decide +kernel
theorem dX6_touch_73 : decode cX6_touch 73 = .ok (.bipush 23, 2) := by decide +kernel
theorem dX6_touch_75 : decode cX6_touch 75 = .ok (.if_icmp .ne 12, 3) := by decide +kernel
theorem dX6_touch_78 : decode cX6_touch 78 = .ok (.aload 7, 2) := by decide +kernel
theorem dX6_touch_80 : decode cX6_touch 80 = .ok (.aload_n 0, 1) := by decide +kernel
theorem dX6_touch_81 : decode cX6_touch 81 = .ok (.getfield 27, 3) := by decide +kernel
theorem dX6_touch_84 : decode cX6_touch 84 = .ok (.invokevirtual 163, 3) := by decide +kernel
theorem dX6_touch_87 : decode cX6_touch 87 = .ok (.aload 7, 2) := by decide +kernel
theorem dX6_touch_89 : decode cX6_touch 89 = .ok (.aload 8, 2) := by decide +kernel
theorem dX6_touch_91 : decode cX6_touch 91 = .ok (.iload 9, 2) := by decide +kernel
theorem dX6_touch_93 : decode cX6_touch 93 = .ok (.invokevirtual 175, 3) := by decide +kernel
theorem dX6_touch_96 : decode cX6_touch 96 = .ok (.iload 9, 2) := by decide +kernel
theorem dX6_touch_98 : decode cX6_touch 98 = .ok (.invokestatic 179, 3) := by decide +kernel
theorem dX6_touch_101 : decode cX6_touch 101 = .ok (.ireturn, 1) := by decide +kernel
theorem dX6_foretell_0 : decode cX6_foretell 0 = .ok (.aload_n 0, 1) := by decide +kernel
theorem dX6_foretell_1 : decode cX6_foretell 1 = .ok (.iload_n 1, 1) := by decide +kernel
theorem dX6_foretell_2 : decode cX6_foretell 2 = .ok (.iload_n 2, 1) := by decide +kernel
theorem dX6_foretell_3 : decode cX6_foretell 3 = .ok (.iload_n 3, 1) := by decide +kernel
theorem dX6_foretell_4 : decode cX6_foretell 4 = .ok (.iload 4, 2) := by decide +kernel
theorem dX6_foretell_6 : decode cX6_foretell 6 = .ok (.invokevirtual 159, 3) := by decide +kernel
theorem dX6_foretell_9 : decode cX6_foretell 9 = .ok (.istore 6, 2) := by decide +kernel
theorem dX6_foretell_11 : decode cX6_foretell 11 = .ok (.iload 6, 2) := by decide +kernel
theorem dX6_foretell_13 : decode cX6_foretell 13 = .ok (.ifCond .eq 6, 3) := by decide +kernel
theorem dX6_foretell_16 : decode cX6_foretell 16 = .ok (.iload 6, 2) := by decide +kernel
theorem dX6_foretell_18 : decode cX6_foretell 18 = .ok (.ireturn, 1) := by decide +kernel
theorem dX6_foretell_19 : decode cX6_foretell 19 = .ok (.aload_n 0, 1) := by decide +kernel
theorem dX6_foretell_20 : decode cX6_foretell 20 = .ok (.getfield 18, 3) := by decide +kernel
theorem dX6_foretell_23 : decode cX6_foretell 23 = .ok (.iload_n 1, 1) := by decide +kernel
theorem dX6_foretell_24 : decode cX6_foretell 24 = .ok (.aaload, 1) := by decide +kernel
theorem dX6_foretell_25 : decode cX6_foretell 25 = .ok (.astore 7, 2) := by decide +kernel
theorem dX6_foretell_27 : decode cX6_foretell 27 = .ok (.aload_n 0, 1) := by decide +kernel
theorem dX6_foretell_28 : decode cX6_foretell 28 = .ok (.getfield 27, 3) := by decide +kernel
theorem dX6_foretell_31 : decode cX6_foretell 31 = .ok (.aload 7, 2) := by decide +kernel
theorem dX6_foretell_33 : decode cX6_foretell 33 = .ok (.invokevirtual 163, 3) := by decide +kernel
theorem dX6_foretell_36 : decode cX6_foretell 36 = .ok (.new 167, 3) := by decide +kernel
theorem dX6_foretell_39 : decode cX6_foretell 39 = .ok (.dup, 1) := by decide +kernel
theorem dX6_foretell_40 : decode cX6_foretell 40 = .ok (.aload_n 0, 1) := by decide +kernel
theorem dX6_foretell_41 : decode cX6_foretell 41 = .ok (.getfield 10, 3) := by decide +kernel
theorem dX6_foretell_44 : decode cX6_foretell 44 = .ok (.aload 7, 2) := by decide +kernel
theorem dX6_foretell_46 : decode cX6_foretell 46 = .ok (.invokespecial 169, 3) := by decide +kernel
theorem dX6_foretell_49 : decode cX6_foretell 49 = .ok (.new 123, 3) := by decide +kernel
theorem dX6_foretell_52 : decode cX6_foretell 52 = .ok (.dup, 1) := by decide +kernel
theorem dX6_foretell_53 : decode cX6_foretell 53 = .ok (.iload_n 2, 1) := by decide +kernel
theorem dX6_foretell_54 : decode cX6_foretell 54 = .ok (.iload_n 3, 1) := by decide +kernel
theorem dX6_foretell_55 : decode cX6_foretell 55 = .ok (.iload 4, 2) := by decide +kernel
theorem dX6_foretell_57 : decode cX6_foretell 57 = .ok (.iload 5, 2) := by decide +kernel
theorem dX6_foretell_59 : decode cX6_foretell 59 = .ok (.invokespecial 125, 3) := by decide +kernel
theorem dX6_foretell_62 : decode cX6_foretell 62 = .ok (.invokevirtual 172, 3) := by decide +kernel
theorem dX6_foretell_65 : decode cX6_foretell 65 = .ok (.istore 8, 2) := by decide +kernel
theorem dX6_foretell_67 : decode cX6_foretell 67 = .ok (.aload 7, 2) := by decide +kernel
theorem dX6_foretell_69 : decode cX6_foretell 69 = .ok (.aload_n 0, 1) := by decide +kernel
theorem dX6_foretell_70 : decode cX6_foretell 70 = .ok (.getfield 27, 3) := by decide +kernel
theorem dX6_foretell_73 : decode cX6_foretell 73 = .ok (.invokevirtual 163, 3) := by decide +kernel
theorem dX6_foretell_76 : decode cX6_foretell 76 = .ok (.iload 8, 2) := by decide +kernel
theorem dX6_foretell_78 : decode cX6_foretell 78 = .ok (.invokestatic 179, 3) := by decide +kernel
theorem dX6_foretell_81 : decode cX6_foretell 81 = .ok (.ireturn, 1) := by decide +kernel
theorem dX6_refusalOfTouch_0 : decode cX6_refusalOfTouch 0 = .ok (.aload_n 0, 1) := by decide +kernel
theorem dX6_refusalOfTouch_1 : decode cX6_refusalOfTouch 1 = .ok (.iload_n 1, 1) := by decide +kernel
theorem dX6_refusalOfTouch_2 : decode cX6_refusalOfTouch 2 = .ok (.invokevirtual 182, 3) := by decide +kernel
theorem dX6_refusalOfTouch_5 : decode cX6_refusalOfTouch 5 = .ok (.ifCond .eq 14, 3) := by decide +kernel
theorem dX6_refusalOfTouch_8 : decode cX6_refusalOfTouch 8 = .ok (.aload_n 0, 1) := by decide +kernel
theorem dX6_refusalOfTouch_9 : decode cX6_refusalOfTouch 9 = .ok (.getfield 10, 3) := by decide +kernel
theorem dX6_refusalOfTouch_12 : decode cX6_refusalOfTouch 12 = .ok (.iload_n 3, 1) := by decide +kernel
theorem dX6_refusalOfTouch_13 : decode cX6_refusalOfTouch 13 = .ok (.invokevirtual 31, 3) := by decide +kernel
theorem dX6_refusalOfTouch_16 : decode cX6_refusalOfTouch 16 = .ok (.ifCond .ne 5, 3) := by decide +kernel
theorem dX6_refusalOfTouch_19 : decode cX6_refusalOfTouch 19 = .ok (.iconst (-1), 1) := by decide +kernel
theorem dX6_refusalOfTouch_20 : decode cX6_refusalOfTouch 20 = .ok (.ireturn, 1) := by decide +kernel
theorem dX6_refusalOfTouch_21 : decode cX6_refusalOfTouch 21 = .ok (.iload_n 2, 1) := by decide +kernel
theorem dX6_refusalOfTouch_22 : decode cX6_refusalOfTouch 22 = .ok (.iconst 1, 1) := by decide +kernel
theorem dX6_refusalOfTouch_23 : decode cX6_refusalOfTouch 23 = .ok (.if_icmp .lt 24, 3) := by decide +kernel
theorem dX6_refusalOfTouch_26 : decode cX6_refusalOfTouch 26 = .ok (.iload_n 2, 1) := by decide +kernel
theorem dX6_refusalOfTouch_27 : decode cX6_refusalOfTouch 27 = .ok (.bipush 6, 2) := by decide +kernel
theorem dX6_refusalOfTouch_29 : decode cX6_refusalOfTouch 29 = .ok (.if_icmp .gt 18, 3) := by decide +kernel
theorem dX6_refusalOfTouch_32 : decode cX6_refusalOfTouch 32 = .ok (.iload_n 2, 1) := by decide +kernel
theorem dX6_refusalOfTouch_33 : decode cX6_refusalOfTouch 33 = .ok (.invokestatic 108, 3) := by decide +kernel
theorem dX6_refusalOfTouch_36 : decode cX6_refusalOfTouch 36 = .ok (.ifCond .eq 14, 3) := by decide +kernel
theorem dX6_refusalOfTouch_39 : decode cX6_refusalOfTouch 39 = .ok (.iload 4, 2) := by decide +kernel
theorem dX6_refusalOfTouch_41 : decode cX6_refusalOfTouch 41 = .ok (.invokestatic 102, 3) := by decide +kernel
theorem dX6_refusalOfTouch_44 : decode cX6_refusalOfTouch 44 = .ok (.ifCond .ne 6, 3) := by decide +kernel
theorem dX6_refusalOfTouch_47 : decode cX6_refusalOfTouch 47 = .ok (.bipush (-2), 2) := by decide +kernel
theorem dX6_refusalOfTouch_49 : decode cX6_refusalOfTouch 49 = .ok (.ireturn, 1) := by decide +kernel
theorem dX6_refusalOfTouch_50 : decode cX6_refusalOfTouch 50 = .ok (.iconst 0, 1) := by decide +kernel
theorem dX6_refusalOfTouch_51 : decode cX6_refusalOfTouch 51 = .ok (.ireturn, 1) := by decide +kernel
theorem dX6_comesTo_0 : decode cX6_comesTo 0 = .ok (.iload_n 0, 1) := by decide +kernel
theorem dX6_comesTo_1 : decode cX6_comesTo 1 = .ok (.lookupswitch 61 #[(-6, 51), (20, 53), (21, 55), (22, 57), (23, 59)], 51) := by decide +kernel
theorem dX6_comesTo_52 : decode cX6_comesTo 52 = .ok (.iconst 0, 1) := by decide +kernel
theorem dX6_comesTo_53 : decode cX6_comesTo 53 = .ok (.ireturn, 1) := by decide +kernel
theorem dX6_comesTo_54 : decode cX6_comesTo 54 = .ok (.iconst 1, 1) := by decide +kernel
theorem dX6_comesTo_55 : decode cX6_comesTo 55 = .ok (.ireturn, 1) := by decide +kernel
theorem dX6_comesTo_56 : decode cX6_comesTo 56 = .ok (.iconst 2, 1) := by decide +kernel
theorem dX6_comesTo_57 : decode cX6_comesTo 57 = .ok (.ireturn, 1) := by decide +kernel
theorem dX6_comesTo_58 : decode cX6_comesTo 58 = .ok (.iconst 3, 1) := by decide +kernel
theorem dX6_comesTo_59 : decode cX6_comesTo 59 = .ok (.ireturn, 1) := by decide +kernel
theorem dX6_comesTo_60 : decode cX6_comesTo 60 = .ok (.iconst 5, 1) := by decide +kernel
theorem dX6_comesTo_61 : decode cX6_comesTo 61 = .ok (.ireturn, 1) := by decide +kernel
theorem dX6_comesTo_62 : decode cX6_comesTo 62 = .ok (.iconst 4, 1) := by decide +kernel
theorem dX6_comesTo_63 : decode cX6_comesTo 63 = .ok (.ireturn, 1) := by decide +kernel
theorem dX6_state_0 : decode cX6_state 0 = .ok (.aload_n 0, 1) := by decide +kernel
theorem dX6_state_1 : decode cX6_state 1 = .ok (.iload_n 1, 1) := by decide +kernel
theorem dX6_state_2 : decode cX6_state 2 = .ok (.invokevirtual 182, 3) := by decide +kernel
theorem dX6_state_5 : decode cX6_state 5 = .ok (.ifCond .eq 14, 3) := by decide +kernel
theorem dX6_state_8 : decode cX6_state 8 = .ok (.aload_n 0, 1) := by decide +kernel
theorem dX6_state_9 : decode cX6_state 9 = .ok (.getfield 10, 3) := by decide +kernel
theorem dX6_state_12 : decode cX6_state 12 = .ok (.iload_n 2, 1) := by decide +kernel
theorem dX6_state_13 : decode cX6_state 13 = .ok (.invokevirtual 31, 3) := by decide +kernel
theorem dX6_state_16 : decode cX6_state 16 = .ok (.ifCond .ne 5, 3) := by decide +kernel
theorem dX6_state_19 : decode cX6_state 19 = .ok (.iconst (-1), 1) := by decide +kernel
theorem dX6_state_20 : decode cX6_state 20 = .ok (.ireturn, 1) := by decide +kernel
theorem dX6_state_21 : decode cX6_state 21 = .ok (.aload_n 0, 1) := by decide +kernel
theorem dX6_state_22 : decode cX6_state 22 = .ok (.getfield 18, 3) := by decide +kernel
theorem dX6_state_25 : decode cX6_state 25 = .ok (.iload_n 1, 1) := by decide +kernel
theorem dX6_state_26 : decode cX6_state 26 = .ok (.aaload, 1) := by decide +kernel
theorem dX6_state_27 : decode cX6_state 27 = .ok (.getfield 185, 3) := by decide +kernel
theorem dX6_state_30 : decode cX6_state 30 = .ok (.iload_n 2, 1) := by decide +kernel
theorem dX6_state_31 : decode cX6_state 31 = .ok (.iaload, 1) := by decide +kernel
theorem dX6_state_32 : decode cX6_state 32 = .ok (.ireturn, 1) := by decide +kernel
theorem dX6_began_0 : decode cX6_began 0 = .ok (.aload_n 0, 1) := by decide +kernel
theorem dX6_began_1 : decode cX6_began 1 = .ok (.iload_n 1, 1) := by decide +kernel
theorem dX6_began_2 : decode cX6_began 2 = .ok (.invokevirtual 182, 3) := by decide +kernel
theorem dX6_began_5 : decode cX6_began 5 = .ok (.ifCond .ne 5, 3) := by decide +kernel
theorem dX6_began_8 : decode cX6_began 8 = .ok (.iconst (-1), 1) := by decide +kernel
theorem dX6_began_9 : decode cX6_began 9 = .ok (.ireturn, 1) := by decide +kernel
theorem dX6_began_10 : decode cX6_began 10 = .ok (.aload_n 0, 1) := by decide +kernel
theorem dX6_began_11 : decode cX6_began 11 = .ok (.getfield 18, 3) := by decide +kernel
theorem dX6_began_14 : decode cX6_began 14 = .ok (.iload_n 1, 1) := by decide +kernel
theorem dX6_began_15 : decode cX6_began 15 = .ok (.aaload, 1) := by decide +kernel
theorem dX6_began_16 : decode cX6_began 16 = .ok (.astore_n 3, 1) := by decide +kernel
theorem dX6_began_17 : decode cX6_began 17 = .ok (.iload_n 2, 1) := by decide +kernel
theorem dX6_began_18 : decode cX6_began 18 = .ok (.iconst (-1), 1) := by decide +kernel
theorem dX6_began_19 : decode cX6_began 19 = .ok (.if_icmp .ne 8, 3) := by decide +kernel
theorem dX6_began_22 : decode cX6_began 22 = .ok (.aload_n 3, 1) := by decide +kernel
theorem dX6_began_23 : decode cX6_began 23 = .ok (.getfield 188, 3) := by decide +kernel
theorem dX6_began_26 : decode cX6_began 26 = .ok (.ireturn, 1) := by decide +kernel
theorem dX6_began_27 : decode cX6_began 27 = .ok (.iload_n 2, 1) := by decide +kernel
theorem dX6_began_28 : decode cX6_began 28 = .ok (.ifCond .lt 20, 3) := by decide +kernel
theorem dX6_began_31 : decode cX6_began 31 = .ok (.iload_n 2, 1) := by decide +kernel
theorem dX6_began_32 : decode cX6_began 32 = .ok (.aload_n 3, 1) := by decide +kernel
theorem dX6_began_33 : decode cX6_began 33 = .ok (.getfield 188, 3) := by decide +kernel
theorem dX6_began_36 : decode cX6_began 36 = .ok (.if_icmp .ge 12, 3) := by decide +kernel
theorem dX6_began_39 : decode cX6_began 39 = .ok (.aload_n 3, 1) := by decide +kernel
theorem dX6_began_40 : decode cX6_began 40 = .ok (.getfield 191, 3) := by decide +kernel
theorem dX6_began_43 : decode cX6_began 43 = .ok (.iload_n 2, 1) := by decide +kernel
theorem dX6_began_44 : decode cX6_began 44 = .ok (.iaload, 1) := by decide +kernel
theorem dX6_began_45 : decode cX6_began 45 = .ok (.goto 5, 3) := by decide +kernel
theorem dX6_began_48 : decode cX6_began 48 = .ok (.bipush (-6), 2) := by decide +kernel
theorem dX6_began_50 : decode cX6_began 50 = .ok (.ireturn, 1) := by decide +kernel
theorem dX6_tape_0 : decode cX6_tape 0 = .ok (.aload_n 0, 1) := by decide +kernel
theorem dX6_tape_1 : decode cX6_tape 1 = .ok (.iload_n 1, 1) := by decide +kernel
theorem dX6_tape_2 : decode cX6_tape 2 = .ok (.invokevirtual 182, 3) := by decide +kernel
theorem dX6_tape_5 : decode cX6_tape 5 = .ok (.ifCond .ne 5, 3) := by decide +kernel
theorem dX6_tape_8 : decode cX6_tape 8 = .ok (.iconst 0, 1) := by decide +kernel
theorem dX6_tape_9 : decode cX6_tape 9 = .ok (.ireturn, 1) := by decide +kernel
theorem dX6_tape_10 : decode cX6_tape 10 = .ok (.aload_n 0, 1) := by decide +kernel
theorem dX6_tape_11 : decode cX6_tape 11 = .ok (.getfield 18, 3) := by decide +kernel
theorem dX6_tape_14 : decode cX6_tape 14 = .ok (.iload_n 1, 1) := by decide +kernel
theorem dX6_tape_15 : decode cX6_tape 15 = .ok (.aaload, 1) := by decide +kernel
theorem dX6_tape_16 : decode cX6_tape 16 = .ok (.astore_n 3, 1) := by decide +kernel
theorem dX6_tape_17 : decode cX6_tape 17 = .ok (.iload_n 2, 1) := by decide +kernel
theorem dX6_tape_18 : decode cX6_tape 18 = .ok (.iconst (-1), 1) := by decide +kernel
theorem dX6_tape_19 : decode cX6_tape 19 = .ok (.if_icmp .ne 8, 3) := by decide +kernel
theorem dX6_tape_22 : decode cX6_tape 22 = .ok (.aload_n 3, 1) := by decide +kernel
theorem dX6_tape_23 : decode cX6_tape 23 = .ok (.getfield 194, 3) := by decide +kernel
theorem dX6_tape_26 : decode cX6_tape 26 = .ok (.ireturn, 1) := by decide +kernel
theorem dX6_tape_27 : decode cX6_tape 27 = .ok (.iload_n 2, 1) := by decide +kernel
theorem dX6_tape_28 : decode cX6_tape 28 = .ok (.ifCond .lt 27, 3) := by decide +kernel
theorem dX6_tape_31 : decode cX6_tape 31 = .ok (.iload_n 2, 1) := by decide +kernel
theorem dX6_tape_32 : decode cX6_tape 32 = .ok (.aload_n 3, 1) := by decide +kernel
theorem dX6_tape_33 : decode cX6_tape 33 = .ok (.getfield 194, 3) := by decide +kernel
theorem dX6_tape_36 : decode cX6_tape 36 = .ok (.if_icmp .ge 19, 3) := by decide +kernel
theorem dX6_tape_39 : decode cX6_tape 39 = .ok (.iload_n 2, 1) := by decide +kernel
theorem dX6_tape_40 : decode cX6_tape 40 = .ok (.sipush 300, 3) := by decide +kernel
theorem dX6_tape_43 : decode cX6_tape 43 = .ok (.if_icmp .ge 12, 3) := by decide +kernel
theorem dX6_tape_46 : decode cX6_tape 46 = .ok (.aload_n 3, 1) := by decide +kernel
theorem dX6_tape_47 : decode cX6_tape 47 = .ok (.getfield 197, 3) := by decide +kernel
theorem dX6_tape_50 : decode cX6_tape 50 = .ok (.iload_n 2, 1) := by decide +kernel
theorem dX6_tape_51 : decode cX6_tape 51 = .ok (.iaload, 1) := by decide +kernel
theorem dX6_tape_52 : decode cX6_tape 52 = .ok (.goto 4, 3) := by decide +kernel
theorem dX6_tape_55 : decode cX6_tape 55 = .ok (.iconst 0, 1) := by decide +kernel
theorem dX6_tape_56 : decode cX6_tape 56 = .ok (.ireturn, 1) := by decide +kernel
theorem dX6_value_0 : decode cX6_value 0 = .ok (.aload_n 0, 1) := by decide +kernel
theorem dX6_value_1 : decode cX6_value 1 = .ok (.iload_n 1, 1) := by decide +kernel
theorem dX6_value_2 : decode cX6_value 2 = .ok (.invokevirtual 182, 3) := by decide +kernel
theorem dX6_value_5 : decode cX6_value 5 = .ok (.ifCond .eq 21, 3) := by decide +kernel
theorem dX6_value_8 : decode cX6_value 8 = .ok (.aload_n 0, 1) := by decide +kernel
theorem dX6_value_9 : decode cX6_value 9 = .ok (.getfield 10, 3) := by decide +kernel
theorem dX6_value_12 : decode cX6_value 12 = .ok (.iload_n 2, 1) := by decide +kernel
theorem dX6_value_13 : decode cX6_value 13 = .ok (.invokevirtual 31, 3) := by decide +kernel
theorem dX6_value_16 : decode cX6_value 16 = .ok (.ifCond .eq 10, 3) := by decide +kernel
theorem dX6_value_19 : decode cX6_value 19 = .ok (.iload_n 3, 1) := by decide +kernel
theorem dX6_value_20 : decode cX6_value 20 = .ok (.invokestatic 102, 3) := by decide +kernel
theorem dX6_value_23 : decode cX6_value 23 = .ok (.ifCond .ne 5, 3) := by decide +kernel
theorem dX6_value_26 : decode cX6_value 26 = .ok (.iconst 0, 1) := by decide +kernel
theorem dX6_value_27 : decode cX6_value 27 = .ok (.ireturn, 1) := by decide +kernel
theorem dX6_value_28 : decode cX6_value 28 = .ok (.aload_n 0, 1) := by decide +kernel
theorem dX6_value_29 : decode cX6_value 29 = .ok (.getfield 10, 3) := by decide +kernel
theorem dX6_value_32 : decode cX6_value 32 = .ok (.iload_n 2, 1) := by decide +kernel
theorem dX6_value_33 : decode cX6_value 33 = .ok (.iload_n 3, 1) := by decide +kernel
theorem dX6_value_34 : decode cX6_value 34 = .ok (.invokevirtual 141, 3) := by decide +kernel
theorem dX6_value_37 : decode cX6_value 37 = .ok (.istore 4, 2) := by decide +kernel
theorem dX6_value_39 : decode cX6_value 39 = .ok (.iload 4, 2) := by decide +kernel
theorem dX6_value_41 : decode cX6_value 41 = .ok (.bipush (-6), 2) := by decide +kernel
theorem dX6_value_43 : decode cX6_value 43 = .ok (.if_icmp .ne 7, 3) := by decide +kernel
theorem dX6_value_46 : decode cX6_value 46 = .ok (.iconst 0, 1) := by decide +kernel
theorem dX6_value_47 : decode cX6_value 47 = .ok (.goto 19, 3) := by decide +kernel
theorem dX6_value_50 : decode cX6_value 50 = .ok (.aload_n 0, 1) := by decide +kernel
theorem dX6_value_51 : decode cX6_value 51 = .ok (.getfield 10, 3) := by decide +kernel
theorem dX6_value_54 : decode cX6_value 54 = .ok (.aload_n 0, 1) := by decide +kernel
theorem dX6_value_55 : decode cX6_value 55 = .ok (.getfield 18, 3) := by decide +kernel
theorem dX6_value_58 : decode cX6_value 58 = .ok (.iload_n 1, 1) := by decide +kernel
theorem dX6_value_59 : decode cX6_value 59 = .ok (.aaload, 1) := by decide +kernel
theorem dX6_value_60 : decode cX6_value 60 = .ok (.iload 4, 2) := by decide +kernel
theorem dX6_value_62 : decode cX6_value 62 = .ok (.iload_n 3, 1) := by decide +kernel
theorem dX6_value_63 : decode cX6_value 63 = .ok (.invokevirtual 200, 3) := by decide +kernel
theorem dX6_value_66 : decode cX6_value 66 = .ok (.ireturn, 1) := by decide +kernel
theorem dX6_failed_0 : decode cX6_failed 0 = .ok (.aload_n 0, 1) := by decide +kernel
theorem dX6_failed_1 : decode cX6_failed 1 = .ok (.iload_n 1, 1) := by decide +kernel
theorem dX6_failed_2 : decode cX6_failed 2 = .ok (.invokevirtual 182, 3) := by decide +kernel
theorem dX6_failed_5 : decode cX6_failed 5 = .ok (.ifCond .ne 5, 3) := by decide +kernel
theorem dX6_failed_8 : decode cX6_failed 8 = .ok (.iconst (-1), 1) := by decide +kernel
theorem dX6_failed_9 : decode cX6_failed 9 = .ok (.ireturn, 1) := by decide +kernel
theorem dX6_failed_10 : decode cX6_failed 10 = .ok (.iload_n 2, 1) := by decide +kernel
theorem dX6_failed_11 : decode cX6_failed 11 = .ok (.ifCond .lt 8, 3) := by decide +kernel
theorem dX6_failed_14 : decode cX6_failed 14 = .ok (.iload_n 2, 1) := by decide +kernel
theorem dX6_failed_15 : decode cX6_failed 15 = .ok (.iconst 1, 1) := by decide +kernel
theorem dX6_failed_16 : decode cX6_failed 16 = .ok (.if_icmp .le 6, 3) := by decide +kernel
theorem dX6_failed_19 : decode cX6_failed 19 = .ok (.bipush (-2), 2) := by decide +kernel
theorem dX6_failed_21 : decode cX6_failed 21 = .ok (.ireturn, 1) := by decide +kernel
theorem dX6_failed_22 : decode cX6_failed 22 = .ok (.iload_n 2, 1) := by decide +kernel
theorem dX6_failed_23 : decode cX6_failed 23 = .ok (.ifCond .ne 15, 3) := by decide +kernel
theorem dX6_failed_26 : decode cX6_failed 26 = .ok (.aload_n 0, 1) := by decide +kernel
theorem dX6_failed_27 : decode cX6_failed 27 = .ok (.getfield 18, 3) := by decide +kernel
theorem dX6_failed_30 : decode cX6_failed 30 = .ok (.iload_n 1, 1) := by decide +kernel
theorem dX6_failed_31 : decode cX6_failed 31 = .ok (.aaload, 1) := by decide +kernel
theorem dX6_failed_32 : decode cX6_failed 32 = .ok (.getfield 204, 3) := by decide +kernel
theorem dX6_failed_35 : decode cX6_failed 35 = .ok (.goto 12, 3) := by decide +kernel
theorem dX6_failed_38 : decode cX6_failed 38 = .ok (.aload_n 0, 1) := by decide +kernel
theorem dX6_failed_39 : decode cX6_failed 39 = .ok (.getfield 18, 3) := by decide +kernel
theorem dX6_failed_42 : decode cX6_failed 42 = .ok (.iload_n 1, 1) := by decide +kernel
theorem dX6_failed_43 : decode cX6_failed 43 = .ok (.aaload, 1) := by decide +kernel
theorem dX6_failed_44 : decode cX6_failed 44 = .ok (.getfield 207, 3) := by decide +kernel
theorem dX6_failed_47 : decode cX6_failed 47 = .ok (.ireturn, 1) := by decide +kernel
theorem dX6_spent_0 : decode cX6_spent 0 = .ok (.aload_n 0, 1) := by decide +kernel
theorem dX6_spent_1 : decode cX6_spent 1 = .ok (.iload_n 1, 1) := by decide +kernel
theorem dX6_spent_2 : decode cX6_spent 2 = .ok (.invokevirtual 182, 3) := by decide +kernel
theorem dX6_spent_5 : decode cX6_spent 5 = .ok (.ifCond .ne 5, 3) := by decide +kernel
theorem dX6_spent_8 : decode cX6_spent 8 = .ok (.iconst (-1), 1) := by decide +kernel
theorem dX6_spent_9 : decode cX6_spent 9 = .ok (.ireturn, 1) := by decide +kernel
theorem dX6_spent_10 : decode cX6_spent 10 = .ok (.iload_n 2, 1) := by decide +kernel
theorem dX6_spent_11 : decode cX6_spent 11 = .ok (.ifCond .lt 8, 3) := by decide +kernel
theorem dX6_spent_14 : decode cX6_spent 14 = .ok (.iload_n 2, 1) := by decide +kernel
theorem dX6_spent_15 : decode cX6_spent 15 = .ok (.iconst 3, 1) := by decide +kernel
theorem dX6_spent_16 : decode cX6_spent 16 = .ok (.if_icmp .le 8, 3) := by decide +kernel
theorem dX6_spent_19 : decode cX6_spent 19 = .ok (.bipush (-2), 2) := by decide +kernel
theorem dX6_spent_21 : decode cX6_spent 21 = .ok (.goto 14, 3) := by decide +kernel
theorem dX6_spent_24 : decode cX6_spent 24 = .ok (.aload_n 0, 1) := by decide +kernel
theorem dX6_spent_25 : decode cX6_spent 25 = .ok (.getfield 18, 3) := by decide +kernel
theorem dX6_spent_28 : decode cX6_spent 28 = .ok (.iload_n 1, 1) := by decide +kernel
theorem dX6_spent_29 : decode cX6_spent 29 = .ok (.aaload, 1) := by decide +kernel
theorem dX6_spent_30 : decode cX6_spent 30 = .ok (.getfield 210, 3) := by decide +kernel
theorem dX6_spent_33 : decode cX6_spent 33 = .ok (.iload_n 2, 1) := by decide +kernel
theorem dX6_spent_34 : decode cX6_spent 34 = .ok (.iaload, 1) := by decide +kernel
theorem dX6_spent_35 : decode cX6_spent 35 = .ok (.ireturn, 1) := by decide +kernel
theorem dX6_many_0 : decode cX6_many 0 = .ok (.aload_n 0, 1) := by decide +kernel
theorem dX6_many_1 : decode cX6_many 1 = .ok (.iload_n 1, 1) := by decide +kernel
theorem dX6_many_2 : decode cX6_many 2 = .ok (.invokevirtual 182, 3) := by decide +kernel
theorem dX6_many_5 : decode cX6_many 5 = .ok (.ifCond .ne 5, 3) := by decide +kernel
theorem dX6_many_8 : decode cX6_many 8 = .ok (.iconst (-1), 1) := by decide +kernel
theorem dX6_many_9 : decode cX6_many 9 = .ok (.ireturn, 1) := by decide +kernel
theorem dX6_many_10 : decode cX6_many 10 = .ok (.iload_n 2, 1) := by decide +kernel
theorem dX6_many_11 : decode cX6_many 11 = .ok (.ifCond .lt 8, 3) := by decide +kernel
theorem dX6_many_14 : decode cX6_many 14 = .ok (.iload_n 2, 1) := by decide +kernel
theorem dX6_many_15 : decode cX6_many 15 = .ok (.iconst 3, 1) := by decide +kernel
theorem dX6_many_16 : decode cX6_many 16 = .ok (.if_icmp .le 6, 3) := by decide +kernel
theorem dX6_many_19 : decode cX6_many 19 = .ok (.bipush (-2), 2) := by decide +kernel
theorem dX6_many_21 : decode cX6_many 21 = .ok (.ireturn, 1) := by decide +kernel
theorem dX6_many_22 : decode cX6_many 22 = .ok (.iconst 0, 1) := by decide +kernel
theorem dX6_many_23 : decode cX6_many 23 = .ok (.istore_n 3, 1) := by decide +kernel
theorem dX6_many_24 : decode cX6_many 24 = .ok (.iconst 0, 1) := by decide +kernel
theorem dX6_many_25 : decode cX6_many 25 = .ok (.istore 4, 2) := by decide +kernel
theorem dX6_many_27 : decode cX6_many 27 = .ok (.iload 4, 2) := by decide +kernel
theorem dX6_many_29 : decode cX6_many 29 = .ok (.aload_n 0, 1) := by decide +kernel
theorem dX6_many_30 : decode cX6_many 30 = .ok (.getfield 10, 3) := by decide +kernel
theorem dX6_many_33 : decode cX6_many 33 = .ok (.getfield 49, 3) := by decide +kernel
theorem dX6_many_36 : decode cX6_many 36 = .ok (.if_icmp .ge 28, 3) := by decide +kernel
theorem dX6_many_39 : decode cX6_many 39 = .ok (.aload_n 0, 1) := by decide +kernel
theorem dX6_many_40 : decode cX6_many 40 = .ok (.getfield 18, 3) := by decide +kernel
theorem dX6_many_43 : decode cX6_many 43 = .ok (.iload_n 1, 1) := by decide +kernel
theorem dX6_many_44 : decode cX6_many 44 = .ok (.aaload, 1) := by decide +kernel
theorem dX6_many_45 : decode cX6_many 45 = .ok (.getfield 185, 3) := by decide +kernel
theorem dX6_many_48 : decode cX6_many 48 = .ok (.iload 4, 2) := by decide +kernel
theorem dX6_many_50 : decode cX6_many 50 = .ok (.iaload, 1) := by decide +kernel
theorem dX6_many_51 : decode cX6_many 51 = .ok (.iload_n 2, 1) := by decide +kernel
theorem dX6_many_52 : decode cX6_many 52 = .ok (.if_icmp .ne 6, 3) := by decide +kernel
theorem dX6_many_55 : decode cX6_many 55 = .ok (.iinc 3 1, 3) := by decide +kernel
theorem dX6_many_58 : decode cX6_many 58 = .ok (.iinc 4 1, 3) := by decide +kernel
theorem dX6_many_61 : decode cX6_many 61 = .ok (.goto (-34), 3) := by decide +kernel
theorem dX6_many_64 : decode cX6_many 64 = .ok (.iload_n 3, 1) := by decide +kernel
theorem dX6_many_65 : decode cX6_many 65 = .ok (.ireturn, 1) := by decide +kernel
theorem dX6_differs_0 : decode cX6_differs 0 = .ok (.aload_n 0, 1) := by decide +kernel
theorem dX6_differs_1 : decode cX6_differs 1 = .ok (.iload_n 1, 1) := by decide +kernel
theorem dX6_differs_2 : decode cX6_differs 2 = .ok (.invokevirtual 182, 3) := by decide +kernel
theorem dX6_differs_5 : decode cX6_differs 5 = .ok (.ifCond .eq 11, 3) := by decide +kernel
theorem dX6_differs_8 : decode cX6_differs 8 = .ok (.aload_n 0, 1) := by decide +kernel
theorem dX6_differs_9 : decode cX6_differs 9 = .ok (.iload_n 2, 1) := by decide +kernel
theorem dX6_differs_10 : decode cX6_differs 10 = .ok (.invokevirtual 182, 3) := by decide +kernel
theorem dX6_differs_13 : decode cX6_differs 13 = .ok (.ifCond .ne 5, 3) := by decide +kernel
theorem dX6_differs_16 : decode cX6_differs 16 = .ok (.iconst (-1), 1) := by decide +kernel
theorem dX6_differs_17 : decode cX6_differs 17 = .ok (.ireturn, 1) := by decide +kernel
theorem dX6_differs_18 : decode cX6_differs 18 = .ok (.iconst 0, 1) := by decide +kernel
theorem dX6_differs_19 : decode cX6_differs 19 = .ok (.istore_n 3, 1) := by decide +kernel
theorem dX6_differs_20 : decode cX6_differs 20 = .ok (.iload_n 3, 1) := by decide +kernel
theorem dX6_differs_21 : decode cX6_differs 21 = .ok (.aload_n 0, 1) := by decide +kernel
theorem dX6_differs_22 : decode cX6_differs 22 = .ok (.getfield 10, 3) := by decide +kernel
theorem dX6_differs_25 : decode cX6_differs 25 = .ok (.getfield 49, 3) := by decide +kernel
theorem dX6_differs_28 : decode cX6_differs 28 = .ok (.if_icmp .ge 30, 3) := by decide +kernel
theorem dX6_differs_31 : decode cX6_differs 31 = .ok (.aload_n 0, 1) := by decide +kernel
theorem dX6_differs_32 : decode cX6_differs 32 = .ok (.getfield 18, 3) := by decide +kernel
theorem dX6_differs_35 : decode cX6_differs 35 = .ok (.iload_n 1, 1) := by decide +kernel
theorem dX6_differs_36 : decode cX6_differs 36 = .ok (.aaload, 1) := by decide +kernel
theorem dX6_differs_37 : decode cX6_differs 37 = .ok (.aload_n 0, 1) := by decide +kernel
theorem dX6_differs_38 : decode cX6_differs 38 = .ok (.getfield 18, 3) := by decide +kernel
theorem dX6_differs_41 : decode cX6_differs 41 = .ok (.iload_n 2, 1) := by decide +kernel
theorem dX6_differs_42 : decode cX6_differs 42 = .ok (.aaload, 1) := by decide +kernel
theorem dX6_differs_43 : decode cX6_differs 43 = .ok (.iload_n 3, 1) := by decide +kernel
theorem dX6_differs_44 : decode cX6_differs 44 = .ok (.invokevirtual 213, 3) := by decide +kernel
theorem dX6_differs_47 : decode cX6_differs 47 = .ok (.ifCond .ne 5, 3) := by decide +kernel
theorem dX6_differs_50 : decode cX6_differs 50 = .ok (.iload_n 3, 1) := by decide +kernel
theorem dX6_differs_51 : decode cX6_differs 51 = .ok (.ireturn, 1) := by decide +kernel
theorem dX6_differs_52 : decode cX6_differs 52 = .ok (.iinc 3 1, 3) := by decide +kernel
theorem dX6_differs_55 : decode cX6_differs 55 = .ok (.goto (-35), 3) := by decide +kernel
theorem dX6_differs_58 : decode cX6_differs 58 = .ok (.bipush (-6), 2) := by decide +kernel
theorem dX6_differs_60 : decode cX6_differs 60 = .ok (.ireturn, 1) := by decide +kernel
theorem dX6_isWorld_0 : decode cX6_isWorld 0 = .ok (.iload_n 1, 1) := by decide +kernel
theorem dX6_isWorld_1 : decode cX6_isWorld 1 = .ok (.ifCond .lt 15, 3) := by decide +kernel
theorem dX6_isWorld_4 : decode cX6_isWorld 4 = .ok (.iload_n 1, 1) := by decide +kernel
theorem dX6_isWorld_5 : decode cX6_isWorld 5 = .ok (.aload_n 0, 1) := by decide +kernel
theorem dX6_isWorld_6 : decode cX6_isWorld 6 = .ok (.getfield 22, 3) := by decide +kernel
theorem dX6_isWorld_9 : decode cX6_isWorld 9 = .ok (.if_icmp .ge 7, 3) := by decide +kernel
theorem dX6_isWorld_12 : decode cX6_isWorld 12 = .ok (.iconst 1, 1) := by decide +kernel
theorem dX6_isWorld_13 : decode cX6_isWorld 13 = .ok (.goto 4, 3) := by decide +kernel
theorem dX6_isWorld_16 : decode cX6_isWorld 16 = .ok (.iconst 0, 1) := by decide +kernel
theorem dX6_isWorld_17 : decode cX6_isWorld 17 = .ok (.ireturn, 1) := by decide +kernel
theorem dX6_isName_0 : decode cX6_isName 0 = .ok (.iload_n 0, 1) := by decide +kernel
theorem dX6_isName_1 : decode cX6_isName 1 = .ok (.ifCond .lt 13, 3) := by decide +kernel
theorem dX6_isName_4 : decode cX6_isName 4 = .ok (.iload_n 0, 1) := by decide +kernel
theorem dX6_isName_5 : decode cX6_isName 5 = .ok (.bipush 10, 2) := by decide +kernel
theorem dX6_isName_7 : decode cX6_isName 7 = .ok (.if_icmp .ge 7, 3) := by decide +kernel
theorem dX6_isName_10 : decode cX6_isName 10 = .ok (.iconst 1, 1) := by decide +kernel
theorem dX6_isName_11 : decode cX6_isName 11 = .ok (.goto 4, 3) := by decide +kernel
theorem dX6_isName_14 : decode cX6_isName 14 = .ok (.iconst 0, 1) := by decide +kernel
theorem dX6_isName_15 : decode cX6_isName 15 = .ok (.ireturn, 1) := by decide +kernel
theorem dX6_usesType_0 : decode cX6_usesType 0 = .ok (.iload_n 0, 1) := by decide +kernel
theorem dX6_usesType_1 : decode cX6_usesType 1 = .ok (.iconst 1, 1) := by decide +kernel
theorem dX6_usesType_2 : decode cX6_usesType 2 = .ok (.if_icmp .lt 13, 3) := by decide +kernel
theorem dX6_usesType_5 : decode cX6_usesType 5 = .ok (.iload_n 0, 1) := by decide +kernel
theorem dX6_usesType_6 : decode cX6_usesType 6 = .ok (.bipush 6, 2) := by decide +kernel
theorem dX6_usesType_8 : decode cX6_usesType 8 = .ok (.if_icmp .gt 7, 3) := by decide +kernel
theorem dX6_usesType_11 : decode cX6_usesType 11 = .ok (.iconst 1, 1) := by decide +kernel
theorem dX6_usesType_12 : decode cX6_usesType 12 = .ok (.goto 4, 3) := by decide +kernel
theorem dX6_usesType_15 : decode cX6_usesType 15 = .ok (.iconst 0, 1) := by decide +kernel
theorem dX6_usesType_16 : decode cX6_usesType 16 = .ok (.ireturn, 1) := by decide +kernel
theorem dX6_usesName_0 : decode cX6_usesName 0 = .ok (.iload_n 0, 1) := by decide +kernel
theorem dX6_usesName_1 : decode cX6_usesName 1 = .ok (.iconst 1, 1) := by decide +kernel
theorem dX6_usesName_2 : decode cX6_usesName 2 = .ok (.if_icmp .lt 12, 3) := by decide +kernel
theorem dX6_usesName_5 : decode cX6_usesName 5 = .ok (.iload_n 0, 1) := by decide +kernel
theorem dX6_usesName_6 : decode cX6_usesName 6 = .ok (.iconst 3, 1) := by decide +kernel
theorem dX6_usesName_7 : decode cX6_usesName 7 = .ok (.if_icmp .gt 7, 3) := by decide +kernel
theorem dX6_usesName_10 : decode cX6_usesName 10 = .ok (.iconst 1, 1) := by decide +kernel
theorem dX6_usesName_11 : decode cX6_usesName 11 = .ok (.goto 4, 3) := by decide +kernel
theorem dX6_usesName_14 : decode cX6_usesName 14 = .ok (.iconst 0, 1) := by decide +kernel
theorem dX6_usesName_15 : decode cX6_usesName 15 = .ok (.ireturn, 1) := by decide +kernel
theorem dX6_fitsValue_0 : decode cX6_fitsValue 0 = .ok (.iload_n 0, 1) := by decide +kernel
theorem dX6_fitsValue_1 : decode cX6_fitsValue 1 = .ok (.bipush 7, 2) := by decide +kernel
theorem dX6_fitsValue_3 : decode cX6_fitsValue 3 = .ok (.if_icmp .ne 19, 3) := by decide +kernel
theorem dX6_fitsValue_6 : decode cX6_fitsValue 6 = .ok (.iload_n 1, 1) := by decide +kernel
theorem dX6_fitsValue_7 : decode cX6_fitsValue 7 = .ok (.ifCond .lt 13, 3) := by decide +kernel
theorem dX6_fitsValue_10 : decode cX6_fitsValue 10 = .ok (.iload_n 1, 1) := by decide +kernel
theorem dX6_fitsValue_11 : decode cX6_fitsValue 11 = .ok (.bipush 20, 2) := by decide +kernel
theorem dX6_fitsValue_13 : decode cX6_fitsValue 13 = .ok (.if_icmp .ge 7, 3) := by decide +kernel
theorem dX6_fitsValue_16 : decode cX6_fitsValue 16 = .ok (.iconst 1, 1) := by decide +kernel
theorem dX6_fitsValue_17 : decode cX6_fitsValue 17 = .ok (.goto 4, 3) := by decide +kernel
theorem dX6_fitsValue_20 : decode cX6_fitsValue 20 = .ok (.iconst 0, 1) := by decide +kernel
theorem dX6_fitsValue_21 : decode cX6_fitsValue 21 = .ok (.ireturn, 1) := by decide +kernel
theorem dX6_fitsValue_22 : decode cX6_fitsValue 22 = .ok (.iload_n 0, 1) := by decide +kernel
theorem dX6_fitsValue_23 : decode cX6_fitsValue 23 = .ok (.bipush 8, 2) := by decide +kernel
theorem dX6_fitsValue_25 : decode cX6_fitsValue 25 = .ok (.if_icmp .ne 14, 3) := by decide +kernel
theorem dX6_fitsValue_28 : decode cX6_fitsValue 28 = .ok (.iload_n 1, 1) := by decide +kernel
theorem dX6_fitsValue_29 : decode cX6_fitsValue 29 = .ok (.iconst (-1), 1) := by decide +kernel
theorem dX6_fitsValue_30 : decode cX6_fitsValue 30 = .ok (.if_icmp .lt 13, 3) := by decide +kernel
theorem dX6_fitsValue_33 : decode cX6_fitsValue 33 = .ok (.iload_n 1, 1) := by decide +kernel
theorem dX6_fitsValue_34 : decode cX6_fitsValue 34 = .ok (.bipush 22, 2) := by decide +kernel
theorem dX6_fitsValue_36 : decode cX6_fitsValue 36 = .ok (.if_icmp .gt 7, 3) := by decide +kernel
theorem dX6_fitsValue_39 : decode cX6_fitsValue 39 = .ok (.iconst 1, 1) := by decide +kernel
theorem dX6_fitsValue_40 : decode cX6_fitsValue 40 = .ok (.goto 4, 3) := by decide +kernel
theorem dX6_fitsValue_43 : decode cX6_fitsValue 43 = .ok (.iconst 0, 1) := by decide +kernel
theorem dX6_fitsValue_44 : decode cX6_fitsValue 44 = .ok (.ireturn, 1) := by decide +kernel
theorem dJ9_max_7cf53_0 : decode cJ9_max_7cf53 0 = .ok (.iload_n 0, 1) := by decide +kernel
theorem dJ9_max_7cf53_1 : decode cJ9_max_7cf53 1 = .ok (.iload_n 1, 1) := by decide +kernel
theorem dJ9_max_7cf53_2 : decode cJ9_max_7cf53 2 = .ok (.if_icmp .lt 7, 3) := by decide +kernel
theorem dJ9_max_7cf53_5 : decode cJ9_max_7cf53 5 = .ok (.iload_n 0, 1) := by decide +kernel
theorem dJ9_max_7cf53_6 : decode cJ9_max_7cf53 6 = .ok (.goto 4, 3) := by decide +kernel
theorem dJ9_max_7cf53_9 : decode cJ9_max_7cf53 9 = .ok (.iload_n 1, 1) := by decide +kernel
theorem dJ9_max_7cf53_10 : decode cJ9_max_7cf53 10 = .ok (.ireturn, 1) := by decide +kernel
theorem dJ7_fill_53178_0 : decode cJ7_fill_53178 0 = .ok (.iconst 0, 1) := by decide +kernel
theorem dJ7_fill_53178_1 : decode cJ7_fill_53178 1 = .ok (.istore_n 2, 1) := by decide +kernel
theorem dJ7_fill_53178_2 : decode cJ7_fill_53178 2 = .ok (.aload_n 0, 1) := by decide +kernel
theorem dJ7_fill_53178_3 : decode cJ7_fill_53178 3 = .ok (.arraylength, 1) := by decide +kernel
theorem dJ7_fill_53178_4 : decode cJ7_fill_53178 4 = .ok (.istore_n 3, 1) := by decide +kernel
theorem dJ7_fill_53178_5 : decode cJ7_fill_53178 5 = .ok (.iload_n 2, 1) := by decide +kernel
theorem dJ7_fill_53178_6 : decode cJ7_fill_53178 6 = .ok (.iload_n 3, 1) := by decide +kernel
theorem dJ7_fill_53178_7 : decode cJ7_fill_53178 7 = .ok (.if_icmp .ge 13, 3) := by decide +kernel
theorem dJ7_fill_53178_10 : decode cJ7_fill_53178 10 = .ok (.aload_n 0, 1) := by decide +kernel
theorem dJ7_fill_53178_11 : decode cJ7_fill_53178 11 = .ok (.iload_n 2, 1) := by decide +kernel
theorem dJ7_fill_53178_12 : decode cJ7_fill_53178 12 = .ok (.iload_n 1, 1) := by decide +kernel
theorem dJ7_fill_53178_13 : decode cJ7_fill_53178 13 = .ok (.iastore, 1) := by decide +kernel
theorem dJ7_fill_53178_14 : decode cJ7_fill_53178 14 = .ok (.iinc 2 1, 3) := by decide +kernel
theorem dJ7_fill_53178_17 : decode cJ7_fill_53178 17 = .ok (.goto (-12), 3) := by decide +kernel
theorem dJ7_fill_53178_20 : decode cJ7_fill_53178 20 = .ok (.return_, 1) := by decide +kernel
theorem dL_law_0 : decode cL_law 0 = .ok (.new 7, 3) := by decide +kernel
theorem dL_law_3 : decode cL_law 3 = .ok (.dup, 1) := by decide +kernel
theorem dL_law_4 : decode cL_law 4 = .ok (.invokespecial 9, 3) := by decide +kernel
theorem dL_law_7 : decode cL_law 7 = .ok (.astore_n 1, 1) := by decide +kernel
theorem dL_law_8 : decode cL_law 8 = .ok (.new 10, 3) := by decide +kernel
theorem dL_law_11 : decode cL_law 11 = .ok (.dup, 1) := by decide +kernel
theorem dL_law_12 : decode cL_law 12 = .ok (.invokespecial 12, 3) := by decide +kernel
theorem dL_law_15 : decode cL_law 15 = .ok (.astore_n 2, 1) := by decide +kernel
theorem dL_law_16 : decode cL_law 16 = .ok (.iconst 0, 1) := by decide +kernel
theorem dL_law_17 : decode cL_law 17 = .ok (.istore_n 3, 1) := by decide +kernel
theorem dL_law_18 : decode cL_law 18 = .ok (.iload_n 3, 1) := by decide +kernel
theorem dL_law_19 : decode cL_law 19 = .ok (.aload_n 0, 1) := by decide +kernel
theorem dL_law_20 : decode cL_law 20 = .ok (.arraylength, 1) := by decide +kernel
theorem dL_law_21 : decode cL_law 21 = .ok (.bipush 7, 2) := by decide +kernel
theorem dL_law_23 : decode cL_law 23 = .ok (.isub, 1) := by decide +kernel
theorem dL_law_24 : decode cL_law 24 = .ok (.if_icmp .gt 1027, 3) := by decide +kernel
theorem dL_law_27 : decode cL_law 27 = .ok (.aload_n 0, 1) := by decide +kernel
theorem dL_law_28 : decode cL_law 28 = .ok (.iload_n 3, 1) := by decide +kernel
theorem dL_law_29 : decode cL_law 29 = .ok (.iaload, 1) := by decide +kernel
theorem dL_law_30 : decode cL_law 30 = .ok (.bipush 31, 2) := by decide +kernel
theorem dL_law_32 : decode cL_law 32 = .ok (.iand, 1) := by decide +kernel
theorem dL_law_33 : decode cL_law 33 = .ok (.tableswitch 1012 0 22 #[107, 156, 195, 228, 297, 330, 405, 438, 471, 530, 563, 586, 599, 612, 675, 738, 771, 804, 837, 880, 913, 946, 979], 107) := by decide +kernel
theorem dL_law_140 : decode cL_law 140 = .ok (.aload_n 1, 1) := by decide +kernel
theorem dL_law_141 : decode cL_law 141 = .ok (.aload_n 0, 1) := by decide +kernel
theorem dL_law_142 : decode cL_law 142 = .ok (.iload_n 3, 1) := by decide +kernel
theorem dL_law_143 : decode cL_law 143 = .ok (.iconst 1, 1) := by decide +kernel
theorem dL_law_144 : decode cL_law 144 = .ok (.iadd, 1) := by decide +kernel
theorem dL_law_145 : decode cL_law 145 = .ok (.iaload, 1) := by decide +kernel
theorem dL_law_146 : decode cL_law 146 = .ok (.aload_n 0, 1) := by decide +kernel
theorem dL_law_147 : decode cL_law 147 = .ok (.iload_n 3, 1) := by decide +kernel
theorem dL_law_148 : decode cL_law 148 = .ok (.iconst 2, 1) := by decide +kernel
theorem dL_law_149 : decode cL_law 149 = .ok (.iadd, 1) := by decide +kernel
theorem dL_law_150 : decode cL_law 150 = .ok (.iaload, 1) := by decide +kernel
theorem dL_law_151 : decode cL_law 151 = .ok (.ifCond .eq 7, 3) := by decide +kernel
theorem dL_law_154 : decode cL_law 154 = .ok (.iconst 1, 1) := by decide +kernel
theorem dL_law_155 : decode cL_law 155 = .ok (.goto 4, 3) := by decide +kernel
theorem dL_law_158 : decode cL_law 158 = .ok (.iconst 0, 1) := by decide +kernel
theorem dL_law_159 : decode cL_law 159 = .ok (.invokevirtual 13, 3) := by decide +kernel
theorem dL_law_162 : decode cL_law 162 = .ok (.pop, 1) := by decide +kernel
theorem dL_law_163 : decode cL_law 163 = .ok (.aload_n 2, 1) := by decide +kernel
theorem dL_law_164 : decode cL_law 164 = .ok (.aload_n 0, 1) := by decide +kernel
theorem dL_law_165 : decode cL_law 165 = .ok (.iload_n 3, 1) := by decide +kernel
theorem dL_law_166 : decode cL_law 166 = .ok (.iconst 1, 1) := by decide +kernel
theorem dL_law_167 : decode cL_law 167 = .ok (.iadd, 1) := by decide +kernel
theorem dL_law_168 : decode cL_law 168 = .ok (.iaload, 1) := by decide +kernel
theorem dL_law_169 : decode cL_law 169 = .ok (.aload_n 0, 1) := by decide +kernel
theorem dL_law_170 : decode cL_law 170 = .ok (.iload_n 3, 1) := by decide +kernel
theorem dL_law_171 : decode cL_law 171 = .ok (.iconst 2, 1) := by decide +kernel
theorem dL_law_172 : decode cL_law 172 = .ok (.iadd, 1) := by decide +kernel
theorem dL_law_173 : decode cL_law 173 = .ok (.iaload, 1) := by decide +kernel
theorem dL_law_174 : decode cL_law 174 = .ok (.ifCond .eq 7, 3) := by decide +kernel
theorem dL_law_177 : decode cL_law 177 = .ok (.iconst 1, 1) := by decide +kernel
theorem dL_law_178 : decode cL_law 178 = .ok (.goto 4, 3) := by decide +kernel
theorem dL_law_181 : decode cL_law 181 = .ok (.iconst 0, 1) := by decide +kernel
theorem dL_law_182 : decode cL_law 182 = .ok (.invokevirtual 17, 3) := by decide +kernel
theorem dL_law_185 : decode cL_law 185 = .ok (.pop, 1) := by decide +kernel
theorem dL_law_186 : decode cL_law 186 = .ok (.goto 859, 3) := by decide +kernel
theorem dL_law_189 : decode cL_law 189 = .ok (.aload_n 1, 1) := by decide +kernel
theorem dL_law_190 : decode cL_law 190 = .ok (.aload_n 0, 1) := by decide +kernel
theorem dL_law_191 : decode cL_law 191 = .ok (.iload_n 3, 1) := by decide +kernel
theorem dL_law_192 : decode cL_law 192 = .ok (.iconst 1, 1) := by decide +kernel
theorem dL_law_193 : decode cL_law 193 = .ok (.iadd, 1) := by decide +kernel
theorem dL_law_194 : decode cL_law 194 = .ok (.iaload, 1) := by decide +kernel
theorem dL_law_195 : decode cL_law 195 = .ok (.ifCond .eq 7, 3) := by decide +kernel
theorem dL_law_198 : decode cL_law 198 = .ok (.iconst 1, 1) := by decide +kernel
theorem dL_law_199 : decode cL_law 199 = .ok (.goto 4, 3) := by decide +kernel
theorem dL_law_202 : decode cL_law 202 = .ok (.iconst 0, 1) := by decide +kernel
theorem dL_law_203 : decode cL_law 203 = .ok (.invokevirtual 18, 3) := by decide +kernel
theorem dL_law_206 : decode cL_law 206 = .ok (.pop, 1) := by decide +kernel
theorem dL_law_207 : decode cL_law 207 = .ok (.aload_n 2, 1) := by decide +kernel
theorem dL_law_208 : decode cL_law 208 = .ok (.aload_n 0, 1) := by decide +kernel
theorem dL_law_209 : decode cL_law 209 = .ok (.iload_n 3, 1) := by decide +kernel
theorem dL_law_210 : decode cL_law 210 = .ok (.iconst 1, 1) := by decide +kernel
theorem dL_law_211 : decode cL_law 211 = .ok (.iadd, 1) := by decide +kernel
theorem dL_law_212 : decode cL_law 212 = .ok (.iaload, 1) := by decide +kernel
theorem dL_law_213 : decode cL_law 213 = .ok (.ifCond .eq 7, 3) := by decide +kernel
theorem dL_law_216 : decode cL_law 216 = .ok (.iconst 1, 1) := by decide +kernel
theorem dL_law_217 : decode cL_law 217 = .ok (.goto 4, 3) := by decide +kernel
theorem dL_law_220 : decode cL_law 220 = .ok (.iconst 0, 1) := by decide +kernel
theorem dL_law_221 : decode cL_law 221 = .ok (.invokevirtual 22, 3) := by decide +kernel
theorem dL_law_224 : decode cL_law 224 = .ok (.pop, 1) := by decide +kernel
theorem dL_law_225 : decode cL_law 225 = .ok (.goto 820, 3) := by decide +kernel
theorem dL_law_228 : decode cL_law 228 = .ok (.aload_n 1, 1) := by decide +kernel
theorem dL_law_229 : decode cL_law 229 = .ok (.aload_n 0, 1) := by decide +kernel
theorem dL_law_230 : decode cL_law 230 = .ok (.iload_n 3, 1) := by decide +kernel
theorem dL_law_231 : decode cL_law 231 = .ok (.iconst 1, 1) := by decide +kernel
theorem dL_law_232 : decode cL_law 232 = .ok (.iadd, 1) := by decide +kernel
theorem dL_law_233 : decode cL_law 233 = .ok (.iaload, 1) := by decide +kernel
theorem dL_law_234 : decode cL_law 234 = .ok (.aload_n 0, 1) := by decide +kernel
theorem dL_law_235 : decode cL_law 235 = .ok (.iload_n 3, 1) := by decide +kernel
theorem dL_law_236 : decode cL_law 236 = .ok (.iconst 2, 1) := by decide +kernel
theorem dL_law_237 : decode cL_law 237 = .ok (.iadd, 1) := by decide +kernel
theorem dL_law_238 : decode cL_law 238 = .ok (.iaload, 1) := by decide +kernel
theorem dL_law_239 : decode cL_law 239 = .ok (.invokevirtual 23, 3) := by decide +kernel
theorem dL_law_242 : decode cL_law 242 = .ok (.pop, 1) := by decide +kernel
theorem dL_law_243 : decode cL_law 243 = .ok (.aload_n 2, 1) := by decide +kernel
theorem dL_law_244 : decode cL_law 244 = .ok (.aload_n 0, 1) := by decide +kernel
theorem dL_law_245 : decode cL_law 245 = .ok (.iload_n 3, 1) := by decide +kernel
theorem dL_law_246 : decode cL_law 246 = .ok (.iconst 1, 1) := by decide +kernel
theorem dL_law_247 : decode cL_law 247 = .ok (.iadd, 1) := by decide +kernel
theorem dL_law_248 : decode cL_law 248 = .ok (.iaload, 1) := by decide +kernel
theorem dL_law_249 : decode cL_law 249 = .ok (.aload_n 0, 1) := by decide +kernel
theorem dL_law_250 : decode cL_law 250 = .ok (.iload_n 3, 1) := by decide +kernel
theorem dL_law_251 : decode cL_law 251 = .ok (.iconst 2, 1) := by decide +kernel
theorem dL_law_252 : decode cL_law 252 = .ok (.iadd, 1) := by decide +kernel
theorem dL_law_253 : decode cL_law 253 = .ok (.iaload, 1) := by decide +kernel
theorem dL_law_254 : decode cL_law 254 = .ok (.invokevirtual 27, 3) := by decide +kernel
theorem dL_law_257 : decode cL_law 257 = .ok (.pop, 1) := by decide +kernel
theorem dL_law_258 : decode cL_law 258 = .ok (.goto 787, 3) := by decide +kernel
theorem dL_law_261 : decode cL_law 261 = .ok (.aload_n 1, 1) := by decide +kernel
theorem dL_law_262 : decode cL_law 262 = .ok (.aload_n 0, 1) := by decide +kernel
theorem dL_law_263 : decode cL_law 263 = .ok (.iload_n 3, 1) := by decide +kernel
theorem dL_law_264 : decode cL_law 264 = .ok (.iconst 1, 1) := by decide +kernel
theorem dL_law_265 : decode cL_law 265 = .ok (.iadd, 1) := by decide +kernel
theorem dL_law_266 : decode cL_law 266 = .ok (.iaload, 1) := by decide +kernel
theorem dL_law_267 : decode cL_law 267 = .ok (.aload_n 0, 1) := by decide +kernel
theorem dL_law_268 : decode cL_law 268 = .ok (.iload_n 3, 1) := by decide +kernel
theorem dL_law_269 : decode cL_law 269 = .ok (.iconst 2, 1) := by decide +kernel
theorem dL_law_270 : decode cL_law 270 = .ok (.iadd, 1) := by decide +kernel
theorem dL_law_271 : decode cL_law 271 = .ok (.iaload, 1) := by decide +kernel
theorem dL_law_272 : decode cL_law 272 = .ok (.aload_n 0, 1) := by decide +kernel
theorem dL_law_273 : decode cL_law 273 = .ok (.iload_n 3, 1) := by decide +kernel
theorem dL_law_274 : decode cL_law 274 = .ok (.iconst 3, 1) := by decide +kernel
theorem dL_law_275 : decode cL_law 275 = .ok (.iadd, 1) := by decide +kernel
theorem dL_law_276 : decode cL_law 276 = .ok (.iaload, 1) := by decide +kernel
theorem dL_law_277 : decode cL_law 277 = .ok (.ifCond .eq 7, 3) := by decide +kernel
theorem dL_law_280 : decode cL_law 280 = .ok (.iconst 1, 1) := by decide +kernel
theorem dL_law_281 : decode cL_law 281 = .ok (.goto 4, 3) := by decide +kernel
theorem dL_law_284 : decode cL_law 284 = .ok (.iconst 0, 1) := by decide +kernel
theorem dL_law_285 : decode cL_law 285 = .ok (.aload_n 0, 1) := by decide +kernel
theorem dL_law_286 : decode cL_law 286 = .ok (.iload_n 3, 1) := by decide +kernel
theorem dL_law_287 : decode cL_law 287 = .ok (.iconst 4, 1) := by decide +kernel
theorem dL_law_288 : decode cL_law 288 = .ok (.iadd, 1) := by decide +kernel
theorem dL_law_289 : decode cL_law 289 = .ok (.iaload, 1) := by decide +kernel
theorem dL_law_290 : decode cL_law 290 = .ok (.invokevirtual 28, 3) := by decide +kernel
theorem dL_law_293 : decode cL_law 293 = .ok (.pop, 1) := by decide +kernel
theorem dL_law_294 : decode cL_law 294 = .ok (.aload_n 2, 1) := by decide +kernel
theorem dL_law_295 : decode cL_law 295 = .ok (.aload_n 0, 1) := by decide +kernel
theorem dL_law_296 : decode cL_law 296 = .ok (.iload_n 3, 1) := by decide +kernel
theorem dL_law_297 : decode cL_law 297 = .ok (.iconst 1, 1) := by decide +kernel
theorem dL_law_298 : decode cL_law 298 = .ok (.iadd, 1) := by decide +kernel
theorem dL_law_299 : decode cL_law 299 = .ok (.iaload, 1) := by decide +kernel
theorem dL_law_300 : decode cL_law 300 = .ok (.aload_n 0, 1) := by decide +kernel
theorem dL_law_301 : decode cL_law 301 = .ok (.iload_n 3, 1) := by decide +kernel
theorem dL_law_302 : decode cL_law 302 = .ok (.iconst 2, 1) := by decide +kernel
theorem dL_law_303 : decode cL_law 303 = .ok (.iadd, 1) := by decide +kernel
theorem dL_law_304 : decode cL_law 304 = .ok (.iaload, 1) := by decide +kernel
theorem dL_law_305 : decode cL_law 305 = .ok (.aload_n 0, 1) := by decide +kernel
theorem dL_law_306 : decode cL_law 306 = .ok (.iload_n 3, 1) := by decide +kernel
theorem dL_law_307 : decode cL_law 307 = .ok (.iconst 3, 1) := by decide +kernel
theorem dL_law_308 : decode cL_law 308 = .ok (.iadd, 1) := by decide +kernel
theorem dL_law_309 : decode cL_law 309 = .ok (.iaload, 1) := by decide +kernel
theorem dL_law_310 : decode cL_law 310 = .ok (.ifCond .eq 7, 3) := by decide +kernel
theorem dL_law_313 : decode cL_law 313 = .ok (.iconst 1, 1) := by decide +kernel
theorem dL_law_314 : decode cL_law 314 = .ok (.goto 4, 3) := by decide +kernel
theorem dL_law_317 : decode cL_law 317 = .ok (.iconst 0, 1) := by decide +kernel
theorem dL_law_318 : decode cL_law 318 = .ok (.aload_n 0, 1) := by decide +kernel
theorem dL_law_319 : decode cL_law 319 = .ok (.iload_n 3, 1) := by decide +kernel
theorem dL_law_320 : decode cL_law 320 = .ok (.iconst 4, 1) := by decide +kernel
theorem dL_law_321 : decode cL_law 321 = .ok (.iadd, 1) := by decide +kernel
theorem dL_law_322 : decode cL_law 322 = .ok (.iaload, 1) := by decide +kernel
theorem dL_law_323 : decode cL_law 323 = .ok (.invokevirtual 32, 3) := by decide +kernel
theorem dL_law_326 : decode cL_law 326 = .ok (.pop, 1) := by decide +kernel
theorem dL_law_327 : decode cL_law 327 = .ok (.goto 718, 3) := by decide +kernel
theorem dL_law_330 : decode cL_law 330 = .ok (.aload_n 1, 1) := by decide +kernel
theorem dL_law_331 : decode cL_law 331 = .ok (.aload_n 0, 1) := by decide +kernel
theorem dL_law_332 : decode cL_law 332 = .ok (.iload_n 3, 1) := by decide +kernel
theorem dL_law_333 : decode cL_law 333 = .ok (.iconst 1, 1) := by decide +kernel
theorem dL_law_334 : decode cL_law 334 = .ok (.iadd, 1) := by decide +kernel
theorem dL_law_335 : decode cL_law 335 = .ok (.iaload, 1) := by decide +kernel
theorem dL_law_336 : decode cL_law 336 = .ok (.aload_n 0, 1) := by decide +kernel
theorem dL_law_337 : decode cL_law 337 = .ok (.iload_n 3, 1) := by decide +kernel
theorem dL_law_338 : decode cL_law 338 = .ok (.iconst 2, 1) := by decide +kernel
theorem dL_law_339 : decode cL_law 339 = .ok (.iadd, 1) := by decide +kernel
theorem dL_law_340 : decode cL_law 340 = .ok (.iaload, 1) := by decide +kernel
theorem dL_law_341 : decode cL_law 341 = .ok (.invokevirtual 33, 3) := by decide +kernel
theorem dL_law_344 : decode cL_law 344 = .ok (.pop, 1) := by decide +kernel
theorem dL_law_345 : decode cL_law 345 = .ok (.aload_n 2, 1) := by decide +kernel
theorem dL_law_346 : decode cL_law 346 = .ok (.aload_n 0, 1) := by decide +kernel
theorem dL_law_347 : decode cL_law 347 = .ok (.iload_n 3, 1) := by decide +kernel
theorem dL_law_348 : decode cL_law 348 = .ok (.iconst 1, 1) := by decide +kernel
theorem dL_law_349 : decode cL_law 349 = .ok (.iadd, 1) := by decide +kernel
theorem dL_law_350 : decode cL_law 350 = .ok (.iaload, 1) := by decide +kernel
theorem dL_law_351 : decode cL_law 351 = .ok (.aload_n 0, 1) := by decide +kernel
theorem dL_law_352 : decode cL_law 352 = .ok (.iload_n 3, 1) := by decide +kernel
theorem dL_law_353 : decode cL_law 353 = .ok (.iconst 2, 1) := by decide +kernel
theorem dL_law_354 : decode cL_law 354 = .ok (.iadd, 1) := by decide +kernel
theorem dL_law_355 : decode cL_law 355 = .ok (.iaload, 1) := by decide +kernel
theorem dL_law_356 : decode cL_law 356 = .ok (.invokevirtual 36, 3) := by decide +kernel
theorem dL_law_359 : decode cL_law 359 = .ok (.pop, 1) := by decide +kernel
theorem dL_law_360 : decode cL_law 360 = .ok (.goto 685, 3) := by decide +kernel
theorem dL_law_363 : decode cL_law 363 = .ok (.aload_n 1, 1) := by decide +kernel
theorem dL_law_364 : decode cL_law 364 = .ok (.aload_n 0, 1) := by decide +kernel
theorem dL_law_365 : decode cL_law 365 = .ok (.iload_n 3, 1) := by decide +kernel
theorem dL_law_366 : decode cL_law 366 = .ok (.iconst 1, 1) := by decide +kernel
theorem dL_law_367 : decode cL_law 367 = .ok (.iadd, 1) := by decide +kernel
theorem dL_law_368 : decode cL_law 368 = .ok (.iaload, 1) := by decide +kernel
theorem dL_law_369 : decode cL_law 369 = .ok (.aload_n 0, 1) := by decide +kernel
theorem dL_law_370 : decode cL_law 370 = .ok (.iload_n 3, 1) := by decide +kernel
theorem dL_law_371 : decode cL_law 371 = .ok (.iconst 2, 1) := by decide +kernel
theorem dL_law_372 : decode cL_law 372 = .ok (.iadd, 1) := by decide +kernel
theorem dL_law_373 : decode cL_law 373 = .ok (.iaload, 1) := by decide +kernel
theorem dL_law_374 : decode cL_law 374 = .ok (.aload_n 0, 1) := by decide +kernel
theorem dL_law_375 : decode cL_law 375 = .ok (.iload_n 3, 1) := by decide +kernel
theorem dL_law_376 : decode cL_law 376 = .ok (.iconst 3, 1) := by decide +kernel
theorem dL_law_377 : decode cL_law 377 = .ok (.iadd, 1) := by decide +kernel
theorem dL_law_378 : decode cL_law 378 = .ok (.iaload, 1) := by decide +kernel
theorem dL_law_379 : decode cL_law 379 = .ok (.aload_n 0, 1) := by decide +kernel
theorem dL_law_380 : decode cL_law 380 = .ok (.iload_n 3, 1) := by decide +kernel
theorem dL_law_381 : decode cL_law 381 = .ok (.iconst 4, 1) := by decide +kernel
theorem dL_law_382 : decode cL_law 382 = .ok (.iadd, 1) := by decide +kernel
theorem dL_law_383 : decode cL_law 383 = .ok (.iaload, 1) := by decide +kernel
theorem dL_law_384 : decode cL_law 384 = .ok (.aload_n 0, 1) := by decide +kernel
theorem dL_law_385 : decode cL_law 385 = .ok (.iload_n 3, 1) := by decide +kernel
theorem dL_law_386 : decode cL_law 386 = .ok (.iconst 5, 1) := by decide +kernel
theorem dL_law_387 : decode cL_law 387 = .ok (.iadd, 1) := by decide +kernel
theorem dL_law_388 : decode cL_law 388 = .ok (.iaload, 1) := by decide +kernel
theorem dL_law_389 : decode cL_law 389 = .ok (.aload_n 0, 1) := by decide +kernel
theorem dL_law_390 : decode cL_law 390 = .ok (.iload_n 3, 1) := by decide +kernel
theorem dL_law_391 : decode cL_law 391 = .ok (.bipush 6, 2) := by decide +kernel
theorem dL_law_393 : decode cL_law 393 = .ok (.iadd, 1) := by decide +kernel
theorem dL_law_394 : decode cL_law 394 = .ok (.iaload, 1) := by decide +kernel
theorem dL_law_395 : decode cL_law 395 = .ok (.invokevirtual 37, 3) := by decide +kernel
theorem dL_law_398 : decode cL_law 398 = .ok (.pop, 1) := by decide +kernel
theorem dL_law_399 : decode cL_law 399 = .ok (.aload_n 2, 1) := by decide +kernel
theorem dL_law_400 : decode cL_law 400 = .ok (.aload_n 0, 1) := by decide +kernel
theorem dL_law_401 : decode cL_law 401 = .ok (.iload_n 3, 1) := by decide +kernel
theorem dL_law_402 : decode cL_law 402 = .ok (.iconst 1, 1) := by decide +kernel
theorem dL_law_403 : decode cL_law 403 = .ok (.iadd, 1) := by decide +kernel
theorem dL_law_404 : decode cL_law 404 = .ok (.iaload, 1) := by decide +kernel
theorem dL_law_405 : decode cL_law 405 = .ok (.aload_n 0, 1) := by decide +kernel
theorem dL_law_406 : decode cL_law 406 = .ok (.iload_n 3, 1) := by decide +kernel
theorem dL_law_407 : decode cL_law 407 = .ok (.iconst 2, 1) := by decide +kernel
theorem dL_law_408 : decode cL_law 408 = .ok (.iadd, 1) := by decide +kernel
theorem dL_law_409 : decode cL_law 409 = .ok (.iaload, 1) := by decide +kernel
theorem dL_law_410 : decode cL_law 410 = .ok (.aload_n 0, 1) := by decide +kernel
theorem dL_law_411 : decode cL_law 411 = .ok (.iload_n 3, 1) := by decide +kernel
theorem dL_law_412 : decode cL_law 412 = .ok (.iconst 3, 1) := by decide +kernel
theorem dL_law_413 : decode cL_law 413 = .ok (.iadd, 1) := by decide +kernel
theorem dL_law_414 : decode cL_law 414 = .ok (.iaload, 1) := by decide +kernel
theorem dL_law_415 : decode cL_law 415 = .ok (.aload_n 0, 1) := by decide +kernel
theorem dL_law_416 : decode cL_law 416 = .ok (.iload_n 3, 1) := by decide +kernel
theorem dL_law_417 : decode cL_law 417 = .ok (.iconst 4, 1) := by decide +kernel
theorem dL_law_418 : decode cL_law 418 = .ok (.iadd, 1) := by decide +kernel
theorem dL_law_419 : decode cL_law 419 = .ok (.iaload, 1) := by decide +kernel
theorem dL_law_420 : decode cL_law 420 = .ok (.aload_n 0, 1) := by decide +kernel
theorem dL_law_421 : decode cL_law 421 = .ok (.iload_n 3, 1) := by decide +kernel
theorem dL_law_422 : decode cL_law 422 = .ok (.iconst 5, 1) := by decide +kernel
theorem dL_law_423 : decode cL_law 423 = .ok (.iadd, 1) := by decide +kernel
theorem dL_law_424 : decode cL_law 424 = .ok (.iaload, 1) := by decide +kernel
theorem dL_law_425 : decode cL_law 425 = .ok (.aload_n 0, 1) := by decide +kernel
theorem dL_law_426 : decode cL_law 426 = .ok (.iload_n 3, 1) := by decide +kernel
theorem dL_law_427 : decode cL_law 427 = .ok (.bipush 6, 2) := by decide +kernel
theorem dL_law_429 : decode cL_law 429 = .ok (.iadd, 1) := by decide +kernel
theorem dL_law_430 : decode cL_law 430 = .ok (.iaload, 1) := by decide +kernel
theorem dL_law_431 : decode cL_law 431 = .ok (.invokevirtual 41, 3) := by decide +kernel
theorem dL_law_434 : decode cL_law 434 = .ok (.pop, 1) := by decide +kernel
theorem dL_law_435 : decode cL_law 435 = .ok (.goto 610, 3) := by decide +kernel
theorem dL_law_438 : decode cL_law 438 = .ok (.aload_n 1, 1) := by decide +kernel
theorem dL_law_439 : decode cL_law 439 = .ok (.aload_n 0, 1) := by decide +kernel
theorem dL_law_440 : decode cL_law 440 = .ok (.iload_n 3, 1) := by decide +kernel
theorem dL_law_441 : decode cL_law 441 = .ok (.iconst 1, 1) := by decide +kernel
theorem dL_law_442 : decode cL_law 442 = .ok (.iadd, 1) := by decide +kernel
theorem dL_law_443 : decode cL_law 443 = .ok (.iaload, 1) := by decide +kernel
theorem dL_law_444 : decode cL_law 444 = .ok (.aload_n 0, 1) := by decide +kernel
theorem dL_law_445 : decode cL_law 445 = .ok (.iload_n 3, 1) := by decide +kernel
theorem dL_law_446 : decode cL_law 446 = .ok (.iconst 2, 1) := by decide +kernel
theorem dL_law_447 : decode cL_law 447 = .ok (.iadd, 1) := by decide +kernel
theorem dL_law_448 : decode cL_law 448 = .ok (.iaload, 1) := by decide +kernel
theorem dL_law_449 : decode cL_law 449 = .ok (.invokevirtual 42, 3) := by decide +kernel
theorem dL_law_452 : decode cL_law 452 = .ok (.pop, 1) := by decide +kernel
theorem dL_law_453 : decode cL_law 453 = .ok (.aload_n 2, 1) := by decide +kernel
theorem dL_law_454 : decode cL_law 454 = .ok (.aload_n 0, 1) := by decide +kernel
theorem dL_law_455 : decode cL_law 455 = .ok (.iload_n 3, 1) := by decide +kernel
theorem dL_law_456 : decode cL_law 456 = .ok (.iconst 1, 1) := by decide +kernel
theorem dL_law_457 : decode cL_law 457 = .ok (.iadd, 1) := by decide +kernel
theorem dL_law_458 : decode cL_law 458 = .ok (.iaload, 1) := by decide +kernel
theorem dL_law_459 : decode cL_law 459 = .ok (.aload_n 0, 1) := by decide +kernel
theorem dL_law_460 : decode cL_law 460 = .ok (.iload_n 3, 1) := by decide +kernel
theorem dL_law_461 : decode cL_law 461 = .ok (.iconst 2, 1) := by decide +kernel
theorem dL_law_462 : decode cL_law 462 = .ok (.iadd, 1) := by decide +kernel
theorem dL_law_463 : decode cL_law 463 = .ok (.iaload, 1) := by decide +kernel
theorem dL_law_464 : decode cL_law 464 = .ok (.invokevirtual 45, 3) := by decide +kernel
theorem dL_law_467 : decode cL_law 467 = .ok (.pop, 1) := by decide +kernel
theorem dL_law_468 : decode cL_law 468 = .ok (.goto 577, 3) := by decide +kernel
theorem dL_law_471 : decode cL_law 471 = .ok (.aload_n 1, 1) := by decide +kernel
theorem dL_law_472 : decode cL_law 472 = .ok (.aload_n 0, 1) := by decide +kernel
theorem dL_law_473 : decode cL_law 473 = .ok (.iload_n 3, 1) := by decide +kernel
theorem dL_law_474 : decode cL_law 474 = .ok (.iconst 1, 1) := by decide +kernel
theorem dL_law_475 : decode cL_law 475 = .ok (.iadd, 1) := by decide +kernel
theorem dL_law_476 : decode cL_law 476 = .ok (.iaload, 1) := by decide +kernel
theorem dL_law_477 : decode cL_law 477 = .ok (.aload_n 0, 1) := by decide +kernel
theorem dL_law_478 : decode cL_law 478 = .ok (.iload_n 3, 1) := by decide +kernel
theorem dL_law_479 : decode cL_law 479 = .ok (.iconst 2, 1) := by decide +kernel
theorem dL_law_480 : decode cL_law 480 = .ok (.iadd, 1) := by decide +kernel
theorem dL_law_481 : decode cL_law 481 = .ok (.iaload, 1) := by decide +kernel
theorem dL_law_482 : decode cL_law 482 = .ok (.invokevirtual 46, 3) := by decide +kernel
theorem dL_law_485 : decode cL_law 485 = .ok (.pop, 1) := by decide +kernel
theorem dL_law_486 : decode cL_law 486 = .ok (.aload_n 2, 1) := by decide +kernel
theorem dL_law_487 : decode cL_law 487 = .ok (.aload_n 0, 1) := by decide +kernel
theorem dL_law_488 : decode cL_law 488 = .ok (.iload_n 3, 1) := by decide +kernel
theorem dL_law_489 : decode cL_law 489 = .ok (.iconst 1, 1) := by decide +kernel
theorem dL_law_490 : decode cL_law 490 = .ok (.iadd, 1) := by decide +kernel
theorem dL_law_491 : decode cL_law 491 = .ok (.iaload, 1) := by decide +kernel
theorem dL_law_492 : decode cL_law 492 = .ok (.aload_n 0, 1) := by decide +kernel
theorem dL_law_493 : decode cL_law 493 = .ok (.iload_n 3, 1) := by decide +kernel
theorem dL_law_494 : decode cL_law 494 = .ok (.iconst 2, 1) := by decide +kernel
theorem dL_law_495 : decode cL_law 495 = .ok (.iadd, 1) := by decide +kernel
theorem dL_law_496 : decode cL_law 496 = .ok (.iaload, 1) := by decide +kernel
theorem dL_law_497 : decode cL_law 497 = .ok (.invokevirtual 49, 3) := by decide +kernel
theorem dL_law_500 : decode cL_law 500 = .ok (.pop, 1) := by decide +kernel
theorem dL_law_501 : decode cL_law 501 = .ok (.goto 544, 3) := by decide +kernel
theorem dL_law_504 : decode cL_law 504 = .ok (.aload_n 1, 1) := by decide +kernel
theorem dL_law_505 : decode cL_law 505 = .ok (.aload_n 0, 1) := by decide +kernel
theorem dL_law_506 : decode cL_law 506 = .ok (.iload_n 3, 1) := by decide +kernel
theorem dL_law_507 : decode cL_law 507 = .ok (.iconst 1, 1) := by decide +kernel
theorem dL_law_508 : decode cL_law 508 = .ok (.iadd, 1) := by decide +kernel
theorem dL_law_509 : decode cL_law 509 = .ok (.iaload, 1) := by decide +kernel
theorem dL_law_510 : decode cL_law 510 = .ok (.aload_n 0, 1) := by decide +kernel
theorem dL_law_511 : decode cL_law 511 = .ok (.iload_n 3, 1) := by decide +kernel
theorem dL_law_512 : decode cL_law 512 = .ok (.iconst 2, 1) := by decide +kernel
theorem dL_law_513 : decode cL_law 513 = .ok (.iadd, 1) := by decide +kernel
theorem dL_law_514 : decode cL_law 514 = .ok (.iaload, 1) := by decide +kernel
theorem dL_law_515 : decode cL_law 515 = .ok (.aload_n 0, 1) := by decide +kernel
theorem dL_law_516 : decode cL_law 516 = .ok (.iload_n 3, 1) := by decide +kernel
theorem dL_law_517 : decode cL_law 517 = .ok (.iconst 3, 1) := by decide +kernel
theorem dL_law_518 : decode cL_law 518 = .ok (.iadd, 1) := by decide +kernel
theorem dL_law_519 : decode cL_law 519 = .ok (.iaload, 1) := by decide +kernel
theorem dL_law_520 : decode cL_law 520 = .ok (.ifCond .eq 7, 3) := by decide +kernel
theorem dL_law_523 : decode cL_law 523 = .ok (.iconst 1, 1) := by decide +kernel
theorem dL_law_524 : decode cL_law 524 = .ok (.goto 4, 3) := by decide +kernel
theorem dL_law_527 : decode cL_law 527 = .ok (.iconst 0, 1) := by decide +kernel
theorem dL_law_528 : decode cL_law 528 = .ok (.invokevirtual 50, 3) := by decide +kernel
theorem dL_law_531 : decode cL_law 531 = .ok (.pop, 1) := by decide +kernel
theorem dL_law_532 : decode cL_law 532 = .ok (.aload_n 2, 1) := by decide +kernel
theorem dL_law_533 : decode cL_law 533 = .ok (.aload_n 0, 1) := by decide +kernel
theorem dL_law_534 : decode cL_law 534 = .ok (.iload_n 3, 1) := by decide +kernel
theorem dL_law_535 : decode cL_law 535 = .ok (.iconst 1, 1) := by decide +kernel
theorem dL_law_536 : decode cL_law 536 = .ok (.iadd, 1) := by decide +kernel
theorem dL_law_537 : decode cL_law 537 = .ok (.iaload, 1) := by decide +kernel
theorem dL_law_538 : decode cL_law 538 = .ok (.aload_n 0, 1) := by decide +kernel
theorem dL_law_539 : decode cL_law 539 = .ok (.iload_n 3, 1) := by decide +kernel
theorem dL_law_540 : decode cL_law 540 = .ok (.iconst 2, 1) := by decide +kernel
theorem dL_law_541 : decode cL_law 541 = .ok (.iadd, 1) := by decide +kernel
theorem dL_law_542 : decode cL_law 542 = .ok (.iaload, 1) := by decide +kernel
theorem dL_law_543 : decode cL_law 543 = .ok (.aload_n 0, 1) := by decide +kernel
theorem dL_law_544 : decode cL_law 544 = .ok (.iload_n 3, 1) := by decide +kernel
theorem dL_law_545 : decode cL_law 545 = .ok (.iconst 3, 1) := by decide +kernel
theorem dL_law_546 : decode cL_law 546 = .ok (.iadd, 1) := by decide +kernel
theorem dL_law_547 : decode cL_law 547 = .ok (.iaload, 1) := by decide +kernel
theorem dL_law_548 : decode cL_law 548 = .ok (.ifCond .eq 7, 3) := by decide +kernel
theorem dL_law_551 : decode cL_law 551 = .ok (.iconst 1, 1) := by decide +kernel
theorem dL_law_552 : decode cL_law 552 = .ok (.goto 4, 3) := by decide +kernel
theorem dL_law_555 : decode cL_law 555 = .ok (.iconst 0, 1) := by decide +kernel
theorem dL_law_556 : decode cL_law 556 = .ok (.invokevirtual 54, 3) := by decide +kernel
theorem dL_law_559 : decode cL_law 559 = .ok (.pop, 1) := by decide +kernel
theorem dL_law_560 : decode cL_law 560 = .ok (.goto 485, 3) := by decide +kernel
theorem dL_law_563 : decode cL_law 563 = .ok (.aload_n 1, 1) := by decide +kernel
theorem dL_law_564 : decode cL_law 564 = .ok (.aload_n 0, 1) := by decide +kernel
theorem dL_law_565 : decode cL_law 565 = .ok (.iload_n 3, 1) := by decide +kernel
theorem dL_law_566 : decode cL_law 566 = .ok (.iconst 1, 1) := by decide +kernel
theorem dL_law_567 : decode cL_law 567 = .ok (.iadd, 1) := by decide +kernel
theorem dL_law_568 : decode cL_law 568 = .ok (.iaload, 1) := by decide +kernel
theorem dL_law_569 : decode cL_law 569 = .ok (.aload_n 0, 1) := by decide +kernel
theorem dL_law_570 : decode cL_law 570 = .ok (.iload_n 3, 1) := by decide +kernel
theorem dL_law_571 : decode cL_law 571 = .ok (.iconst 2, 1) := by decide +kernel
theorem dL_law_572 : decode cL_law 572 = .ok (.iadd, 1) := by decide +kernel
theorem dL_law_573 : decode cL_law 573 = .ok (.iaload, 1) := by decide +kernel
theorem dL_law_574 : decode cL_law 574 = .ok (.invokevirtual 55, 3) := by decide +kernel
theorem dL_law_577 : decode cL_law 577 = .ok (.pop, 1) := by decide +kernel
theorem dL_law_578 : decode cL_law 578 = .ok (.aload_n 2, 1) := by decide +kernel
theorem dL_law_579 : decode cL_law 579 = .ok (.aload_n 0, 1) := by decide +kernel
theorem dL_law_580 : decode cL_law 580 = .ok (.iload_n 3, 1) := by decide +kernel
theorem dL_law_581 : decode cL_law 581 = .ok (.iconst 1, 1) := by decide +kernel
theorem dL_law_582 : decode cL_law 582 = .ok (.iadd, 1) := by decide +kernel
theorem dL_law_583 : decode cL_law 583 = .ok (.iaload, 1) := by decide +kernel
theorem dL_law_584 : decode cL_law 584 = .ok (.aload_n 0, 1) := by decide +kernel
theorem dL_law_585 : decode cL_law 585 = .ok (.iload_n 3, 1) := by decide +kernel
theorem dL_law_586 : decode cL_law 586 = .ok (.iconst 2, 1) := by decide +kernel
theorem dL_law_587 : decode cL_law 587 = .ok (.iadd, 1) := by decide +kernel
theorem dL_law_588 : decode cL_law 588 = .ok (.iaload, 1) := by decide +kernel
theorem dL_law_589 : decode cL_law 589 = .ok (.invokevirtual 58, 3) := by decide +kernel
theorem dL_law_592 : decode cL_law 592 = .ok (.pop, 1) := by decide +kernel
theorem dL_law_593 : decode cL_law 593 = .ok (.goto 452, 3) := by decide +kernel
theorem dL_law_596 : decode cL_law 596 = .ok (.aload_n 1, 1) := by decide +kernel
theorem dL_law_597 : decode cL_law 597 = .ok (.aload_n 0, 1) := by decide +kernel
theorem dL_law_598 : decode cL_law 598 = .ok (.iload_n 3, 1) := by decide +kernel
theorem dL_law_599 : decode cL_law 599 = .ok (.iconst 1, 1) := by decide +kernel
theorem dL_law_600 : decode cL_law 600 = .ok (.iadd, 1) := by decide +kernel
theorem dL_law_601 : decode cL_law 601 = .ok (.iaload, 1) := by decide +kernel
theorem dL_law_602 : decode cL_law 602 = .ok (.invokevirtual 59, 3) := by decide +kernel
theorem dL_law_605 : decode cL_law 605 = .ok (.pop, 1) := by decide +kernel
theorem dL_law_606 : decode cL_law 606 = .ok (.aload_n 2, 1) := by decide +kernel
theorem dL_law_607 : decode cL_law 607 = .ok (.aload_n 0, 1) := by decide +kernel
theorem dL_law_608 : decode cL_law 608 = .ok (.iload_n 3, 1) := by decide +kernel
theorem dL_law_609 : decode cL_law 609 = .ok (.iconst 1, 1) := by decide +kernel
theorem dL_law_610 : decode cL_law 610 = .ok (.iadd, 1) := by decide +kernel
theorem dL_law_611 : decode cL_law 611 = .ok (.iaload, 1) := by decide +kernel
theorem dL_law_612 : decode cL_law 612 = .ok (.invokevirtual 63, 3) := by decide +kernel
theorem dL_law_615 : decode cL_law 615 = .ok (.pop, 1) := by decide +kernel
theorem dL_law_616 : decode cL_law 616 = .ok (.goto 429, 3) := by decide +kernel
theorem dL_law_619 : decode cL_law 619 = .ok (.aload_n 1, 1) := by decide +kernel
theorem dL_law_620 : decode cL_law 620 = .ok (.invokevirtual 64, 3) := by decide +kernel
theorem dL_law_623 : decode cL_law 623 = .ok (.pop, 1) := by decide +kernel
theorem dL_law_624 : decode cL_law 624 = .ok (.aload_n 2, 1) := by decide +kernel
theorem dL_law_625 : decode cL_law 625 = .ok (.invokevirtual 68, 3) := by decide +kernel
theorem dL_law_628 : decode cL_law 628 = .ok (.pop, 1) := by decide +kernel
theorem dL_law_629 : decode cL_law 629 = .ok (.goto 416, 3) := by decide +kernel
theorem dL_law_632 : decode cL_law 632 = .ok (.aload_n 1, 1) := by decide +kernel
theorem dL_law_633 : decode cL_law 633 = .ok (.invokevirtual 69, 3) := by decide +kernel
theorem dL_law_636 : decode cL_law 636 = .ok (.pop, 1) := by decide +kernel
theorem dL_law_637 : decode cL_law 637 = .ok (.aload_n 2, 1) := by decide +kernel
theorem dL_law_638 : decode cL_law 638 = .ok (.invokevirtual 72, 3) := by decide +kernel
theorem dL_law_641 : decode cL_law 641 = .ok (.pop, 1) := by decide +kernel
theorem dL_law_642 : decode cL_law 642 = .ok (.goto 403, 3) := by decide +kernel
theorem dL_law_645 : decode cL_law 645 = .ok (.aload_n 1, 1) := by decide +kernel
theorem dL_law_646 : decode cL_law 646 = .ok (.aload_n 0, 1) := by decide +kernel
theorem dL_law_647 : decode cL_law 647 = .ok (.iload_n 3, 1) := by decide +kernel
theorem dL_law_648 : decode cL_law 648 = .ok (.iconst 1, 1) := by decide +kernel
theorem dL_law_649 : decode cL_law 649 = .ok (.iadd, 1) := by decide +kernel
theorem dL_law_650 : decode cL_law 650 = .ok (.iaload, 1) := by decide +kernel
theorem dL_law_651 : decode cL_law 651 = .ok (.aload_n 0, 1) := by decide +kernel
theorem dL_law_652 : decode cL_law 652 = .ok (.iload_n 3, 1) := by decide +kernel
theorem dL_law_653 : decode cL_law 653 = .ok (.iconst 2, 1) := by decide +kernel
theorem dL_law_654 : decode cL_law 654 = .ok (.iadd, 1) := by decide +kernel
theorem dL_law_655 : decode cL_law 655 = .ok (.iaload, 1) := by decide +kernel
theorem dL_law_656 : decode cL_law 656 = .ok (.aload_n 0, 1) := by decide +kernel
theorem dL_law_657 : decode cL_law 657 = .ok (.iload_n 3, 1) := by decide +kernel
theorem dL_law_658 : decode cL_law 658 = .ok (.iconst 3, 1) := by decide +kernel
theorem dL_law_659 : decode cL_law 659 = .ok (.iadd, 1) := by decide +kernel
theorem dL_law_660 : decode cL_law 660 = .ok (.iaload, 1) := by decide +kernel
theorem dL_law_661 : decode cL_law 661 = .ok (.aload_n 0, 1) := by decide +kernel
theorem dL_law_662 : decode cL_law 662 = .ok (.iload_n 3, 1) := by decide +kernel
theorem dL_law_663 : decode cL_law 663 = .ok (.iconst 4, 1) := by decide +kernel
theorem dL_law_664 : decode cL_law 664 = .ok (.iadd, 1) := by decide +kernel
theorem dL_law_665 : decode cL_law 665 = .ok (.iaload, 1) := by decide +kernel
theorem dL_law_666 : decode cL_law 666 = .ok (.aload_n 0, 1) := by decide +kernel
theorem dL_law_667 : decode cL_law 667 = .ok (.iload_n 3, 1) := by decide +kernel
theorem dL_law_668 : decode cL_law 668 = .ok (.iconst 5, 1) := by decide +kernel
theorem dL_law_669 : decode cL_law 669 = .ok (.iadd, 1) := by decide +kernel
theorem dL_law_670 : decode cL_law 670 = .ok (.iaload, 1) := by decide +kernel
theorem dL_law_671 : decode cL_law 671 = .ok (.invokevirtual 73, 3) := by decide +kernel
theorem dL_law_674 : decode cL_law 674 = .ok (.pop, 1) := by decide +kernel
theorem dL_law_675 : decode cL_law 675 = .ok (.aload_n 2, 1) := by decide +kernel
theorem dL_law_676 : decode cL_law 676 = .ok (.aload_n 0, 1) := by decide +kernel
theorem dL_law_677 : decode cL_law 677 = .ok (.iload_n 3, 1) := by decide +kernel
theorem dL_law_678 : decode cL_law 678 = .ok (.iconst 1, 1) := by decide +kernel
theorem dL_law_679 : decode cL_law 679 = .ok (.iadd, 1) := by decide +kernel
theorem dL_law_680 : decode cL_law 680 = .ok (.iaload, 1) := by decide +kernel
theorem dL_law_681 : decode cL_law 681 = .ok (.aload_n 0, 1) := by decide +kernel
theorem dL_law_682 : decode cL_law 682 = .ok (.iload_n 3, 1) := by decide +kernel
theorem dL_law_683 : decode cL_law 683 = .ok (.iconst 2, 1) := by decide +kernel
theorem dL_law_684 : decode cL_law 684 = .ok (.iadd, 1) := by decide +kernel
theorem dL_law_685 : decode cL_law 685 = .ok (.iaload, 1) := by decide +kernel
theorem dL_law_686 : decode cL_law 686 = .ok (.aload_n 0, 1) := by decide +kernel
theorem dL_law_687 : decode cL_law 687 = .ok (.iload_n 3, 1) := by decide +kernel
theorem dL_law_688 : decode cL_law 688 = .ok (.iconst 3, 1) := by decide +kernel
theorem dL_law_689 : decode cL_law 689 = .ok (.iadd, 1) := by decide +kernel
theorem dL_law_690 : decode cL_law 690 = .ok (.iaload, 1) := by decide +kernel
theorem dL_law_691 : decode cL_law 691 = .ok (.aload_n 0, 1) := by decide +kernel
theorem dL_law_692 : decode cL_law 692 = .ok (.iload_n 3, 1) := by decide +kernel
theorem dL_law_693 : decode cL_law 693 = .ok (.iconst 4, 1) := by decide +kernel
theorem dL_law_694 : decode cL_law 694 = .ok (.iadd, 1) := by decide +kernel
theorem dL_law_695 : decode cL_law 695 = .ok (.iaload, 1) := by decide +kernel
theorem dL_law_696 : decode cL_law 696 = .ok (.aload_n 0, 1) := by decide +kernel
theorem dL_law_697 : decode cL_law 697 = .ok (.iload_n 3, 1) := by decide +kernel
theorem dL_law_698 : decode cL_law 698 = .ok (.iconst 5, 1) := by decide +kernel
theorem dL_law_699 : decode cL_law 699 = .ok (.iadd, 1) := by decide +kernel
theorem dL_law_700 : decode cL_law 700 = .ok (.iaload, 1) := by decide +kernel
theorem dL_law_701 : decode cL_law 701 = .ok (.invokevirtual 77, 3) := by decide +kernel
theorem dL_law_704 : decode cL_law 704 = .ok (.pop, 1) := by decide +kernel
theorem dL_law_705 : decode cL_law 705 = .ok (.goto 340, 3) := by decide +kernel
theorem dL_law_708 : decode cL_law 708 = .ok (.aload_n 1, 1) := by decide +kernel
theorem dL_law_709 : decode cL_law 709 = .ok (.aload_n 0, 1) := by decide +kernel
theorem dL_law_710 : decode cL_law 710 = .ok (.iload_n 3, 1) := by decide +kernel
theorem dL_law_711 : decode cL_law 711 = .ok (.iconst 1, 1) := by decide +kernel
theorem dL_law_712 : decode cL_law 712 = .ok (.iadd, 1) := by decide +kernel
theorem dL_law_713 : decode cL_law 713 = .ok (.iaload, 1) := by decide +kernel
theorem dL_law_714 : decode cL_law 714 = .ok (.aload_n 0, 1) := by decide +kernel
theorem dL_law_715 : decode cL_law 715 = .ok (.iload_n 3, 1) := by decide +kernel
theorem dL_law_716 : decode cL_law 716 = .ok (.iconst 2, 1) := by decide +kernel
theorem dL_law_717 : decode cL_law 717 = .ok (.iadd, 1) := by decide +kernel
theorem dL_law_718 : decode cL_law 718 = .ok (.iaload, 1) := by decide +kernel
theorem dL_law_719 : decode cL_law 719 = .ok (.aload_n 0, 1) := by decide +kernel
theorem dL_law_720 : decode cL_law 720 = .ok (.iload_n 3, 1) := by decide +kernel
theorem dL_law_721 : decode cL_law 721 = .ok (.iconst 3, 1) := by decide +kernel
theorem dL_law_722 : decode cL_law 722 = .ok (.iadd, 1) := by decide +kernel
theorem dL_law_723 : decode cL_law 723 = .ok (.iaload, 1) := by decide +kernel
theorem dL_law_724 : decode cL_law 724 = .ok (.aload_n 0, 1) := by decide +kernel
theorem dL_law_725 : decode cL_law 725 = .ok (.iload_n 3, 1) := by decide +kernel
theorem dL_law_726 : decode cL_law 726 = .ok (.iconst 4, 1) := by decide +kernel
theorem dL_law_727 : decode cL_law 727 = .ok (.iadd, 1) := by decide +kernel
theorem dL_law_728 : decode cL_law 728 = .ok (.iaload, 1) := by decide +kernel
theorem dL_law_729 : decode cL_law 729 = .ok (.aload_n 0, 1) := by decide +kernel
theorem dL_law_730 : decode cL_law 730 = .ok (.iload_n 3, 1) := by decide +kernel
theorem dL_law_731 : decode cL_law 731 = .ok (.iconst 5, 1) := by decide +kernel
theorem dL_law_732 : decode cL_law 732 = .ok (.iadd, 1) := by decide +kernel
theorem dL_law_733 : decode cL_law 733 = .ok (.iaload, 1) := by decide +kernel
theorem dL_law_734 : decode cL_law 734 = .ok (.invokevirtual 78, 3) := by decide +kernel
theorem dL_law_737 : decode cL_law 737 = .ok (.pop, 1) := by decide +kernel
theorem dL_law_738 : decode cL_law 738 = .ok (.aload_n 2, 1) := by decide +kernel
theorem dL_law_739 : decode cL_law 739 = .ok (.aload_n 0, 1) := by decide +kernel
theorem dL_law_740 : decode cL_law 740 = .ok (.iload_n 3, 1) := by decide +kernel
theorem dL_law_741 : decode cL_law 741 = .ok (.iconst 1, 1) := by decide +kernel
theorem dL_law_742 : decode cL_law 742 = .ok (.iadd, 1) := by decide +kernel
theorem dL_law_743 : decode cL_law 743 = .ok (.iaload, 1) := by decide +kernel
theorem dL_law_744 : decode cL_law 744 = .ok (.aload_n 0, 1) := by decide +kernel
theorem dL_law_745 : decode cL_law 745 = .ok (.iload_n 3, 1) := by decide +kernel
theorem dL_law_746 : decode cL_law 746 = .ok (.iconst 2, 1) := by decide +kernel
theorem dL_law_747 : decode cL_law 747 = .ok (.iadd, 1) := by decide +kernel
theorem dL_law_748 : decode cL_law 748 = .ok (.iaload, 1) := by decide +kernel
theorem dL_law_749 : decode cL_law 749 = .ok (.aload_n 0, 1) := by decide +kernel
theorem dL_law_750 : decode cL_law 750 = .ok (.iload_n 3, 1) := by decide +kernel
theorem dL_law_751 : decode cL_law 751 = .ok (.iconst 3, 1) := by decide +kernel
theorem dL_law_752 : decode cL_law 752 = .ok (.iadd, 1) := by decide +kernel
theorem dL_law_753 : decode cL_law 753 = .ok (.iaload, 1) := by decide +kernel
theorem dL_law_754 : decode cL_law 754 = .ok (.aload_n 0, 1) := by decide +kernel
theorem dL_law_755 : decode cL_law 755 = .ok (.iload_n 3, 1) := by decide +kernel
theorem dL_law_756 : decode cL_law 756 = .ok (.iconst 4, 1) := by decide +kernel
theorem dL_law_757 : decode cL_law 757 = .ok (.iadd, 1) := by decide +kernel
theorem dL_law_758 : decode cL_law 758 = .ok (.iaload, 1) := by decide +kernel
theorem dL_law_759 : decode cL_law 759 = .ok (.aload_n 0, 1) := by decide +kernel
theorem dL_law_760 : decode cL_law 760 = .ok (.iload_n 3, 1) := by decide +kernel
theorem dL_law_761 : decode cL_law 761 = .ok (.iconst 5, 1) := by decide +kernel
theorem dL_law_762 : decode cL_law 762 = .ok (.iadd, 1) := by decide +kernel
theorem dL_law_763 : decode cL_law 763 = .ok (.iaload, 1) := by decide +kernel
theorem dL_law_764 : decode cL_law 764 = .ok (.invokevirtual 81, 3) := by decide +kernel
theorem dL_law_767 : decode cL_law 767 = .ok (.pop, 1) := by decide +kernel
theorem dL_law_768 : decode cL_law 768 = .ok (.goto 277, 3) := by decide +kernel
theorem dL_law_771 : decode cL_law 771 = .ok (.aload_n 1, 1) := by decide +kernel
theorem dL_law_772 : decode cL_law 772 = .ok (.aload_n 0, 1) := by decide +kernel
theorem dL_law_773 : decode cL_law 773 = .ok (.iload_n 3, 1) := by decide +kernel
theorem dL_law_774 : decode cL_law 774 = .ok (.iconst 1, 1) := by decide +kernel
theorem dL_law_775 : decode cL_law 775 = .ok (.iadd, 1) := by decide +kernel
theorem dL_law_776 : decode cL_law 776 = .ok (.iaload, 1) := by decide +kernel
theorem dL_law_777 : decode cL_law 777 = .ok (.aload_n 0, 1) := by decide +kernel
theorem dL_law_778 : decode cL_law 778 = .ok (.iload_n 3, 1) := by decide +kernel
theorem dL_law_779 : decode cL_law 779 = .ok (.iconst 2, 1) := by decide +kernel
theorem dL_law_780 : decode cL_law 780 = .ok (.iadd, 1) := by decide +kernel
theorem dL_law_781 : decode cL_law 781 = .ok (.iaload, 1) := by decide +kernel
theorem dL_law_782 : decode cL_law 782 = .ok (.invokevirtual 82, 3) := by decide +kernel
theorem dL_law_785 : decode cL_law 785 = .ok (.pop, 1) := by decide +kernel
theorem dL_law_786 : decode cL_law 786 = .ok (.aload_n 2, 1) := by decide +kernel
theorem dL_law_787 : decode cL_law 787 = .ok (.aload_n 0, 1) := by decide +kernel
theorem dL_law_788 : decode cL_law 788 = .ok (.iload_n 3, 1) := by decide +kernel
theorem dL_law_789 : decode cL_law 789 = .ok (.iconst 1, 1) := by decide +kernel
theorem dL_law_790 : decode cL_law 790 = .ok (.iadd, 1) := by decide +kernel
theorem dL_law_791 : decode cL_law 791 = .ok (.iaload, 1) := by decide +kernel
theorem dL_law_792 : decode cL_law 792 = .ok (.aload_n 0, 1) := by decide +kernel
theorem dL_law_793 : decode cL_law 793 = .ok (.iload_n 3, 1) := by decide +kernel
theorem dL_law_794 : decode cL_law 794 = .ok (.iconst 2, 1) := by decide +kernel
theorem dL_law_795 : decode cL_law 795 = .ok (.iadd, 1) := by decide +kernel
theorem dL_law_796 : decode cL_law 796 = .ok (.iaload, 1) := by decide +kernel
theorem dL_law_797 : decode cL_law 797 = .ok (.invokevirtual 85, 3) := by decide +kernel
theorem dL_law_800 : decode cL_law 800 = .ok (.pop, 1) := by decide +kernel
theorem dL_law_801 : decode cL_law 801 = .ok (.goto 244, 3) := by decide +kernel
theorem dL_law_804 : decode cL_law 804 = .ok (.aload_n 1, 1) := by decide +kernel
theorem dL_law_805 : decode cL_law 805 = .ok (.aload_n 0, 1) := by decide +kernel
theorem dL_law_806 : decode cL_law 806 = .ok (.iload_n 3, 1) := by decide +kernel
theorem dL_law_807 : decode cL_law 807 = .ok (.iconst 1, 1) := by decide +kernel
theorem dL_law_808 : decode cL_law 808 = .ok (.iadd, 1) := by decide +kernel
theorem dL_law_809 : decode cL_law 809 = .ok (.iaload, 1) := by decide +kernel
theorem dL_law_810 : decode cL_law 810 = .ok (.aload_n 0, 1) := by decide +kernel
theorem dL_law_811 : decode cL_law 811 = .ok (.iload_n 3, 1) := by decide +kernel
theorem dL_law_812 : decode cL_law 812 = .ok (.iconst 2, 1) := by decide +kernel
theorem dL_law_813 : decode cL_law 813 = .ok (.iadd, 1) := by decide +kernel
theorem dL_law_814 : decode cL_law 814 = .ok (.iaload, 1) := by decide +kernel
theorem dL_law_815 : decode cL_law 815 = .ok (.invokevirtual 86, 3) := by decide +kernel
theorem dL_law_818 : decode cL_law 818 = .ok (.pop, 1) := by decide +kernel
theorem dL_law_819 : decode cL_law 819 = .ok (.aload_n 2, 1) := by decide +kernel
theorem dL_law_820 : decode cL_law 820 = .ok (.aload_n 0, 1) := by decide +kernel
theorem dL_law_821 : decode cL_law 821 = .ok (.iload_n 3, 1) := by decide +kernel
theorem dL_law_822 : decode cL_law 822 = .ok (.iconst 1, 1) := by decide +kernel
theorem dL_law_823 : decode cL_law 823 = .ok (.iadd, 1) := by decide +kernel
theorem dL_law_824 : decode cL_law 824 = .ok (.iaload, 1) := by decide +kernel
theorem dL_law_825 : decode cL_law 825 = .ok (.aload_n 0, 1) := by decide +kernel
theorem dL_law_826 : decode cL_law 826 = .ok (.iload_n 3, 1) := by decide +kernel
theorem dL_law_827 : decode cL_law 827 = .ok (.iconst 2, 1) := by decide +kernel
theorem dL_law_828 : decode cL_law 828 = .ok (.iadd, 1) := by decide +kernel
theorem dL_law_829 : decode cL_law 829 = .ok (.iaload, 1) := by decide +kernel
theorem dL_law_830 : decode cL_law 830 = .ok (.invokevirtual 89, 3) := by decide +kernel
theorem dL_law_833 : decode cL_law 833 = .ok (.pop, 1) := by decide +kernel
theorem dL_law_834 : decode cL_law 834 = .ok (.goto 211, 3) := by decide +kernel
theorem dL_law_837 : decode cL_law 837 = .ok (.aload_n 1, 1) := by decide +kernel
theorem dL_law_838 : decode cL_law 838 = .ok (.aload_n 0, 1) := by decide +kernel
theorem dL_law_839 : decode cL_law 839 = .ok (.iload_n 3, 1) := by decide +kernel
theorem dL_law_840 : decode cL_law 840 = .ok (.iconst 1, 1) := by decide +kernel
theorem dL_law_841 : decode cL_law 841 = .ok (.iadd, 1) := by decide +kernel
theorem dL_law_842 : decode cL_law 842 = .ok (.iaload, 1) := by decide +kernel
theorem dL_law_843 : decode cL_law 843 = .ok (.aload_n 0, 1) := by decide +kernel
theorem dL_law_844 : decode cL_law 844 = .ok (.iload_n 3, 1) := by decide +kernel
theorem dL_law_845 : decode cL_law 845 = .ok (.iconst 2, 1) := by decide +kernel
theorem dL_law_846 : decode cL_law 846 = .ok (.iadd, 1) := by decide +kernel
theorem dL_law_847 : decode cL_law 847 = .ok (.iaload, 1) := by decide +kernel
theorem dL_law_848 : decode cL_law 848 = .ok (.invokevirtual 90, 3) := by decide +kernel
theorem dL_law_851 : decode cL_law 851 = .ok (.pop, 1) := by decide +kernel
theorem dL_law_852 : decode cL_law 852 = .ok (.aload_n 2, 1) := by decide +kernel
theorem dL_law_853 : decode cL_law 853 = .ok (.aload_n 0, 1) := by decide +kernel
theorem dL_law_854 : decode cL_law 854 = .ok (.iload_n 3, 1) := by decide +kernel
theorem dL_law_855 : decode cL_law 855 = .ok (.iconst 1, 1) := by decide +kernel
theorem dL_law_856 : decode cL_law 856 = .ok (.iadd, 1) := by decide +kernel
theorem dL_law_857 : decode cL_law 857 = .ok (.iaload, 1) := by decide +kernel
theorem dL_law_858 : decode cL_law 858 = .ok (.aload_n 0, 1) := by decide +kernel
theorem dL_law_859 : decode cL_law 859 = .ok (.iload_n 3, 1) := by decide +kernel
theorem dL_law_860 : decode cL_law 860 = .ok (.iconst 2, 1) := by decide +kernel
theorem dL_law_861 : decode cL_law 861 = .ok (.iadd, 1) := by decide +kernel
theorem dL_law_862 : decode cL_law 862 = .ok (.iaload, 1) := by decide +kernel
theorem dL_law_863 : decode cL_law 863 = .ok (.invokevirtual 93, 3) := by decide +kernel
theorem dL_law_866 : decode cL_law 866 = .ok (.pop, 1) := by decide +kernel
theorem dL_law_867 : decode cL_law 867 = .ok (.goto 178, 3) := by decide +kernel
theorem dL_law_870 : decode cL_law 870 = .ok (.aload_n 1, 1) := by decide +kernel
theorem dL_law_871 : decode cL_law 871 = .ok (.aload_n 0, 1) := by decide +kernel
theorem dL_law_872 : decode cL_law 872 = .ok (.iload_n 3, 1) := by decide +kernel
theorem dL_law_873 : decode cL_law 873 = .ok (.iconst 1, 1) := by decide +kernel
theorem dL_law_874 : decode cL_law 874 = .ok (.iadd, 1) := by decide +kernel
theorem dL_law_875 : decode cL_law 875 = .ok (.iaload, 1) := by decide +kernel
theorem dL_law_876 : decode cL_law 876 = .ok (.aload_n 0, 1) := by decide +kernel
theorem dL_law_877 : decode cL_law 877 = .ok (.iload_n 3, 1) := by decide +kernel
theorem dL_law_878 : decode cL_law 878 = .ok (.iconst 2, 1) := by decide +kernel
theorem dL_law_879 : decode cL_law 879 = .ok (.iadd, 1) := by decide +kernel
theorem dL_law_880 : decode cL_law 880 = .ok (.iaload, 1) := by decide +kernel
theorem dL_law_881 : decode cL_law 881 = .ok (.aload_n 0, 1) := by decide +kernel
theorem dL_law_882 : decode cL_law 882 = .ok (.iload_n 3, 1) := by decide +kernel
theorem dL_law_883 : decode cL_law 883 = .ok (.iconst 3, 1) := by decide +kernel
theorem dL_law_884 : decode cL_law 884 = .ok (.iadd, 1) := by decide +kernel
theorem dL_law_885 : decode cL_law 885 = .ok (.iaload, 1) := by decide +kernel
theorem dL_law_886 : decode cL_law 886 = .ok (.invokevirtual 94, 3) := by decide +kernel
theorem dL_law_889 : decode cL_law 889 = .ok (.pop, 1) := by decide +kernel
theorem dL_law_890 : decode cL_law 890 = .ok (.aload_n 2, 1) := by decide +kernel
theorem dL_law_891 : decode cL_law 891 = .ok (.aload_n 0, 1) := by decide +kernel
theorem dL_law_892 : decode cL_law 892 = .ok (.iload_n 3, 1) := by decide +kernel
theorem dL_law_893 : decode cL_law 893 = .ok (.iconst 1, 1) := by decide +kernel
theorem dL_law_894 : decode cL_law 894 = .ok (.iadd, 1) := by decide +kernel
theorem dL_law_895 : decode cL_law 895 = .ok (.iaload, 1) := by decide +kernel
theorem dL_law_896 : decode cL_law 896 = .ok (.aload_n 0, 1) := by decide +kernel
theorem dL_law_897 : decode cL_law 897 = .ok (.iload_n 3, 1) := by decide +kernel
theorem dL_law_898 : decode cL_law 898 = .ok (.iconst 2, 1) := by decide +kernel
theorem dL_law_899 : decode cL_law 899 = .ok (.iadd, 1) := by decide +kernel
theorem dL_law_900 : decode cL_law 900 = .ok (.iaload, 1) := by decide +kernel
theorem dL_law_901 : decode cL_law 901 = .ok (.aload_n 0, 1) := by decide +kernel
theorem dL_law_902 : decode cL_law 902 = .ok (.iload_n 3, 1) := by decide +kernel
theorem dL_law_903 : decode cL_law 903 = .ok (.iconst 3, 1) := by decide +kernel
theorem dL_law_904 : decode cL_law 904 = .ok (.iadd, 1) := by decide +kernel
theorem dL_law_905 : decode cL_law 905 = .ok (.iaload, 1) := by decide +kernel
theorem dL_law_906 : decode cL_law 906 = .ok (.invokevirtual 98, 3) := by decide +kernel
theorem dL_law_909 : decode cL_law 909 = .ok (.pop, 1) := by decide +kernel
theorem dL_law_910 : decode cL_law 910 = .ok (.goto 135, 3) := by decide +kernel
theorem dL_law_913 : decode cL_law 913 = .ok (.aload_n 1, 1) := by decide +kernel
theorem dL_law_914 : decode cL_law 914 = .ok (.aload_n 0, 1) := by decide +kernel
theorem dL_law_915 : decode cL_law 915 = .ok (.iload_n 3, 1) := by decide +kernel
theorem dL_law_916 : decode cL_law 916 = .ok (.iconst 1, 1) := by decide +kernel
theorem dL_law_917 : decode cL_law 917 = .ok (.iadd, 1) := by decide +kernel
theorem dL_law_918 : decode cL_law 918 = .ok (.iaload, 1) := by decide +kernel
theorem dL_law_919 : decode cL_law 919 = .ok (.aload_n 0, 1) := by decide +kernel
theorem dL_law_920 : decode cL_law 920 = .ok (.iload_n 3, 1) := by decide +kernel
theorem dL_law_921 : decode cL_law 921 = .ok (.iconst 2, 1) := by decide +kernel
theorem dL_law_922 : decode cL_law 922 = .ok (.iadd, 1) := by decide +kernel
theorem dL_law_923 : decode cL_law 923 = .ok (.iaload, 1) := by decide +kernel
theorem dL_law_924 : decode cL_law 924 = .ok (.invokevirtual 99, 3) := by decide +kernel
theorem dL_law_927 : decode cL_law 927 = .ok (.pop, 1) := by decide +kernel
theorem dL_law_928 : decode cL_law 928 = .ok (.aload_n 2, 1) := by decide +kernel
theorem dL_law_929 : decode cL_law 929 = .ok (.aload_n 0, 1) := by decide +kernel
theorem dL_law_930 : decode cL_law 930 = .ok (.iload_n 3, 1) := by decide +kernel
theorem dL_law_931 : decode cL_law 931 = .ok (.iconst 1, 1) := by decide +kernel
theorem dL_law_932 : decode cL_law 932 = .ok (.iadd, 1) := by decide +kernel
theorem dL_law_933 : decode cL_law 933 = .ok (.iaload, 1) := by decide +kernel
theorem dL_law_934 : decode cL_law 934 = .ok (.aload_n 0, 1) := by decide +kernel
theorem dL_law_935 : decode cL_law 935 = .ok (.iload_n 3, 1) := by decide +kernel
theorem dL_law_936 : decode cL_law 936 = .ok (.iconst 2, 1) := by decide +kernel
theorem dL_law_937 : decode cL_law 937 = .ok (.iadd, 1) := by decide +kernel
theorem dL_law_938 : decode cL_law 938 = .ok (.iaload, 1) := by decide +kernel
theorem dL_law_939 : decode cL_law 939 = .ok (.invokevirtual 102, 3) := by decide +kernel
theorem dL_law_942 : decode cL_law 942 = .ok (.pop, 1) := by decide +kernel
theorem dL_law_943 : decode cL_law 943 = .ok (.goto 102, 3) := by decide +kernel
theorem dL_law_946 : decode cL_law 946 = .ok (.aload_n 1, 1) := by decide +kernel
theorem dL_law_947 : decode cL_law 947 = .ok (.aload_n 0, 1) := by decide +kernel
theorem dL_law_948 : decode cL_law 948 = .ok (.iload_n 3, 1) := by decide +kernel
theorem dL_law_949 : decode cL_law 949 = .ok (.iconst 1, 1) := by decide +kernel
theorem dL_law_950 : decode cL_law 950 = .ok (.iadd, 1) := by decide +kernel
theorem dL_law_951 : decode cL_law 951 = .ok (.iaload, 1) := by decide +kernel
theorem dL_law_952 : decode cL_law 952 = .ok (.aload_n 0, 1) := by decide +kernel
theorem dL_law_953 : decode cL_law 953 = .ok (.iload_n 3, 1) := by decide +kernel
theorem dL_law_954 : decode cL_law 954 = .ok (.iconst 2, 1) := by decide +kernel
theorem dL_law_955 : decode cL_law 955 = .ok (.iadd, 1) := by decide +kernel
theorem dL_law_956 : decode cL_law 956 = .ok (.iaload, 1) := by decide +kernel
theorem dL_law_957 : decode cL_law 957 = .ok (.invokevirtual 103, 3) := by decide +kernel
theorem dL_law_960 : decode cL_law 960 = .ok (.pop, 1) := by decide +kernel
theorem dL_law_961 : decode cL_law 961 = .ok (.aload_n 2, 1) := by decide +kernel
theorem dL_law_962 : decode cL_law 962 = .ok (.aload_n 0, 1) := by decide +kernel
theorem dL_law_963 : decode cL_law 963 = .ok (.iload_n 3, 1) := by decide +kernel
theorem dL_law_964 : decode cL_law 964 = .ok (.iconst 1, 1) := by decide +kernel
theorem dL_law_965 : decode cL_law 965 = .ok (.iadd, 1) := by decide +kernel
theorem dL_law_966 : decode cL_law 966 = .ok (.iaload, 1) := by decide +kernel
theorem dL_law_967 : decode cL_law 967 = .ok (.aload_n 0, 1) := by decide +kernel
theorem dL_law_968 : decode cL_law 968 = .ok (.iload_n 3, 1) := by decide +kernel
theorem dL_law_969 : decode cL_law 969 = .ok (.iconst 2, 1) := by decide +kernel
theorem dL_law_970 : decode cL_law 970 = .ok (.iadd, 1) := by decide +kernel
theorem dL_law_971 : decode cL_law 971 = .ok (.iaload, 1) := by decide +kernel
theorem dL_law_972 : decode cL_law 972 = .ok (.invokevirtual 106, 3) := by decide +kernel
theorem dL_law_975 : decode cL_law 975 = .ok (.pop, 1) := by decide +kernel
theorem dL_law_976 : decode cL_law 976 = .ok (.goto 69, 3) := by decide +kernel
theorem dL_law_979 : decode cL_law 979 = .ok (.aload_n 1, 1) := by decide +kernel
theorem dL_law_980 : decode cL_law 980 = .ok (.aload_n 0, 1) := by decide +kernel
theorem dL_law_981 : decode cL_law 981 = .ok (.iload_n 3, 1) := by decide +kernel
theorem dL_law_982 : decode cL_law 982 = .ok (.iconst 1, 1) := by decide +kernel
theorem dL_law_983 : decode cL_law 983 = .ok (.iadd, 1) := by decide +kernel
theorem dL_law_984 : decode cL_law 984 = .ok (.iaload, 1) := by decide +kernel
theorem dL_law_985 : decode cL_law 985 = .ok (.aload_n 0, 1) := by decide +kernel
theorem dL_law_986 : decode cL_law 986 = .ok (.iload_n 3, 1) := by decide +kernel
theorem dL_law_987 : decode cL_law 987 = .ok (.iconst 2, 1) := by decide +kernel
theorem dL_law_988 : decode cL_law 988 = .ok (.iadd, 1) := by decide +kernel
theorem dL_law_989 : decode cL_law 989 = .ok (.iaload, 1) := by decide +kernel
theorem dL_law_990 : decode cL_law 990 = .ok (.invokevirtual 107, 3) := by decide +kernel
theorem dL_law_993 : decode cL_law 993 = .ok (.pop, 1) := by decide +kernel
theorem dL_law_994 : decode cL_law 994 = .ok (.aload_n 2, 1) := by decide +kernel
theorem dL_law_995 : decode cL_law 995 = .ok (.aload_n 0, 1) := by decide +kernel
theorem dL_law_996 : decode cL_law 996 = .ok (.iload_n 3, 1) := by decide +kernel
theorem dL_law_997 : decode cL_law 997 = .ok (.iconst 1, 1) := by decide +kernel
theorem dL_law_998 : decode cL_law 998 = .ok (.iadd, 1) := by decide +kernel
theorem dL_law_999 : decode cL_law 999 = .ok (.iaload, 1) := by decide +kernel
theorem dL_law_1000 : decode cL_law 1000 = .ok (.aload_n 0, 1) := by decide +kernel
theorem dL_law_1001 : decode cL_law 1001 = .ok (.iload_n 3, 1) := by decide +kernel
theorem dL_law_1002 : decode cL_law 1002 = .ok (.iconst 2, 1) := by decide +kernel
theorem dL_law_1003 : decode cL_law 1003 = .ok (.iadd, 1) := by decide +kernel
theorem dL_law_1004 : decode cL_law 1004 = .ok (.iaload, 1) := by decide +kernel
theorem dL_law_1005 : decode cL_law 1005 = .ok (.invokevirtual 110, 3) := by decide +kernel
theorem dL_law_1008 : decode cL_law 1008 = .ok (.pop, 1) := by decide +kernel
theorem dL_law_1009 : decode cL_law 1009 = .ok (.goto 36, 3) := by decide +kernel
theorem dL_law_1012 : decode cL_law 1012 = .ok (.aload_n 1, 1) := by decide +kernel
theorem dL_law_1013 : decode cL_law 1013 = .ok (.aload_n 0, 1) := by decide +kernel
theorem dL_law_1014 : decode cL_law 1014 = .ok (.iload_n 3, 1) := by decide +kernel
theorem dL_law_1015 : decode cL_law 1015 = .ok (.iconst 1, 1) := by decide +kernel
theorem dL_law_1016 : decode cL_law 1016 = .ok (.iadd, 1) := by decide +kernel
theorem dL_law_1017 : decode cL_law 1017 = .ok (.iaload, 1) := by decide +kernel
theorem dL_law_1018 : decode cL_law 1018 = .ok (.aload_n 0, 1) := by decide +kernel
theorem dL_law_1019 : decode cL_law 1019 = .ok (.iload_n 3, 1) := by decide +kernel
theorem dL_law_1020 : decode cL_law 1020 = .ok (.iconst 2, 1) := by decide +kernel
theorem dL_law_1021 : decode cL_law 1021 = .ok (.iadd, 1) := by decide +kernel
theorem dL_law_1022 : decode cL_law 1022 = .ok (.iaload, 1) := by decide +kernel
theorem dL_law_1023 : decode cL_law 1023 = .ok (.invokevirtual 111, 3) := by decide +kernel
theorem dL_law_1026 : decode cL_law 1026 = .ok (.aload_n 2, 1) := by decide +kernel
theorem dL_law_1027 : decode cL_law 1027 = .ok (.aload_n 0, 1) := by decide +kernel
theorem dL_law_1028 : decode cL_law 1028 = .ok (.iload_n 3, 1) := by decide +kernel
theorem dL_law_1029 : decode cL_law 1029 = .ok (.iconst 1, 1) := by decide +kernel
theorem dL_law_1030 : decode cL_law 1030 = .ok (.iadd, 1) := by decide +kernel
theorem dL_law_1031 : decode cL_law 1031 = .ok (.iaload, 1) := by decide +kernel
theorem dL_law_1032 : decode cL_law 1032 = .ok (.aload_n 0, 1) := by decide +kernel
theorem dL_law_1033 : decode cL_law 1033 = .ok (.iload_n 3, 1) := by decide +kernel
theorem dL_law_1034 : decode cL_law 1034 = .ok (.iconst 2, 1) := by decide +kernel
theorem dL_law_1035 : decode cL_law 1035 = .ok (.iadd, 1) := by decide +kernel
theorem dL_law_1036 : decode cL_law 1036 = .ok (.iaload, 1) := by decide +kernel
theorem dL_law_1037 : decode cL_law 1037 = .ok (.invokevirtual 114, 3) := by decide +kernel
theorem dL_law_1040 : decode cL_law 1040 = .ok (.if_icmp .eq 5, 3) := by decide +kernel
theorem dL_law_1043 : decode cL_law 1043 = .ok (.iconst 0, 1) := by decide +kernel
theorem dL_law_1044 : decode cL_law 1044 = .ok (.ireturn, 1) := by decide +kernel
theorem dL_law_1045 : decode cL_law 1045 = .ok (.iinc 3 7, 3) := by decide +kernel
theorem dL_law_1048 : decode cL_law 1048 = .ok (.goto (-1030), 3) := by decide +kernel
theorem dL_law_1051 : decode cL_law 1051 = .ok (.iconst 1, 1) := by decide +kernel
theorem dL_law_1052 : decode cL_law 1052 = .ok (.ireturn, 1) := by decide +kernel
