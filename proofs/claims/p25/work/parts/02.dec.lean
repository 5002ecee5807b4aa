theorem dX0_init_0 : decode cX0_init 0 = .ok (.aload_n 0, 1) := by decide +kernel
theorem dX0_init_1 : decode cX0_init 1 = .ok (.invokespecial 3, 3) := by decide +kernel
theorem dX0_init_4 : decode cX0_init 4 = .ok (.aload_n 0, 1) := by decide +kernel
theorem dX0_init_5 : decode cX0_init 5 = .ok (.new 9, 3) := by decide +kernel
theorem dX0_init_8 : decode cX0_init 8 = .ok (.dup, 1) := by decide +kernel
theorem dX0_init_9 : decode cX0_init 9 = .ok (.bipush 16, 2) := by decide +kernel
theorem dX0_init_11 : decode cX0_init 11 = .ok (.invokespecial 11, 3) := by decide +kernel
theorem dX0_init_14 : decode cX0_init 14 = .ok (.putfield 14, 3) := by decide +kernel
theorem dX0_init_17 : decode cX0_init 17 = .ok (.return_, 1) := by decide +kernel
theorem dX0_findUnlike_0 : decode cX0_findUnlike 0 = .ok (.aload_n 0, 1) := by decide +kernel
theorem dX0_findUnlike_1 : decode cX0_findUnlike 1 = .ok (.getfield 14, 3) := by decide +kernel
theorem dX0_findUnlike_4 : decode cX0_findUnlike 4 = .ok (.invokevirtual 20, 3) := by decide +kernel
theorem dX0_findUnlike_7 : decode cX0_findUnlike 7 = .ok (.iconst 1, 1) := by decide +kernel
theorem dX0_findUnlike_8 : decode cX0_findUnlike 8 = .ok (.istore_n 2, 1) := by decide +kernel
theorem dX0_findUnlike_9 : decode cX0_findUnlike 9 = .ok (.iconst 0, 1) := by decide +kernel
theorem dX0_findUnlike_10 : decode cX0_findUnlike 10 = .ok (.istore_n 3, 1) := by decide +kernel
theorem dX0_findUnlike_11 : decode cX0_findUnlike 11 = .ok (.iload_n 3, 1) := by decide +kernel
theorem dX0_findUnlike_12 : decode cX0_findUnlike 12 = .ok (.bipush 16, 2) := by decide +kernel
theorem dX0_findUnlike_14 : decode cX0_findUnlike 14 = .ok (.if_icmp .ge 75, 3) := by decide +kernel
theorem dX0_findUnlike_17 : decode cX0_findUnlike 17 = .ok (.iload_n 2, 1) := by decide +kernel
theorem dX0_findUnlike_18 : decode cX0_findUnlike 18 = .ok (.ifCond .eq 71, 3) := by decide +kernel
theorem dX0_findUnlike_21 : decode cX0_findUnlike 21 = .ok (.iconst 0, 1) := by decide +kernel
theorem dX0_findUnlike_22 : decode cX0_findUnlike 22 = .ok (.istore_n 2, 1) := by decide +kernel
theorem dX0_findUnlike_23 : decode cX0_findUnlike 23 = .ok (.iconst 0, 1) := by decide +kernel
theorem dX0_findUnlike_24 : decode cX0_findUnlike 24 = .ok (.istore 4, 2) := by decide +kernel
theorem dX0_findUnlike_26 : decode cX0_findUnlike 26 = .ok (.iload 4, 2) := by decide +kernel
theorem dX0_findUnlike_28 : decode cX0_findUnlike 28 = .ok (.bipush 16, 2) := by decide +kernel
theorem dX0_findUnlike_30 : decode cX0_findUnlike 30 = .ok (.if_icmp .ge 53, 3) := by decide +kernel
theorem dX0_findUnlike_33 : decode cX0_findUnlike 33 = .ok (.aload_n 0, 1) := by decide +kernel
theorem dX0_findUnlike_34 : decode cX0_findUnlike 34 = .ok (.iload 4, 2) := by decide +kernel
theorem dX0_findUnlike_36 : decode cX0_findUnlike 36 = .ok (.aload_n 1, 1) := by decide +kernel
theorem dX0_findUnlike_37 : decode cX0_findUnlike 37 = .ok (.invokevirtual 23, 3) := by decide +kernel
theorem dX0_findUnlike_40 : decode cX0_findUnlike 40 = .ok (.istore 5, 2) := by decide +kernel
theorem dX0_findUnlike_42 : decode cX0_findUnlike 42 = .ok (.iload_n 2, 1) := by decide +kernel
theorem dX0_findUnlike_43 : decode cX0_findUnlike 43 = .ok (.ifCond .ne 17, 3) := by decide +kernel
theorem dX0_findUnlike_46 : decode cX0_findUnlike 46 = .ok (.iload 5, 2) := by decide +kernel
theorem dX0_findUnlike_48 : decode cX0_findUnlike 48 = .ok (.aload_n 0, 1) := by decide +kernel
theorem dX0_findUnlike_49 : decode cX0_findUnlike 49 = .ok (.getfield 14, 3) := by decide +kernel
theorem dX0_findUnlike_52 : decode cX0_findUnlike 52 = .ok (.iload 4, 2) := by decide +kernel
theorem dX0_findUnlike_54 : decode cX0_findUnlike 54 = .ok (.invokevirtual 27, 3) := by decide +kernel
theorem dX0_findUnlike_57 : decode cX0_findUnlike 57 = .ok (.if_icmp .eq 7, 3) := by decide +kernel
theorem dX0_findUnlike_60 : decode cX0_findUnlike 60 = .ok (.iconst 1, 1) := by decide +kernel
theorem dX0_findUnlike_61 : decode cX0_findUnlike 61 = .ok (.goto 4, 3) := by decide +kernel
theorem dX0_findUnlike_64 : decode cX0_findUnlike 64 = .ok (.iconst 0, 1) := by decide +kernel
theorem dX0_findUnlike_65 : decode cX0_findUnlike 65 = .ok (.istore_n 2, 1) := by decide +kernel
theorem dX0_findUnlike_66 : decode cX0_findUnlike 66 = .ok (.aload_n 0, 1) := by decide +kernel
theorem dX0_findUnlike_67 : decode cX0_findUnlike 67 = .ok (.getfield 14, 3) := by decide +kernel
theorem dX0_findUnlike_70 : decode cX0_findUnlike 70 = .ok (.iload 4, 2) := by decide +kernel
theorem dX0_findUnlike_72 : decode cX0_findUnlike 72 = .ok (.iload 5, 2) := by decide +kernel
theorem dX0_findUnlike_74 : decode cX0_findUnlike 74 = .ok (.invokevirtual 31, 3) := by decide +kernel
theorem dX0_findUnlike_77 : decode cX0_findUnlike 77 = .ok (.iinc 4 1, 3) := by decide +kernel
theorem dX0_findUnlike_80 : decode cX0_findUnlike 80 = .ok (.goto (-54), 3) := by decide +kernel
theorem dX0_findUnlike_83 : decode cX0_findUnlike 83 = .ok (.iinc 3 1, 3) := by decide +kernel
theorem dX0_findUnlike_86 : decode cX0_findUnlike 86 = .ok (.goto (-75), 3) := by decide +kernel
theorem dX0_findUnlike_89 : decode cX0_findUnlike 89 = .ok (.return_, 1) := by decide +kernel
theorem dX0_classesAmong_0 : decode cX0_classesAmong 0 = .ok (.iconst 0, 1) := by decide +kernel
theorem dX0_classesAmong_1 : decode cX0_classesAmong 1 = .ok (.istore_n 2, 1) := by decide +kernel
theorem dX0_classesAmong_2 : decode cX0_classesAmong 2 = .ok (.iconst 0, 1) := by decide +kernel
theorem dX0_classesAmong_3 : decode cX0_classesAmong 3 = .ok (.istore_n 3, 1) := by decide +kernel
theorem dX0_classesAmong_4 : decode cX0_classesAmong 4 = .ok (.iload_n 3, 1) := by decide +kernel
theorem dX0_classesAmong_5 : decode cX0_classesAmong 5 = .ok (.bipush 16, 2) := by decide +kernel
theorem dX0_classesAmong_7 : decode cX0_classesAmong 7 = .ok (.if_icmp .ge 46, 3) := by decide +kernel
theorem dX0_classesAmong_10 : decode cX0_classesAmong 10 = .ok (.iload_n 1, 1) := by decide +kernel
theorem dX0_classesAmong_11 : decode cX0_classesAmong 11 = .ok (.aload_n 0, 1) := by decide +kernel
theorem dX0_classesAmong_12 : decode cX0_classesAmong 12 = .ok (.getfield 14, 3) := by decide +kernel
theorem dX0_classesAmong_15 : decode cX0_classesAmong 15 = .ok (.iload_n 3, 1) := by decide +kernel
theorem dX0_classesAmong_16 : decode cX0_classesAmong 16 = .ok (.invokevirtual 27, 3) := by decide +kernel
theorem dX0_classesAmong_19 : decode cX0_classesAmong 19 = .ok (.iconst (-1), 1) := by decide +kernel
theorem dX0_classesAmong_20 : decode cX0_classesAmong 20 = .ok (.ixor, 1) := by decide +kernel
theorem dX0_classesAmong_21 : decode cX0_classesAmong 21 = .ok (.iand, 1) := by decide +kernel
theorem dX0_classesAmong_22 : decode cX0_classesAmong 22 = .ok (.iconst 1, 1) := by decide +kernel
theorem dX0_classesAmong_23 : decode cX0_classesAmong 23 = .ok (.iload_n 3, 1) := by decide +kernel
theorem dX0_classesAmong_24 : decode cX0_classesAmong 24 = .ok (.ishl, 1) := by decide +kernel
theorem dX0_classesAmong_25 : decode cX0_classesAmong 25 = .ok (.iconst 1, 1) := by decide +kernel
theorem dX0_classesAmong_26 : decode cX0_classesAmong 26 = .ok (.isub, 1) := by decide +kernel
theorem dX0_classesAmong_27 : decode cX0_classesAmong 27 = .ok (.iand, 1) := by decide +kernel
theorem dX0_classesAmong_28 : decode cX0_classesAmong 28 = .ok (.istore 4, 2) := by decide +kernel
theorem dX0_classesAmong_30 : decode cX0_classesAmong 30 = .ok (.iload_n 1, 1) := by decide +kernel
theorem dX0_classesAmong_31 : decode cX0_classesAmong 31 = .ok (.iload_n 3, 1) := by decide +kernel
theorem dX0_classesAmong_32 : decode cX0_classesAmong 32 = .ok (.invokestatic 35, 3) := by decide +kernel
theorem dX0_classesAmong_35 : decode cX0_classesAmong 35 = .ok (.iconst 1, 1) := by decide +kernel
theorem dX0_classesAmong_36 : decode cX0_classesAmong 36 = .ok (.if_icmp .ne 11, 3) := by decide +kernel
theorem dX0_classesAmong_39 : decode cX0_classesAmong 39 = .ok (.iload 4, 2) := by decide +kernel
theorem dX0_classesAmong_41 : decode cX0_classesAmong 41 = .ok (.ifCond .ne 6, 3) := by decide +kernel
theorem dX0_classesAmong_44 : decode cX0_classesAmong 44 = .ok (.iinc 2 1, 3) := by decide +kernel
theorem dX0_classesAmong_47 : decode cX0_classesAmong 47 = .ok (.iinc 3 1, 3) := by decide +kernel
theorem dX0_classesAmong_50 : decode cX0_classesAmong 50 = .ok (.goto (-46), 3) := by decide +kernel
theorem dX0_classesAmong_53 : decode cX0_classesAmong 53 = .ok (.iload_n 2, 1) := by decide +kernel
theorem dX0_classesAmong_54 : decode cX0_classesAmong 54 = .ok (.ireturn, 1) := by decide +kernel
theorem dX0_unlikeTo_0 : decode cX0_unlikeTo 0 = .ok (.iconst 0, 1) := by decide +kernel
theorem dX0_unlikeTo_1 : decode cX0_unlikeTo 1 = .ok (.istore_n 3, 1) := by decide +kernel
theorem dX0_unlikeTo_2 : decode cX0_unlikeTo 2 = .ok (.iconst 0, 1) := by decide +kernel
theorem dX0_unlikeTo_3 : decode cX0_unlikeTo 3 = .ok (.istore 4, 2) := by decide +kernel
theorem dX0_unlikeTo_5 : decode cX0_unlikeTo 5 = .ok (.iload 4, 2) := by decide +kernel
theorem dX0_unlikeTo_7 : decode cX0_unlikeTo 7 = .ok (.bipush 16, 2) := by decide +kernel
theorem dX0_unlikeTo_9 : decode cX0_unlikeTo 9 = .ok (.if_icmp .ge 41, 3) := by decide +kernel
theorem dX0_unlikeTo_12 : decode cX0_unlikeTo 12 = .ok (.aload_n 2, 1) := by decide +kernel
theorem dX0_unlikeTo_13 : decode cX0_unlikeTo 13 = .ok (.iload_n 1, 1) := by decide +kernel
theorem dX0_unlikeTo_14 : decode cX0_unlikeTo 14 = .ok (.invokevirtual 39, 3) := by decide +kernel
theorem dX0_unlikeTo_17 : decode cX0_unlikeTo 17 = .ok (.aload_n 2, 1) := by decide +kernel
theorem dX0_unlikeTo_18 : decode cX0_unlikeTo 18 = .ok (.iload 4, 2) := by decide +kernel
theorem dX0_unlikeTo_20 : decode cX0_unlikeTo 20 = .ok (.invokevirtual 39, 3) := by decide +kernel
theorem dX0_unlikeTo_23 : decode cX0_unlikeTo 23 = .ok (.if_icmp .ne 14, 3) := by decide +kernel
theorem dX0_unlikeTo_26 : decode cX0_unlikeTo 26 = .ok (.aload_n 0, 1) := by decide +kernel
theorem dX0_unlikeTo_27 : decode cX0_unlikeTo 27 = .ok (.iload_n 1, 1) := by decide +kernel
theorem dX0_unlikeTo_28 : decode cX0_unlikeTo 28 = .ok (.iload 4, 2) := by decide +kernel
theorem dX0_unlikeTo_30 : decode cX0_unlikeTo 30 = .ok (.aload_n 2, 1) := by decide +kernel
theorem dX0_unlikeTo_31 : decode cX0_unlikeTo 31 = .ok (.invokevirtual 44, 3) := by decide +kernel
theorem dX0_unlikeTo_34 : decode cX0_unlikeTo 34 = .ok (.ifCond .eq 10, 3) := by decide +kernel
theorem dX0_unlikeTo_37 : decode cX0_unlikeTo 37 = .ok (.iload_n 3, 1) := by decide +kernel
theorem dX0_unlikeTo_38 : decode cX0_unlikeTo 38 = .ok (.iconst 1, 1) := by decide +kernel
theorem dX0_unlikeTo_39 : decode cX0_unlikeTo 39 = .ok (.iload 4, 2) := by decide +kernel
theorem dX0_unlikeTo_41 : decode cX0_unlikeTo 41 = .ok (.ishl, 1) := by decide +kernel
theorem dX0_unlikeTo_42 : decode cX0_unlikeTo 42 = .ok (.ior, 1) := by decide +kernel
theorem dX0_unlikeTo_43 : decode cX0_unlikeTo 43 = .ok (.istore_n 3, 1) := by decide +kernel
theorem dX0_unlikeTo_44 : decode cX0_unlikeTo 44 = .ok (.iinc 4 1, 3) := by decide +kernel
theorem dX0_unlikeTo_47 : decode cX0_unlikeTo 47 = .ok (.goto (-42), 3) := by decide +kernel
theorem dX0_unlikeTo_50 : decode cX0_unlikeTo 50 = .ok (.iload_n 3, 1) := by decide +kernel
theorem dX0_unlikeTo_51 : decode cX0_unlikeTo 51 = .ok (.ireturn, 1) := by decide +kernel
theorem dX0_leadToUnlike_0 : decode cX0_leadToUnlike 0 = .ok (.iconst 0, 1) := by decide +kernel
theorem dX0_leadToUnlike_1 : decode cX0_leadToUnlike 1 = .ok (.istore 4, 2) := by decide +kernel
theorem dX0_leadToUnlike_3 : decode cX0_leadToUnlike 3 = .ok (.iconst 0, 1) := by decide +kernel
theorem dX0_leadToUnlike_4 : decode cX0_leadToUnlike 4 = .ok (.istore 5, 2) := by decide +kernel
theorem dX0_leadToUnlike_6 : decode cX0_leadToUnlike 6 = .ok (.iload 5, 2) := by decide +kernel
theorem dX0_leadToUnlike_8 : decode cX0_leadToUnlike 8 = .ok (.iconst 4, 1) := by decide +kernel
theorem dX0_leadToUnlike_9 : decode cX0_leadToUnlike 9 = .ok (.if_icmp .ge 57, 3) := by decide +kernel
theorem dX0_leadToUnlike_12 : decode cX0_leadToUnlike 12 = .ok (.iload 4, 2) := by decide +kernel
theorem dX0_leadToUnlike_14 : decode cX0_leadToUnlike 14 = .ok (.ifCond .ne 52, 3) := by decide +kernel
theorem dX0_leadToUnlike_17 : decode cX0_leadToUnlike 17 = .ok (.aload_n 3, 1) := by decide +kernel
theorem dX0_leadToUnlike_18 : decode cX0_leadToUnlike 18 = .ok (.iload_n 1, 1) := by decide +kernel
theorem dX0_leadToUnlike_19 : decode cX0_leadToUnlike 19 = .ok (.iload 5, 2) := by decide +kernel
theorem dX0_leadToUnlike_21 : decode cX0_leadToUnlike 21 = .ok (.invokevirtual 48, 3) := by decide +kernel
theorem dX0_leadToUnlike_24 : decode cX0_leadToUnlike 24 = .ok (.istore 6, 2) := by decide +kernel
theorem dX0_leadToUnlike_26 : decode cX0_leadToUnlike 26 = .ok (.aload_n 3, 1) := by decide +kernel
theorem dX0_leadToUnlike_27 : decode cX0_leadToUnlike 27 = .ok (.iload_n 2, 1) := by decide +kernel
theorem dX0_leadToUnlike_28 : decode cX0_leadToUnlike 28 = .ok (.iload 5, 2) := by decide +kernel
theorem dX0_leadToUnlike_30 : decode cX0_leadToUnlike 30 = .ok (.invokevirtual 48, 3) := by decide +kernel
theorem dX0_leadToUnlike_33 : decode cX0_leadToUnlike 33 = .ok (.istore 7, 2) := by decide +kernel
theorem dX0_leadToUnlike_35 : decode cX0_leadToUnlike 35 = .ok (.aload_n 0, 1) := by decide +kernel
theorem dX0_leadToUnlike_36 : decode cX0_leadToUnlike 36 = .ok (.getfield 14, 3) := by decide +kernel
theorem dX0_leadToUnlike_39 : decode cX0_leadToUnlike 39 = .ok (.iload 6, 2) := by decide +kernel
theorem dX0_leadToUnlike_41 : decode cX0_leadToUnlike 41 = .ok (.invokevirtual 27, 3) := by decide +kernel
theorem dX0_leadToUnlike_44 : decode cX0_leadToUnlike 44 = .ok (.iload 7, 2) := by decide +kernel
theorem dX0_leadToUnlike_46 : decode cX0_leadToUnlike 46 = .ok (.invokestatic 35, 3) := by decide +kernel
theorem dX0_leadToUnlike_49 : decode cX0_leadToUnlike 49 = .ok (.iconst 1, 1) := by decide +kernel
theorem dX0_leadToUnlike_50 : decode cX0_leadToUnlike 50 = .ok (.if_icmp .ne 7, 3) := by decide +kernel
theorem dX0_leadToUnlike_53 : decode cX0_leadToUnlike 53 = .ok (.iconst 1, 1) := by decide +kernel
theorem dX0_leadToUnlike_54 : decode cX0_leadToUnlike 54 = .ok (.goto 4, 3) := by decide +kernel
theorem dX0_leadToUnlike_57 : decode cX0_leadToUnlike 57 = .ok (.iconst 0, 1) := by decide +kernel
theorem dX0_leadToUnlike_58 : decode cX0_leadToUnlike 58 = .ok (.istore 4, 2) := by decide +kernel
theorem dX0_leadToUnlike_60 : decode cX0_leadToUnlike 60 = .ok (.iinc 5 1, 3) := by decide +kernel
theorem dX0_leadToUnlike_63 : decode cX0_leadToUnlike 63 = .ok (.goto (-57), 3) := by decide +kernel
theorem dX0_leadToUnlike_66 : decode cX0_leadToUnlike 66 = .ok (.iload 4, 2) := by decide +kernel
theorem dX0_leadToUnlike_68 : decode cX0_leadToUnlike 68 = .ok (.ireturn, 1) := by decide +kernel
theorem dX1_init_0 : decode cX1_init 0 = .ok (.aload_n 0, 1) := by decide +kernel
theorem dX1_init_1 : decode cX1_init 1 = .ok (.invokespecial 3, 3) := by decide +kernel
theorem dX1_init_4 : decode cX1_init 4 = .ok (.aload_n 0, 1) := by decide +kernel
theorem dX1_init_5 : decode cX1_init 5 = .ok (.new 9, 3) := by decide +kernel
theorem dX1_init_8 : decode cX1_init 8 = .ok (.dup, 1) := by decide +kernel
theorem dX1_init_9 : decode cX1_init 9 = .ok (.iconst 4, 1) := by decide +kernel
theorem dX1_init_10 : decode cX1_init 10 = .ok (.invokespecial 11, 3) := by decide +kernel
theorem dX1_init_13 : decode cX1_init 13 = .ok (.putfield 14, 3) := by decide +kernel
theorem dX1_init_16 : decode cX1_init 16 = .ok (.aload_n 0, 1) := by decide +kernel
theorem dX1_init_17 : decode cX1_init 17 = .ok (.new 9, 3) := by decide +kernel
theorem dX1_init_20 : decode cX1_init 20 = .ok (.dup, 1) := by decide +kernel
theorem dX1_init_21 : decode cX1_init 21 = .ok (.bipush 8, 2) := by decide +kernel
theorem dX1_init_23 : decode cX1_init 23 = .ok (.invokespecial 11, 3) := by decide +kernel
theorem dX1_init_26 : decode cX1_init 26 = .ok (.putfield 20, 3) := by decide +kernel
theorem dX1_init_29 : decode cX1_init 29 = .ok (.aload_n 0, 1) := by decide +kernel
theorem dX1_init_30 : decode cX1_init 30 = .ok (.invokevirtual 23, 3) := by decide +kernel
theorem dX1_init_33 : decode cX1_init 33 = .ok (.return_, 1) := by decide +kernel
theorem dX1_startAnew_0 : decode cX1_startAnew 0 = .ok (.aload_n 0, 1) := by decide +kernel
theorem dX1_startAnew_1 : decode cX1_startAnew 1 = .ok (.iconst 0, 1) := by decide +kernel
theorem dX1_startAnew_2 : decode cX1_startAnew 2 = .ok (.putfield 26, 3) := by decide +kernel
theorem dX1_startAnew_5 : decode cX1_startAnew 5 = .ok (.aload_n 0, 1) := by decide +kernel
theorem dX1_startAnew_6 : decode cX1_startAnew 6 = .ok (.bipush 14, 2) := by decide +kernel
theorem dX1_startAnew_8 : decode cX1_startAnew 8 = .ok (.putfield 30, 3) := by decide +kernel
theorem dX1_startAnew_11 : decode cX1_startAnew 11 = .ok (.iconst 0, 1) := by decide +kernel
theorem dX1_startAnew_12 : decode cX1_startAnew 12 = .ok (.istore_n 1, 1) := by decide +kernel
theorem dX1_startAnew_13 : decode cX1_startAnew 13 = .ok (.iload_n 1, 1) := by decide +kernel
theorem dX1_startAnew_14 : decode cX1_startAnew 14 = .ok (.iconst 4, 1) := by decide +kernel
theorem dX1_startAnew_15 : decode cX1_startAnew 15 = .ok (.if_icmp .ge 17, 3) := by decide +kernel
theorem dX1_startAnew_18 : decode cX1_startAnew 18 = .ok (.aload_n 0, 1) := by decide +kernel
theorem dX1_startAnew_19 : decode cX1_startAnew 19 = .ok (.iload_n 1, 1) := by decide +kernel
theorem dX1_startAnew_20 : decode cX1_startAnew 20 = .ok (.bipush 14, 2) := by decide +kernel
theorem dX1_startAnew_22 : decode cX1_startAnew 22 = .ok (.iconst 0, 1) := by decide +kernel
theorem dX1_startAnew_23 : decode cX1_startAnew 23 = .ok (.invokevirtual 33, 3) := by decide +kernel
theorem dX1_startAnew_26 : decode cX1_startAnew 26 = .ok (.iinc 1 1, 3) := by decide +kernel
theorem dX1_startAnew_29 : decode cX1_startAnew 29 = .ok (.goto (-16), 3) := by decide +kernel
theorem dX1_startAnew_32 : decode cX1_startAnew 32 = .ok (.return_, 1) := by decide +kernel
theorem dX1_gateCount_0 : decode cX1_gateCount 0 = .ok (.aload_n 0, 1) := by decide +kernel
theorem dX1_gateCount_1 : decode cX1_gateCount 1 = .ok (.getfield 26, 3) := by decide +kernel
theorem dX1_gateCount_4 : decode cX1_gateCount 4 = .ok (.ireturn, 1) := by decide +kernel
theorem dX1_outputWire_0 : decode cX1_outputWire 0 = .ok (.aload_n 0, 1) := by decide +kernel
theorem dX1_outputWire_1 : decode cX1_outputWire 1 = .ok (.getfield 30, 3) := by decide +kernel
theorem dX1_outputWire_4 : decode cX1_outputWire 4 = .ok (.ireturn, 1) := by decide +kernel
theorem dX1_setOutputWire_0 : decode cX1_setOutputWire 0 = .ok (.aload_n 0, 1) := by decide +kernel
theorem dX1_setOutputWire_1 : decode cX1_setOutputWire 1 = .ok (.iload_n 1, 1) := by decide +kernel
theorem dX1_setOutputWire_2 : decode cX1_setOutputWire 2 = .ok (.putfield 30, 3) := by decide +kernel
theorem dX1_setOutputWire_5 : decode cX1_setOutputWire 5 = .ok (.return_, 1) := by decide +kernel
theorem dX1_setRegister_0 : decode cX1_setRegister 0 = .ok (.aload_n 0, 1) := by decide +kernel
theorem dX1_setRegister_1 : decode cX1_setRegister 1 = .ok (.getfield 14, 3) := by decide +kernel
theorem dX1_setRegister_4 : decode cX1_setRegister 4 = .ok (.iload_n 1, 1) := by decide +kernel
theorem dX1_setRegister_5 : decode cX1_setRegister 5 = .ok (.iconst 2, 1) := by decide +kernel
theorem dX1_setRegister_6 : decode cX1_setRegister 6 = .ok (.iload_n 2, 1) := by decide +kernel
theorem dX1_setRegister_7 : decode cX1_setRegister 7 = .ok (.imul, 1) := by decide +kernel
theorem dX1_setRegister_8 : decode cX1_setRegister 8 = .ok (.iload_n 3, 1) := by decide +kernel
theorem dX1_setRegister_9 : decode cX1_setRegister 9 = .ok (.iadd, 1) := by decide +kernel
theorem dX1_setRegister_10 : decode cX1_setRegister 10 = .ok (.invokevirtual 37, 3) := by decide +kernel
theorem dX1_setRegister_13 : decode cX1_setRegister 13 = .ok (.return_, 1) := by decide +kernel
theorem dX1_nextWire_0 : decode cX1_nextWire 0 = .ok (.aload_n 0, 1) := by decide +kernel
theorem dX1_nextWire_1 : decode cX1_nextWire 1 = .ok (.getfield 14, 3) := by decide +kernel
theorem dX1_nextWire_4 : decode cX1_nextWire 4 = .ok (.iload_n 1, 1) := by decide +kernel
theorem dX1_nextWire_5 : decode cX1_nextWire 5 = .ok (.invokevirtual 41, 3) := by decide +kernel
theorem dX1_nextWire_8 : decode cX1_nextWire 8 = .ok (.iconst 1, 1) := by decide +kernel
theorem dX1_nextWire_9 : decode cX1_nextWire 9 = .ok (.ishr, 1) := by decide +kernel
theorem dX1_nextWire_10 : decode cX1_nextWire 10 = .ok (.ireturn, 1) := by decide +kernel
theorem dX1_firstBit_0 : decode cX1_firstBit 0 = .ok (.aload_n 0, 1) := by decide +kernel
theorem dX1_firstBit_1 : decode cX1_firstBit 1 = .ok (.getfield 14, 3) := by decide +kernel
theorem dX1_firstBit_4 : decode cX1_firstBit 4 = .ok (.iload_n 1, 1) := by decide +kernel
theorem dX1_firstBit_5 : decode cX1_firstBit 5 = .ok (.invokevirtual 41, 3) := by decide +kernel
theorem dX1_firstBit_8 : decode cX1_firstBit 8 = .ok (.iconst 1, 1) := by decide +kernel
theorem dX1_firstBit_9 : decode cX1_firstBit 9 = .ok (.iand, 1) := by decide +kernel
theorem dX1_firstBit_10 : decode cX1_firstBit 10 = .ok (.ireturn, 1) := by decide +kernel
theorem dX1_firstState_0 : decode cX1_firstState 0 = .ok (.iconst 0, 1) := by decide +kernel
theorem dX1_firstState_1 : decode cX1_firstState 1 = .ok (.istore_n 1, 1) := by decide +kernel
theorem dX1_firstState_2 : decode cX1_firstState 2 = .ok (.iconst 0, 1) := by decide +kernel
theorem dX1_firstState_3 : decode cX1_firstState 3 = .ok (.istore_n 2, 1) := by decide +kernel
theorem dX1_firstState_4 : decode cX1_firstState 4 = .ok (.iload_n 2, 1) := by decide +kernel
theorem dX1_firstState_5 : decode cX1_firstState 5 = .ok (.iconst 4, 1) := by decide +kernel
theorem dX1_firstState_6 : decode cX1_firstState 6 = .ok (.if_icmp .ge 19, 3) := by decide +kernel
theorem dX1_firstState_9 : decode cX1_firstState 9 = .ok (.iload_n 1, 1) := by decide +kernel
theorem dX1_firstState_10 : decode cX1_firstState 10 = .ok (.aload_n 0, 1) := by decide +kernel
theorem dX1_firstState_11 : decode cX1_firstState 11 = .ok (.iload_n 2, 1) := by decide +kernel
theorem dX1_firstState_12 : decode cX1_firstState 12 = .ok (.invokevirtual 45, 3) := by decide +kernel
theorem dX1_firstState_15 : decode cX1_firstState 15 = .ok (.iload_n 2, 1) := by decide +kernel
theorem dX1_firstState_16 : decode cX1_firstState 16 = .ok (.ishl, 1) := by decide +kernel
theorem dX1_firstState_17 : decode cX1_firstState 17 = .ok (.ior, 1) := by decide +kernel
theorem dX1_firstState_18 : decode cX1_firstState 18 = .ok (.istore_n 1, 1) := by decide +kernel
theorem dX1_firstState_19 : decode cX1_firstState 19 = .ok (.iinc 2 1, 3) := by decide +kernel
theorem dX1_firstState_22 : decode cX1_firstState 22 = .ok (.goto (-18), 3) := by decide +kernel
theorem dX1_firstState_25 : decode cX1_firstState 25 = .ok (.iload_n 1, 1) := by decide +kernel
theorem dX1_firstState_26 : decode cX1_firstState 26 = .ok (.ireturn, 1) := by decide +kernel
theorem dX1_setGate_0 : decode cX1_setGate 0 = .ok (.aload_n 0, 1) := by decide +kernel
theorem dX1_setGate_1 : decode cX1_setGate 1 = .ok (.getfield 20, 3) := by decide +kernel
theorem dX1_setGate_4 : decode cX1_setGate 4 = .ok (.iload_n 1, 1) := by decide +kernel
theorem dX1_setGate_5 : decode cX1_setGate 5 = .ok (.iload_n 2, 1) := by decide +kernel
theorem dX1_setGate_6 : decode cX1_setGate 6 = .ok (.bipush 8, 2) := by decide +kernel
theorem dX1_setGate_8 : decode cX1_setGate 8 = .ok (.ishl, 1) := by decide +kernel
theorem dX1_setGate_9 : decode cX1_setGate 9 = .ok (.iload_n 3, 1) := by decide +kernel
theorem dX1_setGate_10 : decode cX1_setGate 10 = .ok (.iconst 4, 1) := by decide +kernel
theorem dX1_setGate_11 : decode cX1_setGate 11 = .ok (.ishl, 1) := by decide +kernel
theorem dX1_setGate_12 : decode cX1_setGate 12 = .ok (.ior, 1) := by decide +kernel
theorem dX1_setGate_13 : decode cX1_setGate 13 = .ok (.iload 4, 2) := by decide +kernel
theorem dX1_setGate_15 : decode cX1_setGate 15 = .ok (.ior, 1) := by decide +kernel
theorem dX1_setGate_16 : decode cX1_setGate 16 = .ok (.invokevirtual 37, 3) := by decide +kernel
theorem dX1_setGate_19 : decode cX1_setGate 19 = .ok (.iload_n 1, 1) := by decide +kernel
theorem dX1_setGate_20 : decode cX1_setGate 20 = .ok (.aload_n 0, 1) := by decide +kernel
theorem dX1_setGate_21 : decode cX1_setGate 21 = .ok (.getfield 26, 3) := by decide +kernel
theorem dX1_setGate_24 : decode cX1_setGate 24 = .ok (.if_icmp .ne 22, 3) := by decide +kernel
theorem dX1_setGate_27 : decode cX1_setGate 27 = .ok (.aload_n 0, 1) := by decide +kernel
theorem dX1_setGate_28 : decode cX1_setGate 28 = .ok (.getfield 26, 3) := by decide +kernel
theorem dX1_setGate_31 : decode cX1_setGate 31 = .ok (.bipush 8, 2) := by decide +kernel
theorem dX1_setGate_33 : decode cX1_setGate 33 = .ok (.if_icmp .ge 13, 3) := by decide +kernel
theorem dX1_setGate_36 : decode cX1_setGate 36 = .ok (.aload_n 0, 1) := by decide +kernel
theorem dX1_setGate_37 : decode cX1_setGate 37 = .ok (.dup, 1) := by decide +kernel
theorem dX1_setGate_38 : decode cX1_setGate 38 = .ok (.getfield 26, 3) := by decide +kernel
theorem dX1_setGate_41 : decode cX1_setGate 41 = .ok (.iconst 1, 1) := by decide +kernel
theorem dX1_setGate_42 : decode cX1_setGate 42 = .ok (.iadd, 1) := by decide +kernel
theorem dX1_setGate_43 : decode cX1_setGate 43 = .ok (.putfield 26, 3) := by decide +kernel
theorem dX1_setGate_46 : decode cX1_setGate 46 = .ok (.return_, 1) := by decide +kernel
theorem dX1_kindOf_0 : decode cX1_kindOf 0 = .ok (.aload_n 0, 1) := by decide +kernel
theorem dX1_kindOf_1 : decode cX1_kindOf 1 = .ok (.getfield 20, 3) := by decide +kernel
theorem dX1_kindOf_4 : decode cX1_kindOf 4 = .ok (.iload_n 1, 1) := by decide +kernel
theorem dX1_kindOf_5 : decode cX1_kindOf 5 = .ok (.invokevirtual 41, 3) := by decide +kernel
theorem dX1_kindOf_8 : decode cX1_kindOf 8 = .ok (.bipush 8, 2) := by decide +kernel
theorem dX1_kindOf_10 : decode cX1_kindOf 10 = .ok (.ishr, 1) := by decide +kernel
theorem dX1_kindOf_11 : decode cX1_kindOf 11 = .ok (.ireturn, 1) := by decide +kernel
theorem dX1_firstWire_0 : decode cX1_firstWire 0 = .ok (.aload_n 0, 1) := by decide +kernel
theorem dX1_firstWire_1 : decode cX1_firstWire 1 = .ok (.getfield 20, 3) := by decide +kernel
theorem dX1_firstWire_4 : decode cX1_firstWire 4 = .ok (.iload_n 1, 1) := by decide +kernel
theorem dX1_firstWire_5 : decode cX1_firstWire 5 = .ok (.invokevirtual 41, 3) := by decide +kernel
theorem dX1_firstWire_8 : decode cX1_firstWire 8 = .ok (.iconst 4, 1) := by decide +kernel
theorem dX1_firstWire_9 : decode cX1_firstWire 9 = .ok (.ishr, 1) := by decide +kernel
theorem dX1_firstWire_10 : decode cX1_firstWire 10 = .ok (.bipush 15, 2) := by decide +kernel
theorem dX1_firstWire_12 : decode cX1_firstWire 12 = .ok (.iand, 1) := by decide +kernel
theorem dX1_firstWire_13 : decode cX1_firstWire 13 = .ok (.ireturn, 1) := by decide +kernel
theorem dX1_secondWire_0 : decode cX1_secondWire 0 = .ok (.aload_n 0, 1) := by decide +kernel
theorem dX1_secondWire_1 : decode cX1_secondWire 1 = .ok (.getfield 20, 3) := by decide +kernel
theorem dX1_secondWire_4 : decode cX1_secondWire 4 = .ok (.iload_n 1, 1) := by decide +kernel
theorem dX1_secondWire_5 : decode cX1_secondWire 5 = .ok (.invokevirtual 41, 3) := by decide +kernel
theorem dX1_secondWire_8 : decode cX1_secondWire 8 = .ok (.bipush 15, 2) := by decide +kernel
theorem dX1_secondWire_10 : decode cX1_secondWire 10 = .ok (.iand, 1) := by decide +kernel
theorem dX1_secondWire_11 : decode cX1_secondWire 11 = .ok (.ireturn, 1) := by decide +kernel
theorem dX1_wireBits_0 : decode cX1_wireBits 0 = .ok (.ldc 48, 2) := by decide +kernel
theorem dX1_wireBits_2 : decode cX1_wireBits 2 = .ok (.iload_n 1, 1) := by decide +kernel
theorem dX1_wireBits_3 : decode cX1_wireBits 3 = .ok (.iconst 2, 1) := by decide +kernel
theorem dX1_wireBits_4 : decode cX1_wireBits 4 = .ok (.ishl, 1) := by decide +kernel
theorem dX1_wireBits_5 : decode cX1_wireBits 5 = .ok (.ior, 1) := by decide +kernel
theorem dX1_wireBits_6 : decode cX1_wireBits 6 = .ok (.iload_n 2, 1) := by decide +kernel
theorem dX1_wireBits_7 : decode cX1_wireBits 7 = .ok (.ior, 1) := by decide +kernel
theorem dX1_wireBits_8 : decode cX1_wireBits 8 = .ok (.istore_n 3, 1) := by decide +kernel
theorem dX1_wireBits_9 : decode cX1_wireBits 9 = .ok (.iconst 0, 1) := by decide +kernel
theorem dX1_wireBits_10 : decode cX1_wireBits 10 = .ok (.istore 4, 2) := by decide +kernel
theorem dX1_wireBits_12 : decode cX1_wireBits 12 = .ok (.iload 4, 2) := by decide +kernel
theorem dX1_wireBits_14 : decode cX1_wireBits 14 = .ok (.aload_n 0, 1) := by decide +kernel
theorem dX1_wireBits_15 : decode cX1_wireBits 15 = .ok (.getfield 26, 3) := by decide +kernel
theorem dX1_wireBits_18 : decode cX1_wireBits 18 = .ok (.if_icmp .ge 62, 3) := by decide +kernel
theorem dX1_wireBits_21 : decode cX1_wireBits 21 = .ok (.iload 4, 2) := by decide +kernel
theorem dX1_wireBits_23 : decode cX1_wireBits 23 = .ok (.bipush 8, 2) := by decide +kernel
theorem dX1_wireBits_25 : decode cX1_wireBits 25 = .ok (.if_icmp .ge 55, 3) := by decide +kernel
theorem dX1_wireBits_28 : decode cX1_wireBits 28 = .ok (.iload_n 3, 1) := by decide +kernel
theorem dX1_wireBits_29 : decode cX1_wireBits 29 = .ok (.aload_n 0, 1) := by decide +kernel
theorem dX1_wireBits_30 : decode cX1_wireBits 30 = .ok (.iload 4, 2) := by decide +kernel
theorem dX1_wireBits_32 : decode cX1_wireBits 32 = .ok (.invokevirtual 49, 3) := by decide +kernel
theorem dX1_wireBits_35 : decode cX1_wireBits 35 = .ok (.invokestatic 52, 3) := by decide +kernel
theorem dX1_wireBits_38 : decode cX1_wireBits 38 = .ok (.istore 5, 2) := by decide +kernel
theorem dX1_wireBits_40 : decode cX1_wireBits 40 = .ok (.iload_n 3, 1) := by decide +kernel
theorem dX1_wireBits_41 : decode cX1_wireBits 41 = .ok (.aload_n 0, 1) := by decide +kernel
theorem dX1_wireBits_42 : decode cX1_wireBits 42 = .ok (.iload 4, 2) := by decide +kernel
theorem dX1_wireBits_44 : decode cX1_wireBits 44 = .ok (.invokevirtual 56, 3) := by decide +kernel
theorem dX1_wireBits_47 : decode cX1_wireBits 47 = .ok (.invokestatic 52, 3) := by decide +kernel
theorem dX1_wireBits_50 : decode cX1_wireBits 50 = .ok (.istore 6, 2) := by decide +kernel
theorem dX1_wireBits_52 : decode cX1_wireBits 52 = .ok (.iload_n 3, 1) := by decide +kernel
theorem dX1_wireBits_53 : decode cX1_wireBits 53 = .ok (.aload_n 0, 1) := by decide +kernel
theorem dX1_wireBits_54 : decode cX1_wireBits 54 = .ok (.iload 4, 2) := by decide +kernel
theorem dX1_wireBits_56 : decode cX1_wireBits 56 = .ok (.invokevirtual 59, 3) := by decide +kernel
theorem dX1_wireBits_59 : decode cX1_wireBits 59 = .ok (.iload 5, 2) := by decide +kernel
theorem dX1_wireBits_61 : decode cX1_wireBits 61 = .ok (.iload 6, 2) := by decide +kernel
theorem dX1_wireBits_63 : decode cX1_wireBits 63 = .ok (.invokestatic 62, 3) := by decide +kernel
theorem dX1_wireBits_66 : decode cX1_wireBits 66 = .ok (.bipush 6, 2) := by decide +kernel
theorem dX1_wireBits_68 : decode cX1_wireBits 68 = .ok (.iload 4, 2) := by decide +kernel
theorem dX1_wireBits_70 : decode cX1_wireBits 70 = .ok (.iadd, 1) := by decide +kernel
theorem dX1_wireBits_71 : decode cX1_wireBits 71 = .ok (.ishl, 1) := by decide +kernel
theorem dX1_wireBits_72 : decode cX1_wireBits 72 = .ok (.ior, 1) := by decide +kernel
theorem dX1_wireBits_73 : decode cX1_wireBits 73 = .ok (.istore_n 3, 1) := by decide +kernel
theorem dX1_wireBits_74 : decode cX1_wireBits 74 = .ok (.iinc 4 1, 3) := by decide +kernel
theorem dX1_wireBits_77 : decode cX1_wireBits 77 = .ok (.goto (-65), 3) := by decide +kernel
theorem dX1_wireBits_80 : decode cX1_wireBits 80 = .ok (.iload_n 3, 1) := by decide +kernel
theorem dX1_wireBits_81 : decode cX1_wireBits 81 = .ok (.ireturn, 1) := by decide +kernel
theorem dX1_gateBit_0 : decode cX1_gateBit 0 = .ok (.iload_n 0, 1) := by decide +kernel
theorem dX1_gateBit_1 : decode cX1_gateBit 1 = .ok (.tableswitch 55 0 4 #[35, 39, 43, 47, 53], 35) := by decide +kernel
theorem dX1_gateBit_36 : decode cX1_gateBit 36 = .ok (.iload_n 1, 1) := by decide +kernel
theorem dX1_gateBit_37 : decode cX1_gateBit 37 = .ok (.iload_n 2, 1) := by decide +kernel
theorem dX1_gateBit_38 : decode cX1_gateBit 38 = .ok (.iand, 1) := by decide +kernel
theorem dX1_gateBit_39 : decode cX1_gateBit 39 = .ok (.ireturn, 1) := by decide +kernel
theorem dX1_gateBit_40 : decode cX1_gateBit 40 = .ok (.iload_n 1, 1) := by decide +kernel
theorem dX1_gateBit_41 : decode cX1_gateBit 41 = .ok (.iload_n 2, 1) := by decide +kernel
theorem dX1_gateBit_42 : decode cX1_gateBit 42 = .ok (.ior, 1) := by decide +kernel
theorem dX1_gateBit_43 : decode cX1_gateBit 43 = .ok (.ireturn, 1) := by decide +kernel
theorem dX1_gateBit_44 : decode cX1_gateBit 44 = .ok (.iload_n 1, 1) := by decide +kernel
theorem dX1_gateBit_45 : decode cX1_gateBit 45 = .ok (.iload_n 2, 1) := by decide +kernel
theorem dX1_gateBit_46 : decode cX1_gateBit 46 = .ok (.ixor, 1) := by decide +kernel
theorem dX1_gateBit_47 : decode cX1_gateBit 47 = .ok (.ireturn, 1) := by decide +kernel
theorem dX1_gateBit_48 : decode cX1_gateBit 48 = .ok (.iconst 1, 1) := by decide +kernel
theorem dX1_gateBit_49 : decode cX1_gateBit 49 = .ok (.iload_n 1, 1) := by decide +kernel
theorem dX1_gateBit_50 : decode cX1_gateBit 50 = .ok (.iload_n 2, 1) := by decide +kernel
theorem dX1_gateBit_51 : decode cX1_gateBit 51 = .ok (.iand, 1) := by decide +kernel
theorem dX1_gateBit_52 : decode cX1_gateBit 52 = .ok (.isub, 1) := by decide +kernel
theorem dX1_gateBit_53 : decode cX1_gateBit 53 = .ok (.ireturn, 1) := by decide +kernel
theorem dX1_gateBit_54 : decode cX1_gateBit 54 = .ok (.iload_n 1, 1) := by decide +kernel
theorem dX1_gateBit_55 : decode cX1_gateBit 55 = .ok (.ireturn, 1) := by decide +kernel
theorem dX1_gateBit_56 : decode cX1_gateBit 56 = .ok (.iconst 1, 1) := by decide +kernel
theorem dX1_gateBit_57 : decode cX1_gateBit 57 = .ok (.iload_n 1, 1) := by decide +kernel
theorem dX1_gateBit_58 : decode cX1_gateBit 58 = .ok (.isub, 1) := by decide +kernel
theorem dX1_gateBit_59 : decode cX1_gateBit 59 = .ok (.ireturn, 1) := by decide +kernel
theorem dX1_stateAfter_0 : decode cX1_stateAfter 0 = .ok (.iconst 0, 1) := by decide +kernel
theorem dX1_stateAfter_1 : decode cX1_stateAfter 1 = .ok (.istore_n 2, 1) := by decide +kernel
theorem dX1_stateAfter_2 : decode cX1_stateAfter 2 = .ok (.iconst 0, 1) := by decide +kernel
theorem dX1_stateAfter_3 : decode cX1_stateAfter 3 = .ok (.istore_n 3, 1) := by decide +kernel
theorem dX1_stateAfter_4 : decode cX1_stateAfter 4 = .ok (.iload_n 3, 1) := by decide +kernel
theorem dX1_stateAfter_5 : decode cX1_stateAfter 5 = .ok (.iconst 4, 1) := by decide +kernel
theorem dX1_stateAfter_6 : decode cX1_stateAfter 6 = .ok (.if_icmp .ge 23, 3) := by decide +kernel
theorem dX1_stateAfter_9 : decode cX1_stateAfter 9 = .ok (.iload_n 2, 1) := by decide +kernel
theorem dX1_stateAfter_10 : decode cX1_stateAfter 10 = .ok (.iload_n 1, 1) := by decide +kernel
theorem dX1_stateAfter_11 : decode cX1_stateAfter 11 = .ok (.aload_n 0, 1) := by decide +kernel
theorem dX1_stateAfter_12 : decode cX1_stateAfter 12 = .ok (.iload_n 3, 1) := by decide +kernel
theorem dX1_stateAfter_13 : decode cX1_stateAfter 13 = .ok (.invokevirtual 66, 3) := by decide +kernel
theorem dX1_stateAfter_16 : decode cX1_stateAfter 16 = .ok (.invokestatic 52, 3) := by decide +kernel
theorem dX1_stateAfter_19 : decode cX1_stateAfter 19 = .ok (.iload_n 3, 1) := by decide +kernel
theorem dX1_stateAfter_20 : decode cX1_stateAfter 20 = .ok (.ishl, 1) := by decide +kernel
theorem dX1_stateAfter_21 : decode cX1_stateAfter 21 = .ok (.ior, 1) := by decide +kernel
theorem dX1_stateAfter_22 : decode cX1_stateAfter 22 = .ok (.istore_n 2, 1) := by decide +kernel
theorem dX1_stateAfter_23 : decode cX1_stateAfter 23 = .ok (.iinc 3 1, 3) := by decide +kernel
theorem dX1_stateAfter_26 : decode cX1_stateAfter 26 = .ok (.goto (-22), 3) := by decide +kernel
theorem dX1_stateAfter_29 : decode cX1_stateAfter 29 = .ok (.iload_n 2, 1) := by decide +kernel
theorem dX1_stateAfter_30 : decode cX1_stateAfter 30 = .ok (.ireturn, 1) := by decide +kernel
theorem dX1_gatesBehindOutput_0 : decode cX1_gatesBehindOutput 0 = .ok (.aload_n 0, 1) := by decide +kernel
theorem dX1_gatesBehindOutput_1 : decode cX1_gatesBehindOutput 1 = .ok (.aload_n 0, 1) := by decide +kernel
theorem dX1_gatesBehindOutput_2 : decode cX1_gatesBehindOutput 2 = .ok (.getfield 30, 3) := by decide +kernel
theorem dX1_gatesBehindOutput_5 : decode cX1_gatesBehindOutput 5 = .ok (.invokevirtual 69, 3) := by decide +kernel
theorem dX1_gatesBehindOutput_8 : decode cX1_gatesBehindOutput 8 = .ok (.istore_n 1, 1) := by decide +kernel
theorem dX1_gatesBehindOutput_9 : decode cX1_gatesBehindOutput 9 = .ok (.bipush 7, 2) := by decide +kernel
theorem dX1_gatesBehindOutput_11 : decode cX1_gatesBehindOutput 11 = .ok (.istore_n 2, 1) := by decide +kernel
theorem dX1_gatesBehindOutput_12 : decode cX1_gatesBehindOutput 12 = .ok (.iload_n 2, 1) := by decide +kernel
theorem dX1_gatesBehindOutput_13 : decode cX1_gatesBehindOutput 13 = .ok (.ifCond .lt 51, 3) := by decide +kernel
theorem dX1_gatesBehindOutput_16 : decode cX1_gatesBehindOutput 16 = .ok (.iload_n 1, 1) := by decide +kernel
theorem dX1_gatesBehindOutput_17 : decode cX1_gatesBehindOutput 17 = .ok (.iload_n 2, 1) := by decide +kernel
theorem dX1_gatesBehindOutput_18 : decode cX1_gatesBehindOutput 18 = .ok (.invokestatic 52, 3) := by decide +kernel
theorem dX1_gatesBehindOutput_21 : decode cX1_gatesBehindOutput 21 = .ok (.iconst 1, 1) := by decide +kernel
theorem dX1_gatesBehindOutput_22 : decode cX1_gatesBehindOutput 22 = .ok (.if_icmp .ne 36, 3) := by decide +kernel
theorem dX1_gatesBehindOutput_25 : decode cX1_gatesBehindOutput 25 = .ok (.iload_n 1, 1) := by decide +kernel
theorem dX1_gatesBehindOutput_26 : decode cX1_gatesBehindOutput 26 = .ok (.aload_n 0, 1) := by decide +kernel
theorem dX1_gatesBehindOutput_27 : decode cX1_gatesBehindOutput 27 = .ok (.aload_n 0, 1) := by decide +kernel
theorem dX1_gatesBehindOutput_28 : decode cX1_gatesBehindOutput 28 = .ok (.iload_n 2, 1) := by decide +kernel
theorem dX1_gatesBehindOutput_29 : decode cX1_gatesBehindOutput 29 = .ok (.invokevirtual 49, 3) := by decide +kernel
theorem dX1_gatesBehindOutput_32 : decode cX1_gatesBehindOutput 32 = .ok (.invokevirtual 69, 3) := by decide +kernel
theorem dX1_gatesBehindOutput_35 : decode cX1_gatesBehindOutput 35 = .ok (.ior, 1) := by decide +kernel
theorem dX1_gatesBehindOutput_36 : decode cX1_gatesBehindOutput 36 = .ok (.istore_n 1, 1) := by decide +kernel
theorem dX1_gatesBehindOutput_37 : decode cX1_gatesBehindOutput 37 = .ok (.aload_n 0, 1) := by decide +kernel
theorem dX1_gatesBehindOutput_38 : decode cX1_gatesBehindOutput 38 = .ok (.iload_n 2, 1) := by decide +kernel
theorem dX1_gatesBehindOutput_39 : decode cX1_gatesBehindOutput 39 = .ok (.invokevirtual 59, 3) := by decide +kernel
theorem dX1_gatesBehindOutput_42 : decode cX1_gatesBehindOutput 42 = .ok (.iconst 4, 1) := by decide +kernel
theorem dX1_gatesBehindOutput_43 : decode cX1_gatesBehindOutput 43 = .ok (.if_icmp .ge 15, 3) := by decide +kernel
theorem dX1_gatesBehindOutput_46 : decode cX1_gatesBehindOutput 46 = .ok (.iload_n 1, 1) := by decide +kernel
theorem dX1_gatesBehindOutput_47 : decode cX1_gatesBehindOutput 47 = .ok (.aload_n 0, 1) := by decide +kernel
theorem dX1_gatesBehindOutput_48 : decode cX1_gatesBehindOutput 48 = .ok (.aload_n 0, 1) := by decide +kernel
theorem dX1_gatesBehindOutput_49 : decode cX1_gatesBehindOutput 49 = .ok (.iload_n 2, 1) := by decide +kernel
theorem dX1_gatesBehindOutput_50 : decode cX1_gatesBehindOutput 50 = .ok (.invokevirtual 56, 3) := by decide +kernel
theorem dX1_gatesBehindOutput_53 : decode cX1_gatesBehindOutput 53 = .ok (.invokevirtual 69, 3) := by decide +kernel
theorem dX1_gatesBehindOutput_56 : decode cX1_gatesBehindOutput 56 = .ok (.ior, 1) := by decide +kernel
theorem dX1_gatesBehindOutput_57 : decode cX1_gatesBehindOutput 57 = .ok (.istore_n 1, 1) := by decide +kernel
theorem dX1_gatesBehindOutput_58 : decode cX1_gatesBehindOutput 58 = .ok (.iinc 2 (-1), 3) := by decide +kernel
theorem dX1_gatesBehindOutput_61 : decode cX1_gatesBehindOutput 61 = .ok (.goto (-49), 3) := by decide +kernel
theorem dX1_gatesBehindOutput_64 : decode cX1_gatesBehindOutput 64 = .ok (.iload_n 1, 1) := by decide +kernel
theorem dX1_gatesBehindOutput_65 : decode cX1_gatesBehindOutput 65 = .ok (.ireturn, 1) := by decide +kernel
theorem dX1_gateOnWire_0 : decode cX1_gateOnWire 0 = .ok (.iload_n 1, 1) := by decide +kernel
theorem dX1_gateOnWire_1 : decode cX1_gateOnWire 1 = .ok (.bipush 6, 2) := by decide +kernel
theorem dX1_gateOnWire_3 : decode cX1_gateOnWire 3 = .ok (.isub, 1) := by decide +kernel
theorem dX1_gateOnWire_4 : decode cX1_gateOnWire 4 = .ok (.istore_n 2, 1) := by decide +kernel
theorem dX1_gateOnWire_5 : decode cX1_gateOnWire 5 = .ok (.iload_n 2, 1) := by decide +kernel
theorem dX1_gateOnWire_6 : decode cX1_gateOnWire 6 = .ok (.iconst 0, 1) := by decide +kernel
theorem dX1_gateOnWire_7 : decode cX1_gateOnWire 7 = .ok (.aload_n 0, 1) := by decide +kernel
theorem dX1_gateOnWire_8 : decode cX1_gateOnWire 8 = .ok (.getfield 26, 3) := by decide +kernel
theorem dX1_gateOnWire_11 : decode cX1_gateOnWire 11 = .ok (.iconst 1, 1) := by decide +kernel
theorem dX1_gateOnWire_12 : decode cX1_gateOnWire 12 = .ok (.isub, 1) := by decide +kernel
theorem dX1_gateOnWire_13 : decode cX1_gateOnWire 13 = .ok (.invokestatic 72, 3) := by decide +kernel
theorem dX1_gateOnWire_16 : decode cX1_gateOnWire 16 = .ok (.ifCond .eq 9, 3) := by decide +kernel
theorem dX1_gateOnWire_19 : decode cX1_gateOnWire 19 = .ok (.iconst 1, 1) := by decide +kernel
theorem dX1_gateOnWire_20 : decode cX1_gateOnWire 20 = .ok (.iload_n 2, 1) := by decide +kernel
theorem dX1_gateOnWire_21 : decode cX1_gateOnWire 21 = .ok (.ishl, 1) := by decide +kernel
theorem dX1_gateOnWire_22 : decode cX1_gateOnWire 22 = .ok (.goto 4, 3) := by decide +kernel
theorem dX1_gateOnWire_25 : decode cX1_gateOnWire 25 = .ok (.iconst 0, 1) := by decide +kernel
theorem dX1_gateOnWire_26 : decode cX1_gateOnWire 26 = .ok (.ireturn, 1) := by decide +kernel
theorem dX1_takeFrom_0 : decode cX1_takeFrom 0 = .ok (.iconst 0, 1) := by decide +kernel
theorem dX1_takeFrom_1 : decode cX1_takeFrom 1 = .ok (.istore_n 2, 1) := by decide +kernel
theorem dX1_takeFrom_2 : decode cX1_takeFrom 2 = .ok (.iload_n 2, 1) := by decide +kernel
theorem dX1_takeFrom_3 : decode cX1_takeFrom 3 = .ok (.bipush 14, 2) := by decide +kernel
theorem dX1_takeFrom_5 : decode cX1_takeFrom 5 = .ok (.if_icmp .ge 19, 3) := by decide +kernel
theorem dX1_takeFrom_8 : decode cX1_takeFrom 8 = .ok (.aload_n 0, 1) := by decide +kernel
theorem dX1_takeFrom_9 : decode cX1_takeFrom 9 = .ok (.iload_n 2, 1) := by decide +kernel
theorem dX1_takeFrom_10 : decode cX1_takeFrom 10 = .ok (.aload_n 1, 1) := by decide +kernel
theorem dX1_takeFrom_11 : decode cX1_takeFrom 11 = .ok (.iload_n 2, 1) := by decide +kernel
theorem dX1_takeFrom_12 : decode cX1_takeFrom 12 = .ok (.invokevirtual 76, 3) := by decide +kernel
theorem dX1_takeFrom_15 : decode cX1_takeFrom 15 = .ok (.invokevirtual 79, 3) := by decide +kernel
theorem dX1_takeFrom_18 : decode cX1_takeFrom 18 = .ok (.iinc 2 1, 3) := by decide +kernel
theorem dX1_takeFrom_21 : decode cX1_takeFrom 21 = .ok (.goto (-19), 3) := by decide +kernel
theorem dX1_takeFrom_24 : decode cX1_takeFrom 24 = .ok (.return_, 1) := by decide +kernel
theorem dX1_savedCell_0 : decode cX1_savedCell 0 = .ok (.iload_n 1, 1) := by decide +kernel
theorem dX1_savedCell_1 : decode cX1_savedCell 1 = .ok (.ifCond .ne 8, 3) := by decide +kernel
theorem dX1_savedCell_4 : decode cX1_savedCell 4 = .ok (.aload_n 0, 1) := by decide +kernel
theorem dX1_savedCell_5 : decode cX1_savedCell 5 = .ok (.getfield 26, 3) := by decide +kernel
theorem dX1_savedCell_8 : decode cX1_savedCell 8 = .ok (.ireturn, 1) := by decide +kernel
theorem dX1_savedCell_9 : decode cX1_savedCell 9 = .ok (.iload_n 1, 1) := by decide +kernel
theorem dX1_savedCell_10 : decode cX1_savedCell 10 = .ok (.iconst 1, 1) := by decide +kernel
theorem dX1_savedCell_11 : decode cX1_savedCell 11 = .ok (.if_icmp .ne 8, 3) := by decide +kernel
theorem dX1_savedCell_14 : decode cX1_savedCell 14 = .ok (.aload_n 0, 1) := by decide +kernel
theorem dX1_savedCell_15 : decode cX1_savedCell 15 = .ok (.getfield 30, 3) := by decide +kernel
theorem dX1_savedCell_18 : decode cX1_savedCell 18 = .ok (.ireturn, 1) := by decide +kernel
theorem dX1_savedCell_19 : decode cX1_savedCell 19 = .ok (.iload_n 1, 1) := by decide +kernel
theorem dX1_savedCell_20 : decode cX1_savedCell 20 = .ok (.bipush 6, 2) := by decide +kernel
theorem dX1_savedCell_22 : decode cX1_savedCell 22 = .ok (.if_icmp .ge 16, 3) := by decide +kernel
theorem dX1_savedCell_25 : decode cX1_savedCell 25 = .ok (.aload_n 0, 1) := by decide +kernel
theorem dX1_savedCell_26 : decode cX1_savedCell 26 = .ok (.getfield 14, 3) := by decide +kernel
theorem dX1_savedCell_29 : decode cX1_savedCell 29 = .ok (.iload_n 1, 1) := by decide +kernel
theorem dX1_savedCell_30 : decode cX1_savedCell 30 = .ok (.iconst 2, 1) := by decide +kernel
theorem dX1_savedCell_31 : decode cX1_savedCell 31 = .ok (.isub, 1) := by decide +kernel
theorem dX1_savedCell_32 : decode cX1_savedCell 32 = .ok (.invokevirtual 41, 3) := by decide +kernel
theorem dX1_savedCell_35 : decode cX1_savedCell 35 = .ok (.goto 15, 3) := by decide +kernel
theorem dX1_savedCell_38 : decode cX1_savedCell 38 = .ok (.aload_n 0, 1) := by decide +kernel
theorem dX1_savedCell_39 : decode cX1_savedCell 39 = .ok (.getfield 20, 3) := by decide +kernel
theorem dX1_savedCell_42 : decode cX1_savedCell 42 = .ok (.iload_n 1, 1) := by decide +kernel
theorem dX1_savedCell_43 : decode cX1_savedCell 43 = .ok (.iconst 2, 1) := by decide +kernel
theorem dX1_savedCell_44 : decode cX1_savedCell 44 = .ok (.isub, 1) := by decide +kernel
theorem dX1_savedCell_45 : decode cX1_savedCell 45 = .ok (.iconst 4, 1) := by decide +kernel
theorem dX1_savedCell_46 : decode cX1_savedCell 46 = .ok (.isub, 1) := by decide +kernel
theorem dX1_savedCell_47 : decode cX1_savedCell 47 = .ok (.invokevirtual 41, 3) := by decide +kernel
theorem dX1_savedCell_50 : decode cX1_savedCell 50 = .ok (.ireturn, 1) := by decide +kernel
theorem dX1_setSavedCell_0 : decode cX1_setSavedCell 0 = .ok (.iload_n 1, 1) := by decide +kernel
theorem dX1_setSavedCell_1 : decode cX1_setSavedCell 1 = .ok (.ifCond .ne 11, 3) := by decide +kernel
theorem dX1_setSavedCell_4 : decode cX1_setSavedCell 4 = .ok (.aload_n 0, 1) := by decide +kernel
theorem dX1_setSavedCell_5 : decode cX1_setSavedCell 5 = .ok (.iload_n 2, 1) := by decide +kernel
theorem dX1_setSavedCell_6 : decode cX1_setSavedCell 6 = .ok (.putfield 26, 3) := by decide +kernel
theorem dX1_setSavedCell_9 : decode cX1_setSavedCell 9 = .ok (.goto 49, 3) := by decide +kernel
theorem dX1_setSavedCell_12 : decode cX1_setSavedCell 12 = .ok (.iload_n 1, 1) := by decide +kernel
theorem dX1_setSavedCell_13 : decode cX1_setSavedCell 13 = .ok (.iconst 1, 1) := by decide +kernel
theorem dX1_setSavedCell_14 : decode cX1_setSavedCell 14 = .ok (.if_icmp .ne 11, 3) := by decide +kernel
theorem dX1_setSavedCell_17 : decode cX1_setSavedCell 17 = .ok (.aload_n 0, 1) := by decide +kernel
theorem dX1_setSavedCell_18 : decode cX1_setSavedCell 18 = .ok (.iload_n 2, 1) := by decide +kernel
theorem dX1_setSavedCell_19 : decode cX1_setSavedCell 19 = .ok (.putfield 30, 3) := by decide +kernel
theorem dX1_setSavedCell_22 : decode cX1_setSavedCell 22 = .ok (.goto 36, 3) := by decide +kernel
theorem dX1_setSavedCell_25 : decode cX1_setSavedCell 25 = .ok (.iload_n 1, 1) := by decide +kernel
theorem dX1_setSavedCell_26 : decode cX1_setSavedCell 26 = .ok (.bipush 6, 2) := by decide +kernel
theorem dX1_setSavedCell_28 : decode cX1_setSavedCell 28 = .ok (.if_icmp .ge 17, 3) := by decide +kernel
theorem dX1_setSavedCell_31 : decode cX1_setSavedCell 31 = .ok (.aload_n 0, 1) := by decide +kernel
theorem dX1_setSavedCell_32 : decode cX1_setSavedCell 32 = .ok (.getfield 14, 3) := by decide +kernel
theorem dX1_setSavedCell_35 : decode cX1_setSavedCell 35 = .ok (.iload_n 1, 1) := by decide +kernel
theorem dX1_setSavedCell_36 : decode cX1_setSavedCell 36 = .ok (.iconst 2, 1) := by decide +kernel
theorem dX1_setSavedCell_37 : decode cX1_setSavedCell 37 = .ok (.isub, 1) := by decide +kernel
theorem dX1_setSavedCell_38 : decode cX1_setSavedCell 38 = .ok (.iload_n 2, 1) := by decide +kernel
theorem dX1_setSavedCell_39 : decode cX1_setSavedCell 39 = .ok (.invokevirtual 37, 3) := by decide +kernel
theorem dX1_setSavedCell_42 : decode cX1_setSavedCell 42 = .ok (.goto 16, 3) := by decide +kernel
theorem dX1_setSavedCell_45 : decode cX1_setSavedCell 45 = .ok (.aload_n 0, 1) := by decide +kernel
theorem dX1_setSavedCell_46 : decode cX1_setSavedCell 46 = .ok (.getfield 20, 3) := by decide +kernel
theorem dX1_setSavedCell_49 : decode cX1_setSavedCell 49 = .ok (.iload_n 1, 1) := by decide +kernel
theorem dX1_setSavedCell_50 : decode cX1_setSavedCell 50 = .ok (.iconst 2, 1) := by decide +kernel
theorem dX1_setSavedCell_51 : decode cX1_setSavedCell 51 = .ok (.isub, 1) := by decide +kernel
theorem dX1_setSavedCell_52 : decode cX1_setSavedCell 52 = .ok (.iconst 4, 1) := by decide +kernel
theorem dX1_setSavedCell_53 : decode cX1_setSavedCell 53 = .ok (.isub, 1) := by decide +kernel
theorem dX1_setSavedCell_54 : decode cX1_setSavedCell 54 = .ok (.iload_n 2, 1) := by decide +kernel
theorem dX1_setSavedCell_55 : decode cX1_setSavedCell 55 = .ok (.invokevirtual 37, 3) := by decide +kernel
theorem dX1_setSavedCell_58 : decode cX1_setSavedCell 58 = .ok (.return_, 1) := by decide +kernel
theorem dX2_init_0 : decode cX2_init 0 = .ok (.aload_n 0, 1) := by decide +kernel
theorem dX2_init_1 : decode cX2_init 1 = .ok (.invokespecial 3, 3) := by decide +kernel
theorem dX2_init_4 : decode cX2_init 4 = .ok (.aload_n 0, 1) := by decide +kernel
theorem dX2_init_5 : decode cX2_init 5 = .ok (.new 9, 3) := by decide +kernel
theorem dX2_init_8 : decode cX2_init 8 = .ok (.dup, 1) := by decide +kernel
theorem dX2_init_9 : decode cX2_init 9 = .ok (.bipush 112, 2) := by decide +kernel
theorem dX2_init_11 : decode cX2_init 11 = .ok (.invokespecial 13, 3) := by decide +kernel
theorem dX2_init_14 : decode cX2_init 14 = .ok (.putfield 16, 3) := by decide +kernel
theorem dX2_init_17 : decode cX2_init 17 = .ok (.return_, 1) := by decide +kernel
theorem dX2_size_0 : decode cX2_size 0 = .ok (.aload_n 0, 1) := by decide +kernel
theorem dX2_size_1 : decode cX2_size 1 = .ok (.getfield 20, 3) := by decide +kernel
theorem dX2_size_4 : decode cX2_size 4 = .ok (.ireturn, 1) := by decide +kernel
theorem dX2_keep_0 : decode cX2_keep 0 = .ok (.aload_n 0, 1) := by decide +kernel
theorem dX2_keep_1 : decode cX2_keep 1 = .ok (.getfield 20, 3) := by decide +kernel
theorem dX2_keep_4 : decode cX2_keep 4 = .ok (.iconst 4, 1) := by decide +kernel
theorem dX2_keep_5 : decode cX2_keep 5 = .ok (.if_icmp .lt 7, 3) := by decide +kernel
theorem dX2_keep_8 : decode cX2_keep 8 = .ok (.aload_n 0, 1) := by decide +kernel
theorem dX2_keep_9 : decode cX2_keep 9 = .ok (.invokevirtual 24, 3) := by decide +kernel
theorem dX2_keep_12 : decode cX2_keep 12 = .ok (.aload_n 0, 1) := by decide +kernel
theorem dX2_keep_13 : decode cX2_keep 13 = .ok (.getfield 20, 3) := by decide +kernel
theorem dX2_keep_16 : decode cX2_keep 16 = .ok (.bipush 28, 2) := by decide +kernel
theorem dX2_keep_18 : decode cX2_keep 18 = .ok (.imul, 1) := by decide +kernel
theorem dX2_keep_19 : decode cX2_keep 19 = .ok (.istore_n 3, 1) := by decide +kernel
theorem dX2_keep_20 : decode cX2_keep 20 = .ok (.iconst 0, 1) := by decide +kernel
theorem dX2_keep_21 : decode cX2_keep 21 = .ok (.istore 4, 2) := by decide +kernel
theorem dX2_keep_23 : decode cX2_keep 23 = .ok (.iload 4, 2) := by decide +kernel
theorem dX2_keep_25 : decode cX2_keep 25 = .ok (.bipush 14, 2) := by decide +kernel
theorem dX2_keep_27 : decode cX2_keep 27 = .ok (.if_icmp .ge 46, 3) := by decide +kernel
theorem dX2_keep_30 : decode cX2_keep 30 = .ok (.aload_n 0, 1) := by decide +kernel
theorem dX2_keep_31 : decode cX2_keep 31 = .ok (.getfield 16, 3) := by decide +kernel
theorem dX2_keep_34 : decode cX2_keep 34 = .ok (.iload_n 3, 1) := by decide +kernel
theorem dX2_keep_35 : decode cX2_keep 35 = .ok (.iload 4, 2) := by decide +kernel
theorem dX2_keep_37 : decode cX2_keep 37 = .ok (.iadd, 1) := by decide +kernel
theorem dX2_keep_38 : decode cX2_keep 38 = .ok (.aload_n 1, 1) := by decide +kernel
theorem dX2_keep_39 : decode cX2_keep 39 = .ok (.iload 4, 2) := by decide +kernel
theorem dX2_keep_41 : decode cX2_keep 41 = .ok (.invokevirtual 27, 3) := by decide +kernel
theorem dX2_keep_44 : decode cX2_keep 44 = .ok (.invokevirtual 31, 3) := by decide +kernel
theorem dX2_keep_47 : decode cX2_keep 47 = .ok (.aload_n 0, 1) := by decide +kernel
theorem dX2_keep_48 : decode cX2_keep 48 = .ok (.getfield 16, 3) := by decide +kernel
theorem dX2_keep_51 : decode cX2_keep 51 = .ok (.iload_n 3, 1) := by decide +kernel
theorem dX2_keep_52 : decode cX2_keep 52 = .ok (.bipush 14, 2) := by decide +kernel
theorem dX2_keep_54 : decode cX2_keep 54 = .ok (.iadd, 1) := by decide +kernel
theorem dX2_keep_55 : decode cX2_keep 55 = .ok (.iload 4, 2) := by decide +kernel
theorem dX2_keep_57 : decode cX2_keep 57 = .ok (.iadd, 1) := by decide +kernel
theorem dX2_keep_58 : decode cX2_keep 58 = .ok (.aload_n 2, 1) := by decide +kernel
theorem dX2_keep_59 : decode cX2_keep 59 = .ok (.iload 4, 2) := by decide +kernel
theorem dX2_keep_61 : decode cX2_keep 61 = .ok (.invokevirtual 27, 3) := by decide +kernel
theorem dX2_keep_64 : decode cX2_keep 64 = .ok (.invokevirtual 31, 3) := by decide +kernel
theorem dX2_keep_67 : decode cX2_keep 67 = .ok (.iinc 4 1, 3) := by decide +kernel
theorem dX2_keep_70 : decode cX2_keep 70 = .ok (.goto (-47), 3) := by decide +kernel
theorem dX2_keep_73 : decode cX2_keep 73 = .ok (.aload_n 0, 1) := by decide +kernel
theorem dX2_keep_74 : decode cX2_keep 74 = .ok (.dup, 1) := by decide +kernel
theorem dX2_keep_75 : decode cX2_keep 75 = .ok (.getfield 20, 3) := by decide +kernel
theorem dX2_keep_78 : decode cX2_keep 78 = .ok (.iconst 1, 1) := by decide +kernel
theorem dX2_keep_79 : decode cX2_keep 79 = .ok (.iadd, 1) := by decide +kernel
theorem dX2_keep_80 : decode cX2_keep 80 = .ok (.putfield 20, 3) := by decide +kernel
theorem dX2_keep_83 : decode cX2_keep 83 = .ok (.return_, 1) := by decide +kernel
theorem dX2_dropOldest_0 : decode cX2_dropOldest 0 = .ok (.iconst 0, 1) := by decide +kernel
theorem dX2_dropOldest_1 : decode cX2_dropOldest 1 = .ok (.istore_n 1, 1) := by decide +kernel
theorem dX2_dropOldest_2 : decode cX2_dropOldest 2 = .ok (.iload_n 1, 1) := by decide +kernel
theorem dX2_dropOldest_3 : decode cX2_dropOldest 3 = .ok (.bipush 84, 2) := by decide +kernel
theorem dX2_dropOldest_5 : decode cX2_dropOldest 5 = .ok (.if_icmp .ge 28, 3) := by decide +kernel
theorem dX2_dropOldest_8 : decode cX2_dropOldest 8 = .ok (.aload_n 0, 1) := by decide +kernel
theorem dX2_dropOldest_9 : decode cX2_dropOldest 9 = .ok (.getfield 16, 3) := by decide +kernel
theorem dX2_dropOldest_12 : decode cX2_dropOldest 12 = .ok (.iload_n 1, 1) := by decide +kernel
theorem dX2_dropOldest_13 : decode cX2_dropOldest 13 = .ok (.aload_n 0, 1) := by decide +kernel
theorem dX2_dropOldest_14 : decode cX2_dropOldest 14 = .ok (.getfield 16, 3) := by decide +kernel
theorem dX2_dropOldest_17 : decode cX2_dropOldest 17 = .ok (.iload_n 1, 1) := by decide +kernel
theorem dX2_dropOldest_18 : decode cX2_dropOldest 18 = .ok (.bipush 28, 2) := by decide +kernel
theorem dX2_dropOldest_20 : decode cX2_dropOldest 20 = .ok (.iadd, 1) := by decide +kernel
theorem dX2_dropOldest_21 : decode cX2_dropOldest 21 = .ok (.invokevirtual 35, 3) := by decide +kernel
theorem dX2_dropOldest_24 : decode cX2_dropOldest 24 = .ok (.invokevirtual 31, 3) := by decide +kernel
theorem dX2_dropOldest_27 : decode cX2_dropOldest 27 = .ok (.iinc 1 1, 3) := by decide +kernel
theorem dX2_dropOldest_30 : decode cX2_dropOldest 30 = .ok (.goto (-28), 3) := by decide +kernel
theorem dX2_dropOldest_33 : decode cX2_dropOldest 33 = .ok (.aload_n 0, 1) := by decide +kernel
theorem dX2_dropOldest_34 : decode cX2_dropOldest 34 = .ok (.dup, 1) := by decide +kernel
theorem dX2_dropOldest_35 : decode cX2_dropOldest 35 = .ok (.getfield 20, 3) := by decide +kernel
theorem dX2_dropOldest_38 : decode cX2_dropOldest 38 = .ok (.iconst 1, 1) := by decide +kernel
theorem dX2_dropOldest_39 : decode cX2_dropOldest 39 = .ok (.isub, 1) := by decide +kernel
theorem dX2_dropOldest_40 : decode cX2_dropOldest 40 = .ok (.putfield 20, 3) := by decide +kernel
theorem dX2_dropOldest_43 : decode cX2_dropOldest 43 = .ok (.return_, 1) := by decide +kernel
theorem dX2_giveBack_0 : decode cX2_giveBack 0 = .ok (.aload_n 0, 1) := by decide +kernel
theorem dX2_giveBack_1 : decode cX2_giveBack 1 = .ok (.getfield 20, 3) := by decide +kernel
theorem dX2_giveBack_4 : decode cX2_giveBack 4 = .ok (.ifCond .ne 4, 3) := by decide +kernel
theorem dX2_giveBack_7 : decode cX2_giveBack 7 = .ok (.return_, 1) := by decide +kernel
theorem dX2_giveBack_8 : decode cX2_giveBack 8 = .ok (.aload_n 0, 1) := by decide +kernel
theorem dX2_giveBack_9 : decode cX2_giveBack 9 = .ok (.dup, 1) := by decide +kernel
theorem dX2_giveBack_10 : decode cX2_giveBack 10 = .ok (.getfield 20, 3) := by decide +kernel
theorem dX2_giveBack_13 : decode cX2_giveBack 13 = .ok (.iconst 1, 1) := by decide +kernel
theorem dX2_giveBack_14 : decode cX2_giveBack 14 = .ok (.isub, 1) := by decide +kernel
theorem dX2_giveBack_15 : decode cX2_giveBack 15 = .ok (.putfield 20, 3) := by decide +kernel
theorem dX2_giveBack_18 : decode cX2_giveBack 18 = .ok (.aload_n 0, 1) := by decide +kernel
theorem dX2_giveBack_19 : decode cX2_giveBack 19 = .ok (.getfield 20, 3) := by decide +kernel
theorem dX2_giveBack_22 : decode cX2_giveBack 22 = .ok (.bipush 28, 2) := by decide +kernel
theorem dX2_giveBack_24 : decode cX2_giveBack 24 = .ok (.imul, 1) := by decide +kernel
theorem dX2_giveBack_25 : decode cX2_giveBack 25 = .ok (.istore_n 3, 1) := by decide +kernel
theorem dX2_giveBack_26 : decode cX2_giveBack 26 = .ok (.iconst 0, 1) := by decide +kernel
theorem dX2_giveBack_27 : decode cX2_giveBack 27 = .ok (.istore 4, 2) := by decide +kernel
theorem dX2_giveBack_29 : decode cX2_giveBack 29 = .ok (.iload 4, 2) := by decide +kernel
theorem dX2_giveBack_31 : decode cX2_giveBack 31 = .ok (.bipush 14, 2) := by decide +kernel
theorem dX2_giveBack_33 : decode cX2_giveBack 33 = .ok (.if_icmp .ge 46, 3) := by decide +kernel
theorem dX2_giveBack_36 : decode cX2_giveBack 36 = .ok (.aload_n 1, 1) := by decide +kernel
theorem dX2_giveBack_37 : decode cX2_giveBack 37 = .ok (.iload 4, 2) := by decide +kernel
theorem dX2_giveBack_39 : decode cX2_giveBack 39 = .ok (.aload_n 0, 1) := by decide +kernel
theorem dX2_giveBack_40 : decode cX2_giveBack 40 = .ok (.getfield 16, 3) := by decide +kernel
theorem dX2_giveBack_43 : decode cX2_giveBack 43 = .ok (.iload_n 3, 1) := by decide +kernel
theorem dX2_giveBack_44 : decode cX2_giveBack 44 = .ok (.iload 4, 2) := by decide +kernel
theorem dX2_giveBack_46 : decode cX2_giveBack 46 = .ok (.iadd, 1) := by decide +kernel
theorem dX2_giveBack_47 : decode cX2_giveBack 47 = .ok (.invokevirtual 35, 3) := by decide +kernel
theorem dX2_giveBack_50 : decode cX2_giveBack 50 = .ok (.invokevirtual 38, 3) := by decide +kernel
theorem dX2_giveBack_53 : decode cX2_giveBack 53 = .ok (.aload_n 2, 1) := by decide +kernel
theorem dX2_giveBack_54 : decode cX2_giveBack 54 = .ok (.iload 4, 2) := by decide +kernel
theorem dX2_giveBack_56 : decode cX2_giveBack 56 = .ok (.aload_n 0, 1) := by decide +kernel
theorem dX2_giveBack_57 : decode cX2_giveBack 57 = .ok (.getfield 16, 3) := by decide +kernel
theorem dX2_giveBack_60 : decode cX2_giveBack 60 = .ok (.iload_n 3, 1) := by decide +kernel
theorem dX2_giveBack_61 : decode cX2_giveBack 61 = .ok (.bipush 14, 2) := by decide +kernel
theorem dX2_giveBack_63 : decode cX2_giveBack 63 = .ok (.iadd, 1) := by decide +kernel
theorem dX2_giveBack_64 : decode cX2_giveBack 64 = .ok (.iload 4, 2) := by decide +kernel
theorem dX2_giveBack_66 : decode cX2_giveBack 66 = .ok (.iadd, 1) := by decide +kernel
theorem dX2_giveBack_67 : decode cX2_giveBack 67 = .ok (.invokevirtual 35, 3) := by decide +kernel
theorem dX2_giveBack_70 : decode cX2_giveBack 70 = .ok (.invokevirtual 38, 3) := by decide +kernel
theorem dX2_giveBack_73 : decode cX2_giveBack 73 = .ok (.iinc 4 1, 3) := by decide +kernel
theorem dX2_giveBack_76 : decode cX2_giveBack 76 = .ok (.goto (-47), 3) := by decide +kernel
theorem dX2_giveBack_79 : decode cX2_giveBack 79 = .ok (.return_, 1) := by decide +kernel
theorem dX3_init_0 : decode cX3_init 0 = .ok (.aload_n 0, 1) := by decide +kernel
theorem dX3_init_1 : decode cX3_init 1 = .ok (.invokespecial 3, 3) := by decide +kernel
theorem dX3_init_4 : decode cX3_init 4 = .ok (.aload_n 0, 1) := by decide +kernel
theorem dX3_init_5 : decode cX3_init 5 = .ok (.new 9, 3) := by decide +kernel
theorem dX3_init_8 : decode cX3_init 8 = .ok (.dup, 1) := by decide +kernel
theorem dX3_init_9 : decode cX3_init 9 = .ok (.sipush 8192, 3) := by decide +kernel
theorem dX3_init_12 : decode cX3_init 12 = .ok (.invokespecial 13, 3) := by decide +kernel
theorem dX3_init_15 : decode cX3_init 15 = .ok (.putfield 16, 3) := by decide +kernel
theorem dX3_init_18 : decode cX3_init 18 = .ok (.aload_n 0, 1) := by decide +kernel
theorem dX3_init_19 : decode cX3_init 19 = .ok (.new 9, 3) := by decide +kernel
theorem dX3_init_22 : decode cX3_init 22 = .ok (.dup, 1) := by decide +kernel
theorem dX3_init_23 : decode cX3_init 23 = .ok (.sipush 8192, 3) := by decide +kernel
theorem dX3_init_26 : decode cX3_init 26 = .ok (.invokespecial 13, 3) := by decide +kernel
theorem dX3_init_29 : decode cX3_init 29 = .ok (.putfield 20, 3) := by decide +kernel
theorem dX3_init_32 : decode cX3_init 32 = .ok (.return_, 1) := by decide +kernel
theorem dX3_isLateBy_0 : decode cX3_isLateBy 0 = .ok (.aload_n 0, 1) := by decide +kernel
theorem dX3_isLateBy_1 : decode cX3_isLateBy 1 = .ok (.iconst 0, 1) := by decide +kernel
theorem dX3_isLateBy_2 : decode cX3_isLateBy 2 = .ok (.putfield 23, 3) := by decide +kernel
theorem dX3_isLateBy_5 : decode cX3_isLateBy 5 = .ok (.aload_n 0, 1) := by decide +kernel
theorem dX3_isLateBy_6 : decode cX3_isLateBy 6 = .ok (.iconst 1, 1) := by decide +kernel
theorem dX3_isLateBy_7 : decode cX3_isLateBy 7 = .ok (.aload_n 2, 1) := by decide +kernel
theorem dX3_isLateBy_8 : decode cX3_isLateBy 8 = .ok (.invokevirtual 27, 3) := by decide +kernel
theorem dX3_isLateBy_11 : decode cX3_isLateBy 11 = .ok (.aload_n 3, 1) := by decide +kernel
theorem dX3_isLateBy_12 : decode cX3_isLateBy 12 = .ok (.invokevirtual 27, 3) := by decide +kernel
theorem dX3_isLateBy_15 : decode cX3_isLateBy 15 = .ok (.invokevirtual 33, 3) := by decide +kernel
theorem dX3_isLateBy_18 : decode cX3_isLateBy 18 = .ok (.iconst 1, 1) := by decide +kernel
theorem dX3_isLateBy_19 : decode cX3_isLateBy 19 = .ok (.istore 4, 2) := by decide +kernel
theorem dX3_isLateBy_21 : decode cX3_isLateBy 21 = .ok (.iconst 0, 1) := by decide +kernel
theorem dX3_isLateBy_22 : decode cX3_isLateBy 22 = .ok (.istore 5, 2) := by decide +kernel
theorem dX3_isLateBy_24 : decode cX3_isLateBy 24 = .ok (.iload 5, 2) := by decide +kernel
theorem dX3_isLateBy_26 : decode cX3_isLateBy 26 = .ok (.aload_n 0, 1) := by decide +kernel
theorem dX3_isLateBy_27 : decode cX3_isLateBy 27 = .ok (.getfield 23, 3) := by decide +kernel
theorem dX3_isLateBy_30 : decode cX3_isLateBy 30 = .ok (.if_icmp .ge 62, 3) := by decide +kernel
theorem dX3_isLateBy_33 : decode cX3_isLateBy 33 = .ok (.iload 5, 2) := by decide +kernel
theorem dX3_isLateBy_35 : decode cX3_isLateBy 35 = .ok (.sipush 8192, 3) := by decide +kernel
theorem dX3_isLateBy_38 : decode cX3_isLateBy 38 = .ok (.if_icmp .ge 54, 3) := by decide +kernel
theorem dX3_isLateBy_41 : decode cX3_isLateBy 41 = .ok (.iload 4, 2) := by decide +kernel
theorem dX3_isLateBy_43 : decode cX3_isLateBy 43 = .ok (.ifCond .eq 49, 3) := by decide +kernel
theorem dX3_isLateBy_46 : decode cX3_isLateBy 46 = .ok (.iconst 0, 1) := by decide +kernel
theorem dX3_isLateBy_47 : decode cX3_isLateBy 47 = .ok (.istore 6, 2) := by decide +kernel
theorem dX3_isLateBy_49 : decode cX3_isLateBy 49 = .ok (.iload 6, 2) := by decide +kernel
theorem dX3_isLateBy_51 : decode cX3_isLateBy 51 = .ok (.iconst 4, 1) := by decide +kernel
theorem dX3_isLateBy_52 : decode cX3_isLateBy 52 = .ok (.if_icmp .ge 34, 3) := by decide +kernel
theorem dX3_isLateBy_55 : decode cX3_isLateBy 55 = .ok (.iload 4, 2) := by decide +kernel
theorem dX3_isLateBy_57 : decode cX3_isLateBy 57 = .ok (.ifCond .eq 29, 3) := by decide +kernel
theorem dX3_isLateBy_60 : decode cX3_isLateBy 60 = .ok (.aload_n 0, 1) := by decide +kernel
theorem dX3_isLateBy_61 : decode cX3_isLateBy 61 = .ok (.aload_n 0, 1) := by decide +kernel
theorem dX3_isLateBy_62 : decode cX3_isLateBy 62 = .ok (.getfield 20, 3) := by decide +kernel
theorem dX3_isLateBy_65 : decode cX3_isLateBy 65 = .ok (.iload 5, 2) := by decide +kernel
theorem dX3_isLateBy_67 : decode cX3_isLateBy 67 = .ok (.invokevirtual 37, 3) := by decide +kernel
theorem dX3_isLateBy_70 : decode cX3_isLateBy 70 = .ok (.iload 6, 2) := by decide +kernel
theorem dX3_isLateBy_72 : decode cX3_isLateBy 72 = .ok (.iload_n 1, 1) := by decide +kernel
theorem dX3_isLateBy_73 : decode cX3_isLateBy 73 = .ok (.aload_n 2, 1) := by decide +kernel
theorem dX3_isLateBy_74 : decode cX3_isLateBy 74 = .ok (.aload_n 3, 1) := by decide +kernel
theorem dX3_isLateBy_75 : decode cX3_isLateBy 75 = .ok (.invokevirtual 41, 3) := by decide +kernel
theorem dX3_isLateBy_78 : decode cX3_isLateBy 78 = .ok (.istore 4, 2) := by decide +kernel
theorem dX3_isLateBy_80 : decode cX3_isLateBy 80 = .ok (.iinc 6 1, 3) := by decide +kernel
theorem dX3_isLateBy_83 : decode cX3_isLateBy 83 = .ok (.goto (-34), 3) := by decide +kernel
theorem dX3_isLateBy_86 : decode cX3_isLateBy 86 = .ok (.iinc 5 1, 3) := by decide +kernel
theorem dX3_isLateBy_89 : decode cX3_isLateBy 89 = .ok (.goto (-65), 3) := by decide +kernel
theorem dX3_isLateBy_92 : decode cX3_isLateBy 92 = .ok (.aload_n 0, 1) := by decide +kernel
theorem dX3_isLateBy_93 : decode cX3_isLateBy 93 = .ok (.invokevirtual 45, 3) := by decide +kernel
theorem dX3_isLateBy_96 : decode cX3_isLateBy 96 = .ok (.iload 4, 2) := by decide +kernel
theorem dX3_isLateBy_98 : decode cX3_isLateBy 98 = .ok (.ireturn, 1) := by decide +kernel
theorem dX3_step_0 : decode cX3_step 0 = .ok (.iload_n 1, 1) := by decide +kernel
theorem dX3_step_1 : decode cX3_step 1 = .ok (.bipush 16, 2) := by decide +kernel
theorem dX3_step_3 : decode cX3_step 3 = .ok (.idiv, 1) := by decide +kernel
theorem dX3_step_4 : decode cX3_step 4 = .ok (.bipush 16, 2) := by decide +kernel
theorem dX3_step_6 : decode cX3_step 6 = .ok (.irem, 1) := by decide +kernel
theorem dX3_step_7 : decode cX3_step 7 = .ok (.istore 6, 2) := by decide +kernel
theorem dX3_step_9 : decode cX3_step 9 = .ok (.iload_n 1, 1) := by decide +kernel
theorem dX3_step_10 : decode cX3_step 10 = .ok (.bipush 16, 2) := by decide +kernel
theorem dX3_step_12 : decode cX3_step 12 = .ok (.irem, 1) := by decide +kernel
theorem dX3_step_13 : decode cX3_step 13 = .ok (.istore 7, 2) := by decide +kernel
theorem dX3_step_15 : decode cX3_step 15 = .ok (.iload_n 1, 1) := by decide +kernel
theorem dX3_step_16 : decode cX3_step 16 = .ok (.sipush 256, 3) := by decide +kernel
theorem dX3_step_19 : decode cX3_step 19 = .ok (.idiv, 1) := by decide +kernel
theorem dX3_step_20 : decode cX3_step 20 = .ok (.iconst 2, 1) := by decide +kernel
theorem dX3_step_21 : decode cX3_step 21 = .ok (.imul, 1) := by decide +kernel
theorem dX3_step_22 : decode cX3_step 22 = .ok (.aload 4, 2) := by decide +kernel
theorem dX3_step_24 : decode cX3_step 24 = .ok (.iload 6, 2) := by decide +kernel
theorem dX3_step_26 : decode cX3_step 26 = .ok (.invokevirtual 48, 3) := by decide +kernel
theorem dX3_step_29 : decode cX3_step 29 = .ok (.iload_n 2, 1) := by decide +kernel
theorem dX3_step_30 : decode cX3_step 30 = .ok (.invokestatic 51, 3) := by decide +kernel
theorem dX3_step_33 : decode cX3_step 33 = .ok (.iadd, 1) := by decide +kernel
theorem dX3_step_34 : decode cX3_step 34 = .ok (.istore 8, 2) := by decide +kernel
theorem dX3_step_36 : decode cX3_step 36 = .ok (.iconst 2, 1) := by decide +kernel
theorem dX3_step_37 : decode cX3_step 37 = .ok (.iload_n 3, 1) := by decide +kernel
theorem dX3_step_38 : decode cX3_step 38 = .ok (.ishl, 1) := by decide +kernel
theorem dX3_step_39 : decode cX3_step 39 = .ok (.istore 9, 2) := by decide +kernel
theorem dX3_step_41 : decode cX3_step 41 = .ok (.iload 8, 2) := by decide +kernel
theorem dX3_step_43 : decode cX3_step 43 = .ok (.iload 9, 2) := by decide +kernel
theorem dX3_step_45 : decode cX3_step 45 = .ok (.if_icmp .lt 41, 3) := by decide +kernel
theorem dX3_step_48 : decode cX3_step 48 = .ok (.iload 8, 2) := by decide +kernel
theorem dX3_step_50 : decode cX3_step 50 = .ok (.iload_n 3, 1) := by decide +kernel
theorem dX3_step_51 : decode cX3_step 51 = .ok (.invokestatic 51, 3) := by decide +kernel
theorem dX3_step_54 : decode cX3_step 54 = .ok (.aload 5, 2) := by decide +kernel
theorem dX3_step_56 : decode cX3_step 56 = .ok (.iload 7, 2) := by decide +kernel
theorem dX3_step_58 : decode cX3_step 58 = .ok (.invokevirtual 48, 3) := by decide +kernel
theorem dX3_step_61 : decode cX3_step 61 = .ok (.iload_n 2, 1) := by decide +kernel
theorem dX3_step_62 : decode cX3_step 62 = .ok (.invokestatic 51, 3) := by decide +kernel
theorem dX3_step_65 : decode cX3_step 65 = .ok (.if_icmp .eq 5, 3) := by decide +kernel
theorem dX3_step_68 : decode cX3_step 68 = .ok (.iconst 0, 1) := by decide +kernel
theorem dX3_step_69 : decode cX3_step 69 = .ok (.ireturn, 1) := by decide +kernel
theorem dX3_step_70 : decode cX3_step 70 = .ok (.iload 8, 2) := by decide +kernel
theorem dX3_step_72 : decode cX3_step 72 = .ok (.iload 9, 2) := by decide +kernel
theorem dX3_step_74 : decode cX3_step 74 = .ok (.iconst 2, 1) := by decide +kernel
theorem dX3_step_75 : decode cX3_step 75 = .ok (.idiv, 1) := by decide +kernel
theorem dX3_step_76 : decode cX3_step 76 = .ok (.iconst 1, 1) := by decide +kernel
theorem dX3_step_77 : decode cX3_step 77 = .ok (.isub, 1) := by decide +kernel
theorem dX3_step_78 : decode cX3_step 78 = .ok (.iand, 1) := by decide +kernel
theorem dX3_step_79 : decode cX3_step 79 = .ok (.iload 9, 2) := by decide +kernel
theorem dX3_step_81 : decode cX3_step 81 = .ok (.iconst 2, 1) := by decide +kernel
theorem dX3_step_82 : decode cX3_step 82 = .ok (.idiv, 1) := by decide +kernel
theorem dX3_step_83 : decode cX3_step 83 = .ok (.ior, 1) := by decide +kernel
theorem dX3_step_84 : decode cX3_step 84 = .ok (.istore 8, 2) := by decide +kernel
theorem dX3_step_86 : decode cX3_step 86 = .ok (.aload_n 0, 1) := by decide +kernel
theorem dX3_step_87 : decode cX3_step 87 = .ok (.iload 8, 2) := by decide +kernel
theorem dX3_step_89 : decode cX3_step 89 = .ok (.aload 4, 2) := by decide +kernel
theorem dX3_step_91 : decode cX3_step 91 = .ok (.iload 6, 2) := by decide +kernel
theorem dX3_step_93 : decode cX3_step 93 = .ok (.iload_n 2, 1) := by decide +kernel
theorem dX3_step_94 : decode cX3_step 94 = .ok (.invokevirtual 55, 3) := by decide +kernel
theorem dX3_step_97 : decode cX3_step 97 = .ok (.aload 5, 2) := by decide +kernel
theorem dX3_step_99 : decode cX3_step 99 = .ok (.iload 7, 2) := by decide +kernel
theorem dX3_step_101 : decode cX3_step 101 = .ok (.iload_n 2, 1) := by decide +kernel
theorem dX3_step_102 : decode cX3_step 102 = .ok (.invokevirtual 55, 3) := by decide +kernel
theorem dX3_step_105 : decode cX3_step 105 = .ok (.invokevirtual 33, 3) := by decide +kernel
theorem dX3_step_108 : decode cX3_step 108 = .ok (.iconst 1, 1) := by decide +kernel
theorem dX3_step_109 : decode cX3_step 109 = .ok (.ireturn, 1) := by decide +kernel
theorem dX3_meet_0 : decode cX3_meet 0 = .ok (.iload_n 1, 1) := by decide +kernel
theorem dX3_meet_1 : decode cX3_meet 1 = .ok (.bipush 16, 2) := by decide +kernel
theorem dX3_meet_3 : decode cX3_meet 3 = .ok (.imul, 1) := by decide +kernel
theorem dX3_meet_4 : decode cX3_meet 4 = .ok (.iload_n 2, 1) := by decide +kernel
theorem dX3_meet_5 : decode cX3_meet 5 = .ok (.iadd, 1) := by decide +kernel
theorem dX3_meet_6 : decode cX3_meet 6 = .ok (.bipush 16, 2) := by decide +kernel
theorem dX3_meet_8 : decode cX3_meet 8 = .ok (.imul, 1) := by decide +kernel
theorem dX3_meet_9 : decode cX3_meet 9 = .ok (.iload_n 3, 1) := by decide +kernel
theorem dX3_meet_10 : decode cX3_meet 10 = .ok (.iadd, 1) := by decide +kernel
theorem dX3_meet_11 : decode cX3_meet 11 = .ok (.istore 4, 2) := by decide +kernel
theorem dX3_meet_13 : decode cX3_meet 13 = .ok (.aload_n 0, 1) := by decide +kernel
theorem dX3_meet_14 : decode cX3_meet 14 = .ok (.getfield 16, 3) := by decide +kernel
theorem dX3_meet_17 : decode cX3_meet 17 = .ok (.iload 4, 2) := by decide +kernel
theorem dX3_meet_19 : decode cX3_meet 19 = .ok (.invokevirtual 37, 3) := by decide +kernel
theorem dX3_meet_22 : decode cX3_meet 22 = .ok (.ifCond .ne 46, 3) := by decide +kernel
theorem dX3_meet_25 : decode cX3_meet 25 = .ok (.aload_n 0, 1) := by decide +kernel
theorem dX3_meet_26 : decode cX3_meet 26 = .ok (.getfield 23, 3) := by decide +kernel
theorem dX3_meet_29 : decode cX3_meet 29 = .ok (.sipush 8192, 3) := by decide +kernel
theorem dX3_meet_32 : decode cX3_meet 32 = .ok (.if_icmp .ge 36, 3) := by decide +kernel
theorem dX3_meet_35 : decode cX3_meet 35 = .ok (.aload_n 0, 1) := by decide +kernel
theorem dX3_meet_36 : decode cX3_meet 36 = .ok (.getfield 16, 3) := by decide +kernel
theorem dX3_meet_39 : decode cX3_meet 39 = .ok (.iload 4, 2) := by decide +kernel
theorem dX3_meet_41 : decode cX3_meet 41 = .ok (.iconst 1, 1) := by decide +kernel
theorem dX3_meet_42 : decode cX3_meet 42 = .ok (.invokevirtual 58, 3) := by decide +kernel
theorem dX3_meet_45 : decode cX3_meet 45 = .ok (.aload_n 0, 1) := by decide +kernel
theorem dX3_meet_46 : decode cX3_meet 46 = .ok (.getfield 20, 3) := by decide +kernel
theorem dX3_meet_49 : decode cX3_meet 49 = .ok (.aload_n 0, 1) := by decide +kernel
theorem dX3_meet_50 : decode cX3_meet 50 = .ok (.getfield 23, 3) := by decide +kernel
theorem dX3_meet_53 : decode cX3_meet 53 = .ok (.iload 4, 2) := by decide +kernel
theorem dX3_meet_55 : decode cX3_meet 55 = .ok (.invokevirtual 58, 3) := by decide +kernel
theorem dX3_meet_58 : decode cX3_meet 58 = .ok (.aload_n 0, 1) := by decide +kernel
theorem dX3_meet_59 : decode cX3_meet 59 = .ok (.dup, 1) := by decide +kernel
theorem dX3_meet_60 : decode cX3_meet 60 = .ok (.getfield 23, 3) := by decide +kernel
theorem dX3_meet_63 : decode cX3_meet 63 = .ok (.iconst 1, 1) := by decide +kernel
theorem dX3_meet_64 : decode cX3_meet 64 = .ok (.iadd, 1) := by decide +kernel
theorem dX3_meet_65 : decode cX3_meet 65 = .ok (.putfield 23, 3) := by decide +kernel
theorem dX3_meet_68 : decode cX3_meet 68 = .ok (.return_, 1) := by decide +kernel
theorem dX3_forgetAll_0 : decode cX3_forgetAll 0 = .ok (.iconst 0, 1) := by decide +kernel
theorem dX3_forgetAll_1 : decode cX3_forgetAll 1 = .ok (.istore_n 1, 1) := by decide +kernel
theorem dX3_forgetAll_2 : decode cX3_forgetAll 2 = .ok (.iload_n 1, 1) := by decide +kernel
theorem dX3_forgetAll_3 : decode cX3_forgetAll 3 = .ok (.aload_n 0, 1) := by decide +kernel
theorem dX3_forgetAll_4 : decode cX3_forgetAll 4 = .ok (.getfield 23, 3) := by decide +kernel
theorem dX3_forgetAll_7 : decode cX3_forgetAll 7 = .ok (.if_icmp .ge 32, 3) := by decide +kernel
theorem dX3_forgetAll_10 : decode cX3_forgetAll 10 = .ok (.iload_n 1, 1) := by decide +kernel
theorem dX3_forgetAll_11 : decode cX3_forgetAll 11 = .ok (.sipush 8192, 3) := by decide +kernel
theorem dX3_forgetAll_14 : decode cX3_forgetAll 14 = .ok (.if_icmp .ge 25, 3) := by decide +kernel
theorem dX3_forgetAll_17 : decode cX3_forgetAll 17 = .ok (.aload_n 0, 1) := by decide +kernel
theorem dX3_forgetAll_18 : decode cX3_forgetAll 18 = .ok (.getfield 16, 3) := by decide +kernel
theorem dX3_forgetAll_21 : decode cX3_forgetAll 21 = .ok (.aload_n 0, 1) := by decide +kernel
theorem dX3_forgetAll_22 : decode cX3_forgetAll 22 = .ok (.getfield 20, 3) := by decide +kernel
theorem dX3_forgetAll_25 : decode cX3_forgetAll 25 = .ok (.iload_n 1, 1) := by decide +kernel
theorem dX3_forgetAll_26 : decode cX3_forgetAll 26 = .ok (.invokevirtual 37, 3) := by decide +kernel
theorem dX3_forgetAll_29 : decode cX3_forgetAll 29 = .ok (.iconst 0, 1) := by decide +kernel
theorem dX3_forgetAll_30 : decode cX3_forgetAll 30 = .ok (.invokevirtual 58, 3) := by decide +kernel
theorem dX3_forgetAll_33 : decode cX3_forgetAll 33 = .ok (.iinc 1 1, 3) := by decide +kernel
theorem dX3_forgetAll_36 : decode cX3_forgetAll 36 = .ok (.goto (-34), 3) := by decide +kernel
theorem dX3_forgetAll_39 : decode cX3_forgetAll 39 = .ok (.return_, 1) := by decide +kernel
theorem dX4_init_0 : decode cX4_init 0 = .ok (.aload_n 0, 1) := by decide +kernel
theorem dX4_init_1 : decode cX4_init 1 = .ok (.invokespecial 3, 3) := by decide +kernel
theorem dX4_init_4 : decode cX4_init 4 = .ok (.aload_n 0, 1) := by decide +kernel
theorem dX4_init_5 : decode cX4_init 5 = .ok (.new 9, 3) := by decide +kernel
theorem dX4_init_8 : decode cX4_init 8 = .ok (.dup, 1) := by decide +kernel
theorem dX4_init_9 : decode cX4_init 9 = .ok (.sipush 256, 3) := by decide +kernel
theorem dX4_init_12 : decode cX4_init 12 = .ok (.invokespecial 11, 3) := by decide +kernel
theorem dX4_init_15 : decode cX4_init 15 = .ok (.putfield 14, 3) := by decide +kernel
theorem dX4_init_18 : decode cX4_init 18 = .ok (.aload_n 0, 1) := by decide +kernel
theorem dX4_init_19 : decode cX4_init 19 = .ok (.new 9, 3) := by decide +kernel
theorem dX4_init_22 : decode cX4_init 22 = .ok (.dup, 1) := by decide +kernel
theorem dX4_init_23 : decode cX4_init 23 = .ok (.sipush 256, 3) := by decide +kernel
theorem dX4_init_26 : decode cX4_init 26 = .ok (.invokespecial 11, 3) := by decide +kernel
theorem dX4_init_29 : decode cX4_init 29 = .ok (.putfield 20, 3) := by decide +kernel
theorem dX4_init_32 : decode cX4_init 32 = .ok (.aload_n 0, 1) := by decide +kernel
theorem dX4_init_33 : decode cX4_init 33 = .ok (.new 9, 3) := by decide +kernel
theorem dX4_init_36 : decode cX4_init 36 = .ok (.dup, 1) := by decide +kernel
theorem dX4_init_37 : decode cX4_init 37 = .ok (.sipush 256, 3) := by decide +kernel
theorem dX4_init_40 : decode cX4_init 40 = .ok (.invokespecial 11, 3) := by decide +kernel
theorem dX4_init_43 : decode cX4_init 43 = .ok (.putfield 23, 3) := by decide +kernel
theorem dX4_init_46 : decode cX4_init 46 = .ok (.aload_n 0, 1) := by decide +kernel
theorem dX4_init_47 : decode cX4_init 47 = .ok (.new 9, 3) := by decide +kernel
theorem dX4_init_50 : decode cX4_init 50 = .ok (.dup, 1) := by decide +kernel
theorem dX4_init_51 : decode cX4_init 51 = .ok (.sipush 256, 3) := by decide +kernel
theorem dX4_init_54 : decode cX4_init 54 = .ok (.invokespecial 11, 3) := by decide +kernel
theorem dX4_init_57 : decode cX4_init 57 = .ok (.putfield 26, 3) := by decide +kernel
theorem dX4_init_60 : decode cX4_init 60 = .ok (.aload_n 0, 1) := by decide +kernel
theorem dX4_init_61 : decode cX4_init 61 = .ok (.new 9, 3) := by decide +kernel
theorem dX4_init_64 : decode cX4_init 64 = .ok (.dup, 1) := by decide +kernel
theorem dX4_init_65 : decode cX4_init 65 = .ok (.sipush 256, 3) := by decide +kernel
theorem dX4_init_68 : decode cX4_init 68 = .ok (.invokespecial 11, 3) := by decide +kernel
theorem dX4_init_71 : decode cX4_init 71 = .ok (.putfield 29, 3) := by decide +kernel
theorem dX4_init_74 : decode cX4_init 74 = .ok (.aload_n 0, 1) := by decide +kernel
theorem dX4_init_75 : decode cX4_init 75 = .ok (.new 9, 3) := by decide +kernel
theorem dX4_init_78 : decode cX4_init 78 = .ok (.dup, 1) := by decide +kernel
theorem dX4_init_79 : decode cX4_init 79 = .ok (.sipush 256, 3) := by decide +kernel
theorem dX4_init_82 : decode cX4_init 82 = .ok (.invokespecial 11, 3) := by decide +kernel
theorem dX4_init_85 : decode cX4_init 85 = .ok (.putfield 32, 3) := by decide +kernel
theorem dX4_init_88 : decode cX4_init 88 = .ok (.return_, 1) := by decide +kernel
theorem dX4_walkFromFirst_0 : decode cX4_walkFromFirst 0 = .ok (.aload_n 0, 1) := by decide +kernel
theorem dX4_walkFromFirst_1 : decode cX4_walkFromFirst 1 = .ok (.getfield 14, 3) := by decide +kernel
theorem dX4_walkFromFirst_4 : decode cX4_walkFromFirst 4 = .ok (.invokevirtual 35, 3) := by decide +kernel
theorem dX4_walkFromFirst_7 : decode cX4_walkFromFirst 7 = .ok (.aload_n 0, 1) := by decide +kernel
theorem dX4_walkFromFirst_8 : decode cX4_walkFromFirst 8 = .ok (.iconst 0, 1) := by decide +kernel
theorem dX4_walkFromFirst_9 : decode cX4_walkFromFirst 9 = .ok (.putfield 38, 3) := by decide +kernel
theorem dX4_walkFromFirst_12 : decode cX4_walkFromFirst 12 = .ok (.aload_n 0, 1) := by decide +kernel
theorem dX4_walkFromFirst_13 : decode cX4_walkFromFirst 13 = .ok (.aload_n 1, 1) := by decide +kernel
theorem dX4_walkFromFirst_14 : decode cX4_walkFromFirst 14 = .ok (.invokevirtual 42, 3) := by decide +kernel
theorem dX4_walkFromFirst_17 : decode cX4_walkFromFirst 17 = .ok (.aload_n 2, 1) := by decide +kernel
theorem dX4_walkFromFirst_18 : decode cX4_walkFromFirst 18 = .ok (.invokevirtual 42, 3) := by decide +kernel
theorem dX4_walkFromFirst_21 : decode cX4_walkFromFirst 21 = .ok (.iconst (-1), 1) := by decide +kernel
theorem dX4_walkFromFirst_22 : decode cX4_walkFromFirst 22 = .ok (.iconst 0, 1) := by decide +kernel
theorem dX4_walkFromFirst_23 : decode cX4_walkFromFirst 23 = .ok (.invokevirtual 48, 3) := by decide +kernel
theorem dX4_walkFromFirst_26 : decode cX4_walkFromFirst 26 = .ok (.iconst 0, 1) := by decide +kernel
theorem dX4_walkFromFirst_27 : decode cX4_walkFromFirst 27 = .ok (.istore_n 3, 1) := by decide +kernel
theorem dX4_walkFromFirst_28 : decode cX4_walkFromFirst 28 = .ok (.iload_n 3, 1) := by decide +kernel
theorem dX4_walkFromFirst_29 : decode cX4_walkFromFirst 29 = .ok (.aload_n 0, 1) := by decide +kernel
theorem dX4_walkFromFirst_30 : decode cX4_walkFromFirst 30 = .ok (.getfield 38, 3) := by decide +kernel
theorem dX4_walkFromFirst_33 : decode cX4_walkFromFirst 33 = .ok (.if_icmp .ge 60, 3) := by decide +kernel
theorem dX4_walkFromFirst_36 : decode cX4_walkFromFirst 36 = .ok (.iload_n 3, 1) := by decide +kernel
theorem dX4_walkFromFirst_37 : decode cX4_walkFromFirst 37 = .ok (.sipush 256, 3) := by decide +kernel
theorem dX4_walkFromFirst_40 : decode cX4_walkFromFirst 40 = .ok (.if_icmp .ge 53, 3) := by decide +kernel
theorem dX4_walkFromFirst_43 : decode cX4_walkFromFirst 43 = .ok (.iconst 0, 1) := by decide +kernel
theorem dX4_walkFromFirst_44 : decode cX4_walkFromFirst 44 = .ok (.istore 4, 2) := by decide +kernel
theorem dX4_walkFromFirst_46 : decode cX4_walkFromFirst 46 = .ok (.iload 4, 2) := by decide +kernel
theorem dX4_walkFromFirst_48 : decode cX4_walkFromFirst 48 = .ok (.iconst 4, 1) := by decide +kernel
theorem dX4_walkFromFirst_49 : decode cX4_walkFromFirst 49 = .ok (.if_icmp .ge 38, 3) := by decide +kernel
theorem dX4_walkFromFirst_52 : decode cX4_walkFromFirst 52 = .ok (.aload_n 0, 1) := by decide +kernel
theorem dX4_walkFromFirst_53 : decode cX4_walkFromFirst 53 = .ok (.aload_n 1, 1) := by decide +kernel
theorem dX4_walkFromFirst_54 : decode cX4_walkFromFirst 54 = .ok (.aload_n 0, 1) := by decide +kernel
theorem dX4_walkFromFirst_55 : decode cX4_walkFromFirst 55 = .ok (.iload_n 3, 1) := by decide +kernel
theorem dX4_walkFromFirst_56 : decode cX4_walkFromFirst 56 = .ok (.invokevirtual 52, 3) := by decide +kernel
theorem dX4_walkFromFirst_59 : decode cX4_walkFromFirst 59 = .ok (.iload 4, 2) := by decide +kernel
theorem dX4_walkFromFirst_61 : decode cX4_walkFromFirst 61 = .ok (.invokevirtual 56, 3) := by decide +kernel
theorem dX4_walkFromFirst_64 : decode cX4_walkFromFirst 64 = .ok (.aload_n 2, 1) := by decide +kernel
theorem dX4_walkFromFirst_65 : decode cX4_walkFromFirst 65 = .ok (.aload_n 0, 1) := by decide +kernel
theorem dX4_walkFromFirst_66 : decode cX4_walkFromFirst 66 = .ok (.iload_n 3, 1) := by decide +kernel
theorem dX4_walkFromFirst_67 : decode cX4_walkFromFirst 67 = .ok (.invokevirtual 60, 3) := by decide +kernel
theorem dX4_walkFromFirst_70 : decode cX4_walkFromFirst 70 = .ok (.iload 4, 2) := by decide +kernel
theorem dX4_walkFromFirst_72 : decode cX4_walkFromFirst 72 = .ok (.invokevirtual 56, 3) := by decide +kernel
theorem dX4_walkFromFirst_75 : decode cX4_walkFromFirst 75 = .ok (.iload_n 3, 1) := by decide +kernel
theorem dX4_walkFromFirst_76 : decode cX4_walkFromFirst 76 = .ok (.iload 4, 2) := by decide +kernel
theorem dX4_walkFromFirst_78 : decode cX4_walkFromFirst 78 = .ok (.invokevirtual 48, 3) := by decide +kernel
theorem dX4_walkFromFirst_81 : decode cX4_walkFromFirst 81 = .ok (.iinc 4 1, 3) := by decide +kernel
theorem dX4_walkFromFirst_84 : decode cX4_walkFromFirst 84 = .ok (.goto (-38), 3) := by decide +kernel
theorem dX4_walkFromFirst_87 : decode cX4_walkFromFirst 87 = .ok (.iinc 3 1, 3) := by decide +kernel
theorem dX4_walkFromFirst_90 : decode cX4_walkFromFirst 90 = .ok (.goto (-62), 3) := by decide +kernel
theorem dX4_walkFromFirst_93 : decode cX4_walkFromFirst 93 = .ok (.return_, 1) := by decide +kernel
theorem dX4_meet_0 : decode cX4_meet 0 = .ok (.iload_n 1, 1) := by decide +kernel
theorem dX4_meet_1 : decode cX4_meet 1 = .ok (.bipush 16, 2) := by decide +kernel
theorem dX4_meet_3 : decode cX4_meet 3 = .ok (.imul, 1) := by decide +kernel
theorem dX4_meet_4 : decode cX4_meet 4 = .ok (.iload_n 2, 1) := by decide +kernel
theorem dX4_meet_5 : decode cX4_meet 5 = .ok (.iadd, 1) := by decide +kernel
theorem dX4_meet_6 : decode cX4_meet 6 = .ok (.istore 5, 2) := by decide +kernel
theorem dX4_meet_8 : decode cX4_meet 8 = .ok (.aload_n 0, 1) := by decide +kernel
theorem dX4_meet_9 : decode cX4_meet 9 = .ok (.getfield 14, 3) := by decide +kernel
theorem dX4_meet_12 : decode cX4_meet 12 = .ok (.iload 5, 2) := by decide +kernel
theorem dX4_meet_14 : decode cX4_meet 14 = .ok (.invokevirtual 63, 3) := by decide +kernel
theorem dX4_meet_17 : decode cX4_meet 17 = .ok (.iconst 1, 1) := by decide +kernel
theorem dX4_meet_18 : decode cX4_meet 18 = .ok (.if_icmp .eq 13, 3) := by decide +kernel
theorem dX4_meet_21 : decode cX4_meet 21 = .ok (.aload_n 0, 1) := by decide +kernel
theorem dX4_meet_22 : decode cX4_meet 22 = .ok (.getfield 38, 3) := by decide +kernel
theorem dX4_meet_25 : decode cX4_meet 25 = .ok (.sipush 256, 3) := by decide +kernel
theorem dX4_meet_28 : decode cX4_meet 28 = .ok (.if_icmp .lt 4, 3) := by decide +kernel
theorem dX4_meet_31 : decode cX4_meet 31 = .ok (.return_, 1) := by decide +kernel
theorem dX4_meet_32 : decode cX4_meet 32 = .ok (.aload_n 0, 1) := by decide +kernel
theorem dX4_meet_33 : decode cX4_meet 33 = .ok (.getfield 14, 3) := by decide +kernel
theorem dX4_meet_36 : decode cX4_meet 36 = .ok (.iload 5, 2) := by decide +kernel
theorem dX4_meet_38 : decode cX4_meet 38 = .ok (.iconst 1, 1) := by decide +kernel
theorem dX4_meet_39 : decode cX4_meet 39 = .ok (.invokevirtual 66, 3) := by decide +kernel
theorem dX4_meet_42 : decode cX4_meet 42 = .ok (.aload_n 0, 1) := by decide +kernel
theorem dX4_meet_43 : decode cX4_meet 43 = .ok (.getfield 20, 3) := by decide +kernel
theorem dX4_meet_46 : decode cX4_meet 46 = .ok (.aload_n 0, 1) := by decide +kernel
theorem dX4_meet_47 : decode cX4_meet 47 = .ok (.getfield 38, 3) := by decide +kernel
theorem dX4_meet_50 : decode cX4_meet 50 = .ok (.iload_n 1, 1) := by decide +kernel
theorem dX4_meet_51 : decode cX4_meet 51 = .ok (.invokevirtual 66, 3) := by decide +kernel
theorem dX4_meet_54 : decode cX4_meet 54 = .ok (.aload_n 0, 1) := by decide +kernel
theorem dX4_meet_55 : decode cX4_meet 55 = .ok (.getfield 23, 3) := by decide +kernel
theorem dX4_meet_58 : decode cX4_meet 58 = .ok (.aload_n 0, 1) := by decide +kernel
theorem dX4_meet_59 : decode cX4_meet 59 = .ok (.getfield 38, 3) := by decide +kernel
theorem dX4_meet_62 : decode cX4_meet 62 = .ok (.iload_n 2, 1) := by decide +kernel
theorem dX4_meet_63 : decode cX4_meet 63 = .ok (.invokevirtual 66, 3) := by decide +kernel
theorem dX4_meet_66 : decode cX4_meet 66 = .ok (.aload_n 0, 1) := by decide +kernel
theorem dX4_meet_67 : decode cX4_meet 67 = .ok (.getfield 26, 3) := by decide +kernel
theorem dX4_meet_70 : decode cX4_meet 70 = .ok (.aload_n 0, 1) := by decide +kernel
theorem dX4_meet_71 : decode cX4_meet 71 = .ok (.getfield 38, 3) := by decide +kernel
theorem dX4_meet_74 : decode cX4_meet 74 = .ok (.iload_n 3, 1) := by decide +kernel
theorem dX4_meet_75 : decode cX4_meet 75 = .ok (.ifCond .ge 7, 3) := by decide +kernel
theorem dX4_meet_78 : decode cX4_meet 78 = .ok (.iconst 0, 1) := by decide +kernel
theorem dX4_meet_79 : decode cX4_meet 79 = .ok (.goto 13, 3) := by decide +kernel
theorem dX4_meet_82 : decode cX4_meet 82 = .ok (.aload_n 0, 1) := by decide +kernel
theorem dX4_meet_83 : decode cX4_meet 83 = .ok (.getfield 26, 3) := by decide +kernel
theorem dX4_meet_86 : decode cX4_meet 86 = .ok (.iload_n 3, 1) := by decide +kernel
theorem dX4_meet_87 : decode cX4_meet 87 = .ok (.invokevirtual 63, 3) := by decide +kernel
theorem dX4_meet_90 : decode cX4_meet 90 = .ok (.iconst 1, 1) := by decide +kernel
theorem dX4_meet_91 : decode cX4_meet 91 = .ok (.iadd, 1) := by decide +kernel
theorem dX4_meet_92 : decode cX4_meet 92 = .ok (.invokevirtual 66, 3) := by decide +kernel
theorem dX4_meet_95 : decode cX4_meet 95 = .ok (.aload_n 0, 1) := by decide +kernel
theorem dX4_meet_96 : decode cX4_meet 96 = .ok (.getfield 29, 3) := by decide +kernel
theorem dX4_meet_99 : decode cX4_meet 99 = .ok (.aload_n 0, 1) := by decide +kernel
theorem dX4_meet_100 : decode cX4_meet 100 = .ok (.getfield 38, 3) := by decide +kernel
theorem dX4_meet_103 : decode cX4_meet 103 = .ok (.iload_n 3, 1) := by decide +kernel
theorem dX4_meet_104 : decode cX4_meet 104 = .ok (.invokevirtual 66, 3) := by decide +kernel
theorem dX4_meet_107 : decode cX4_meet 107 = .ok (.aload_n 0, 1) := by decide +kernel
theorem dX4_meet_108 : decode cX4_meet 108 = .ok (.getfield 32, 3) := by decide +kernel
theorem dX4_meet_111 : decode cX4_meet 111 = .ok (.aload_n 0, 1) := by decide +kernel
theorem dX4_meet_112 : decode cX4_meet 112 = .ok (.getfield 38, 3) := by decide +kernel
theorem dX4_meet_115 : decode cX4_meet 115 = .ok (.iload 4, 2) := by decide +kernel
theorem dX4_meet_117 : decode cX4_meet 117 = .ok (.invokevirtual 66, 3) := by decide +kernel
theorem dX4_meet_120 : decode cX4_meet 120 = .ok (.aload_n 0, 1) := by decide +kernel
theorem dX4_meet_121 : decode cX4_meet 121 = .ok (.dup, 1) := by decide +kernel
theorem dX4_meet_122 : decode cX4_meet 122 = .ok (.getfield 38, 3) := by decide +kernel
theorem dX4_meet_125 : decode cX4_meet 125 = .ok (.iconst 1, 1) := by decide +kernel
theorem dX4_meet_126 : decode cX4_meet 126 = .ok (.iadd, 1) := by decide +kernel
theorem dX4_meet_127 : decode cX4_meet 127 = .ok (.putfield 38, 3) := by decide +kernel
theorem dX4_meet_130 : decode cX4_meet 130 = .ok (.return_, 1) := by decide +kernel
theorem dX4_size_0 : decode cX4_size 0 = .ok (.aload_n 0, 1) := by decide +kernel
theorem dX4_size_1 : decode cX4_size 1 = .ok (.getfield 38, 3) := by decide +kernel
theorem dX4_size_4 : decode cX4_size 4 = .ok (.ireturn, 1) := by decide +kernel
theorem dX4_zeroState_0 : decode cX4_zeroState 0 = .ok (.aload_n 0, 1) := by decide +kernel
theorem dX4_zeroState_1 : decode cX4_zeroState 1 = .ok (.getfield 20, 3) := by decide +kernel
theorem dX4_zeroState_4 : decode cX4_zeroState 4 = .ok (.iload_n 1, 1) := by decide +kernel
theorem dX4_zeroState_5 : decode cX4_zeroState 5 = .ok (.invokevirtual 63, 3) := by decide +kernel
theorem dX4_zeroState_8 : decode cX4_zeroState 8 = .ok (.ireturn, 1) := by decide +kernel
theorem dX4_oneState_0 : decode cX4_oneState 0 = .ok (.aload_n 0, 1) := by decide +kernel
theorem dX4_oneState_1 : decode cX4_oneState 1 = .ok (.getfield 23, 3) := by decide +kernel
theorem dX4_oneState_4 : decode cX4_oneState 4 = .ok (.iload_n 1, 1) := by decide +kernel
theorem dX4_oneState_5 : decode cX4_oneState 5 = .ok (.invokevirtual 63, 3) := by decide +kernel
theorem dX4_oneState_8 : decode cX4_oneState 8 = .ok (.ireturn, 1) := by decide +kernel
theorem dX4_ticksTo_0 : decode cX4_ticksTo 0 = .ok (.aload_n 0, 1) := by decide +kernel
theorem dX4_ticksTo_1 : decode cX4_ticksTo 1 = .ok (.getfield 26, 3) := by decide +kernel
theorem dX4_ticksTo_4 : decode cX4_ticksTo 4 = .ok (.iload_n 1, 1) := by decide +kernel
theorem dX4_ticksTo_5 : decode cX4_ticksTo 5 = .ok (.invokevirtual 63, 3) := by decide +kernel
theorem dX4_ticksTo_8 : decode cX4_ticksTo 8 = .ok (.ireturn, 1) := by decide +kernel
theorem dX4_inputsOnWay_0 : decode cX4_inputsOnWay 0 = .ok (.iload_n 1, 1) := by decide +kernel
theorem dX4_inputsOnWay_1 : decode cX4_inputsOnWay 1 = .ok (.istore_n 3, 1) := by decide +kernel
theorem dX4_inputsOnWay_2 : decode cX4_inputsOnWay 2 = .ok (.aload_n 0, 1) := by decide +kernel
theorem dX4_inputsOnWay_3 : decode cX4_inputsOnWay 3 = .ok (.iload_n 1, 1) := by decide +kernel
theorem dX4_inputsOnWay_4 : decode cX4_inputsOnWay 4 = .ok (.invokevirtual 70, 3) := by decide +kernel
theorem dX4_inputsOnWay_7 : decode cX4_inputsOnWay 7 = .ok (.iconst 1, 1) := by decide +kernel
theorem dX4_inputsOnWay_8 : decode cX4_inputsOnWay 8 = .ok (.isub, 1) := by decide +kernel
theorem dX4_inputsOnWay_9 : decode cX4_inputsOnWay 9 = .ok (.iload_n 2, 1) := by decide +kernel
theorem dX4_inputsOnWay_10 : decode cX4_inputsOnWay 10 = .ok (.isub, 1) := by decide +kernel
theorem dX4_inputsOnWay_11 : decode cX4_inputsOnWay 11 = .ok (.istore 4, 2) := by decide +kernel
theorem dX4_inputsOnWay_13 : decode cX4_inputsOnWay 13 = .ok (.iload 4, 2) := by decide +kernel
theorem dX4_inputsOnWay_15 : decode cX4_inputsOnWay 15 = .ok (.ifCond .le 18, 3) := by decide +kernel
theorem dX4_inputsOnWay_18 : decode cX4_inputsOnWay 18 = .ok (.aload_n 0, 1) := by decide +kernel
theorem dX4_inputsOnWay_19 : decode cX4_inputsOnWay 19 = .ok (.getfield 29, 3) := by decide +kernel
theorem dX4_inputsOnWay_22 : decode cX4_inputsOnWay 22 = .ok (.iload_n 3, 1) := by decide +kernel
theorem dX4_inputsOnWay_23 : decode cX4_inputsOnWay 23 = .ok (.invokevirtual 63, 3) := by decide +kernel
theorem dX4_inputsOnWay_26 : decode cX4_inputsOnWay 26 = .ok (.istore_n 3, 1) := by decide +kernel
theorem dX4_inputsOnWay_27 : decode cX4_inputsOnWay 27 = .ok (.iinc 4 (-1), 3) := by decide +kernel
theorem dX4_inputsOnWay_30 : decode cX4_inputsOnWay 30 = .ok (.goto (-17), 3) := by decide +kernel
theorem dX4_inputsOnWay_33 : decode cX4_inputsOnWay 33 = .ok (.aload_n 0, 1) := by decide +kernel
theorem dX4_inputsOnWay_34 : decode cX4_inputsOnWay 34 = .ok (.getfield 32, 3) := by decide +kernel
theorem dX4_inputsOnWay_37 : decode cX4_inputsOnWay 37 = .ok (.iload_n 3, 1) := by decide +kernel
theorem dX4_inputsOnWay_38 : decode cX4_inputsOnWay 38 = .ok (.invokevirtual 63, 3) := by decide +kernel
theorem dX4_inputsOnWay_41 : decode cX4_inputsOnWay 41 = .ok (.ireturn, 1) := by decide +kernel
theorem dX5_init_0 : decode cX5_init 0 = .ok (.aload_n 0, 1) := by decide +kernel
theorem dX5_init_1 : decode cX5_init 1 = .ok (.invokespecial 3, 3) := by decide +kernel
theorem dX5_init_4 : decode cX5_init 4 = .ok (.aload_n 0, 1) := by decide +kernel
theorem dX5_init_5 : decode cX5_init 5 = .ok (.new 9, 3) := by decide +kernel
theorem dX5_init_8 : decode cX5_init 8 = .ok (.dup, 1) := by decide +kernel
theorem dX5_init_9 : decode cX5_init 9 = .ok (.invokespecial 11, 3) := by decide +kernel
theorem dX5_init_12 : decode cX5_init 12 = .ok (.putfield 12, 3) := by decide +kernel
theorem dX5_init_15 : decode cX5_init 15 = .ok (.return_, 1) := by decide +kernel
theorem dX6_init_0 : decode cX6_init 0 = .ok (.aload_n 0, 1) := by decide +kernel
theorem dX6_init_1 : decode cX6_init 1 = .ok (.invokespecial 1, 3) := by decide +kernel
theorem dX6_init_4 : decode cX6_init 4 = .ok (.aload_n 0, 1) := by decide +kernel
theorem dX6_init_5 : decode cX6_init 5 = .ok (.iload_n 1, 1) := by decide +kernel
theorem dX6_init_6 : decode cX6_init 6 = .ok (.ifCond .ge 7, 3) := by decide +kernel
theorem dX6_init_9 : decode cX6_init 9 = .ok (.iconst 0, 1) := by decide +kernel
theorem dX6_init_10 : decode cX6_init 10 = .ok (.goto 4, 3) := by decide +kernel
theorem dX6_init_13 : decode cX6_init 13 = .ok (.iload_n 1, 1) := by decide +kernel
theorem dX6_init_14 : decode cX6_init 14 = .ok (.newarray .int, 2) := by decide +kernel
theorem dX6_init_16 : decode cX6_init 16 = .ok (.putfield 7, 3) := by decide +kernel
theorem dX6_init_19 : decode cX6_init 19 = .ok (.return_, 1) := by decide +kernel
theorem dX6_get_0 : decode cX6_get 0 = .ok (.iload_n 1, 1) := by decide +kernel
theorem dX6_get_1 : decode cX6_get 1 = .ok (.ifCond .lt 21, 3) := by decide +kernel
theorem dX6_get_4 : decode cX6_get 4 = .ok (.iload_n 1, 1) := by decide +kernel
theorem dX6_get_5 : decode cX6_get 5 = .ok (.aload_n 0, 1) := by decide +kernel
theorem dX6_get_6 : decode cX6_get 6 = .ok (.getfield 7, 3) := by decide +kernel
theorem dX6_get_9 : decode cX6_get 9 = .ok (.arraylength, 1) := by decide +kernel
theorem dX6_get_10 : decode cX6_get 10 = .ok (.if_icmp .ge 12, 3) := by decide +kernel
theorem dX6_get_13 : decode cX6_get 13 = .ok (.aload_n 0, 1) := by decide +kernel
theorem dX6_get_14 : decode cX6_get 14 = .ok (.getfield 7, 3) := by decide +kernel
theorem dX6_get_17 : decode cX6_get 17 = .ok (.iload_n 1, 1) := by decide +kernel
theorem dX6_get_18 : decode cX6_get 18 = .ok (.iaload, 1) := by decide +kernel
theorem dX6_get_19 : decode cX6_get 19 = .ok (.goto 4, 3) := by decide +kernel
theorem dX6_get_22 : decode cX6_get 22 = .ok (.iconst 0, 1) := by decide +kernel
theorem dX6_get_23 : decode cX6_get 23 = .ok (.ireturn, 1) := by decide +kernel
theorem dX6_set_0 : decode cX6_set 0 = .ok (.iload_n 1, 1) := by decide +kernel
theorem dX6_set_1 : decode cX6_set 1 = .ok (.ifCond .lt 19, 3) := by decide +kernel
theorem dX6_set_4 : decode cX6_set 4 = .ok (.iload_n 1, 1) := by decide +kernel
theorem dX6_set_5 : decode cX6_set 5 = .ok (.aload_n 0, 1) := by decide +kernel
theorem dX6_set_6 : decode cX6_set 6 = .ok (.getfield 7, 3) := by decide +kernel
theorem dX6_set_9 : decode cX6_set 9 = .ok (.arraylength, 1) := by decide +kernel
theorem dX6_set_10 : decode cX6_set 10 = .ok (.if_icmp .ge 10, 3) := by decide +kernel
theorem dX6_set_13 : decode cX6_set 13 = .ok (.aload_n 0, 1) := by decide +kernel
theorem dX6_set_14 : decode cX6_set 14 = .ok (.getfield 7, 3) := by decide +kernel
theorem dX6_set_17 : decode cX6_set 17 = .ok (.iload_n 1, 1) := by decide +kernel
theorem dX6_set_18 : decode cX6_set 18 = .ok (.iload_n 2, 1) := by decide +kernel
theorem dX6_set_19 : decode cX6_set 19 = .ok (.iastore, 1) := by decide +kernel
theorem dX6_set_20 : decode cX6_set 20 = .ok (.return_, 1) := by decide +kernel
theorem dX6_clear_0 : decode cX6_clear 0 = .ok (.aload_n 0, 1) := by decide +kernel
theorem dX6_clear_1 : decode cX6_clear 1 = .ok (.getfield 7, 3) := by decide +kernel
theorem dX6_clear_4 : decode cX6_clear 4 = .ok (.iconst 0, 1) := by decide +kernel
theorem dX6_clear_5 : decode cX6_clear 5 = .ok (.invokestatic 13, 3) := by decide +kernel
theorem dX6_clear_8 : decode cX6_clear 8 = .ok (.return_, 1) := by decide +kernel
theorem dX7_init_0 : decode cX7_init 0 = .ok (.aload_n 0, 1) := by decide +kernel
theorem dX7_init_1 : decode cX7_init 1 = .ok (.invokespecial 3, 3) := by decide +kernel
theorem dX7_init_4 : decode cX7_init 4 = .ok (.aload_n 0, 1) := by decide +kernel
theorem dX7_init_5 : decode cX7_init 5 = .ok (.new 9, 3) := by decide +kernel
theorem dX7_init_8 : decode cX7_init 8 = .ok (.dup, 1) := by decide +kernel
theorem dX7_init_9 : decode cX7_init 9 = .ok (.bipush 64, 2) := by decide +kernel
theorem dX7_init_11 : decode cX7_init 11 = .ok (.invokespecial 11, 3) := by decide +kernel
theorem dX7_init_14 : decode cX7_init 14 = .ok (.putfield 14, 3) := by decide +kernel
theorem dX7_init_17 : decode cX7_init 17 = .ok (.aload_n 0, 1) := by decide +kernel
theorem dX7_init_18 : decode cX7_init 18 = .ok (.new 9, 3) := by decide +kernel
theorem dX7_init_21 : decode cX7_init 21 = .ok (.dup, 1) := by decide +kernel
theorem dX7_init_22 : decode cX7_init 22 = .ok (.bipush 16, 2) := by decide +kernel
theorem dX7_init_24 : decode cX7_init 24 = .ok (.invokespecial 11, 3) := by decide +kernel
theorem dX7_init_27 : decode cX7_init 27 = .ok (.putfield 20, 3) := by decide +kernel
theorem dX7_init_30 : decode cX7_init 30 = .ok (.return_, 1) := by decide +kernel
theorem dX7_fillFrom_0 : decode cX7_fillFrom 0 = .ok (.aload_n 0, 1) := by decide +kernel
theorem dX7_fillFrom_1 : decode cX7_fillFrom 1 = .ok (.aload_n 1, 1) := by decide +kernel
theorem dX7_fillFrom_2 : decode cX7_fillFrom 2 = .ok (.invokevirtual 23, 3) := by decide +kernel
theorem dX7_fillFrom_5 : decode cX7_fillFrom 5 = .ok (.putfield 29, 3) := by decide +kernel
theorem dX7_fillFrom_8 : decode cX7_fillFrom 8 = .ok (.iconst 0, 1) := by decide +kernel
theorem dX7_fillFrom_9 : decode cX7_fillFrom 9 = .ok (.istore_n 2, 1) := by decide +kernel
theorem dX7_fillFrom_10 : decode cX7_fillFrom 10 = .ok (.iload_n 2, 1) := by decide +kernel
theorem dX7_fillFrom_11 : decode cX7_fillFrom 11 = .ok (.bipush 16, 2) := by decide +kernel
theorem dX7_fillFrom_13 : decode cX7_fillFrom 13 = .ok (.if_icmp .ge 78, 3) := by decide +kernel
theorem dX7_fillFrom_16 : decode cX7_fillFrom 16 = .ok (.iconst 0, 1) := by decide +kernel
theorem dX7_fillFrom_17 : decode cX7_fillFrom 17 = .ok (.istore_n 3, 1) := by decide +kernel
theorem dX7_fillFrom_18 : decode cX7_fillFrom 18 = .ok (.iconst 0, 1) := by decide +kernel
theorem dX7_fillFrom_19 : decode cX7_fillFrom 19 = .ok (.istore 4, 2) := by decide +kernel
theorem dX7_fillFrom_21 : decode cX7_fillFrom 21 = .ok (.iload 4, 2) := by decide +kernel
theorem dX7_fillFrom_23 : decode cX7_fillFrom 23 = .ok (.iconst 4, 1) := by decide +kernel
theorem dX7_fillFrom_24 : decode cX7_fillFrom 24 = .ok (.if_icmp .ge 52, 3) := by decide +kernel
theorem dX7_fillFrom_27 : decode cX7_fillFrom 27 = .ok (.aload_n 1, 1) := by decide +kernel
theorem dX7_fillFrom_28 : decode cX7_fillFrom 28 = .ok (.iload_n 2, 1) := by decide +kernel
theorem dX7_fillFrom_29 : decode cX7_fillFrom 29 = .ok (.iload 4, 2) := by decide +kernel
theorem dX7_fillFrom_31 : decode cX7_fillFrom 31 = .ok (.invokevirtual 32, 3) := by decide +kernel
theorem dX7_fillFrom_34 : decode cX7_fillFrom 34 = .ok (.istore 5, 2) := by decide +kernel
theorem dX7_fillFrom_36 : decode cX7_fillFrom 36 = .ok (.iload_n 3, 1) := by decide +kernel
theorem dX7_fillFrom_37 : decode cX7_fillFrom 37 = .ok (.iload 5, 2) := by decide +kernel
theorem dX7_fillFrom_39 : decode cX7_fillFrom 39 = .ok (.aload_n 1, 1) := by decide +kernel
theorem dX7_fillFrom_40 : decode cX7_fillFrom 40 = .ok (.invokevirtual 36, 3) := by decide +kernel
theorem dX7_fillFrom_43 : decode cX7_fillFrom 43 = .ok (.invokestatic 39, 3) := by decide +kernel
theorem dX7_fillFrom_46 : decode cX7_fillFrom 46 = .ok (.iload 4, 2) := by decide +kernel
theorem dX7_fillFrom_48 : decode cX7_fillFrom 48 = .ok (.ishl, 1) := by decide +kernel
theorem dX7_fillFrom_49 : decode cX7_fillFrom 49 = .ok (.ior, 1) := by decide +kernel
theorem dX7_fillFrom_50 : decode cX7_fillFrom 50 = .ok (.istore_n 3, 1) := by decide +kernel
theorem dX7_fillFrom_51 : decode cX7_fillFrom 51 = .ok (.aload_n 0, 1) := by decide +kernel
theorem dX7_fillFrom_52 : decode cX7_fillFrom 52 = .ok (.getfield 14, 3) := by decide +kernel
theorem dX7_fillFrom_55 : decode cX7_fillFrom 55 = .ok (.iload_n 2, 1) := by decide +kernel
theorem dX7_fillFrom_56 : decode cX7_fillFrom 56 = .ok (.iconst 4, 1) := by decide +kernel
theorem dX7_fillFrom_57 : decode cX7_fillFrom 57 = .ok (.imul, 1) := by decide +kernel
theorem dX7_fillFrom_58 : decode cX7_fillFrom 58 = .ok (.iload 4, 2) := by decide +kernel
theorem dX7_fillFrom_60 : decode cX7_fillFrom 60 = .ok (.iadd, 1) := by decide +kernel
theorem dX7_fillFrom_61 : decode cX7_fillFrom 61 = .ok (.aload_n 1, 1) := by decide +kernel
theorem dX7_fillFrom_62 : decode cX7_fillFrom 62 = .ok (.iload 5, 2) := by decide +kernel
theorem dX7_fillFrom_64 : decode cX7_fillFrom 64 = .ok (.invokevirtual 42, 3) := by decide +kernel
theorem dX7_fillFrom_67 : decode cX7_fillFrom 67 = .ok (.invokevirtual 46, 3) := by decide +kernel
theorem dX7_fillFrom_70 : decode cX7_fillFrom 70 = .ok (.iinc 4 1, 3) := by decide +kernel
theorem dX7_fillFrom_73 : decode cX7_fillFrom 73 = .ok (.goto (-52), 3) := by decide +kernel
theorem dX7_fillFrom_76 : decode cX7_fillFrom 76 = .ok (.aload_n 0, 1) := by decide +kernel
theorem dX7_fillFrom_77 : decode cX7_fillFrom 77 = .ok (.getfield 20, 3) := by decide +kernel
theorem dX7_fillFrom_80 : decode cX7_fillFrom 80 = .ok (.iload_n 2, 1) := by decide +kernel
theorem dX7_fillFrom_81 : decode cX7_fillFrom 81 = .ok (.iload_n 3, 1) := by decide +kernel
theorem dX7_fillFrom_82 : decode cX7_fillFrom 82 = .ok (.invokevirtual 46, 3) := by decide +kernel
theorem dX7_fillFrom_85 : decode cX7_fillFrom 85 = .ok (.iinc 2 1, 3) := by decide +kernel
theorem dX7_fillFrom_88 : decode cX7_fillFrom 88 = .ok (.goto (-78), 3) := by decide +kernel
theorem dX7_fillFrom_91 : decode cX7_fillFrom 91 = .ok (.return_, 1) := by decide +kernel
theorem dX7_firstState_0 : decode cX7_firstState 0 = .ok (.aload_n 0, 1) := by decide +kernel
theorem dX7_firstState_1 : decode cX7_firstState 1 = .ok (.getfield 29, 3) := by decide +kernel
theorem dX7_firstState_4 : decode cX7_firstState 4 = .ok (.ireturn, 1) := by decide +kernel
theorem dX7_stateBehind_0 : decode cX7_stateBehind 0 = .ok (.aload_n 0, 1) := by decide +kernel
theorem dX7_stateBehind_1 : decode cX7_stateBehind 1 = .ok (.getfield 14, 3) := by decide +kernel
theorem dX7_stateBehind_4 : decode cX7_stateBehind 4 = .ok (.iload_n 1, 1) := by decide +kernel
theorem dX7_stateBehind_5 : decode cX7_stateBehind 5 = .ok (.iconst 4, 1) := by decide +kernel
theorem dX7_stateBehind_6 : decode cX7_stateBehind 6 = .ok (.imul, 1) := by decide +kernel
theorem dX7_stateBehind_7 : decode cX7_stateBehind 7 = .ok (.iload_n 2, 1) := by decide +kernel
theorem dX7_stateBehind_8 : decode cX7_stateBehind 8 = .ok (.iadd, 1) := by decide +kernel
theorem dX7_stateBehind_9 : decode cX7_stateBehind 9 = .ok (.invokevirtual 50, 3) := by decide +kernel
theorem dX7_stateBehind_12 : decode cX7_stateBehind 12 = .ok (.ireturn, 1) := by decide +kernel
theorem dX7_outputSet_0 : decode cX7_outputSet 0 = .ok (.aload_n 0, 1) := by decide +kernel
theorem dX7_outputSet_1 : decode cX7_outputSet 1 = .ok (.getfield 20, 3) := by decide +kernel
theorem dX7_outputSet_4 : decode cX7_outputSet 4 = .ok (.iload_n 1, 1) := by decide +kernel
theorem dX7_outputSet_5 : decode cX7_outputSet 5 = .ok (.invokevirtual 50, 3) := by decide +kernel
theorem dX7_outputSet_8 : decode cX7_outputSet 8 = .ok (.ireturn, 1) := by decide +kernel
theorem dX7_statesComeTo_0 : decode cX7_statesComeTo 0 = .ok (.iconst 1, 1) := by decide +kernel
theorem dX7_statesComeTo_1 : decode cX7_statesComeTo 1 = .ok (.aload_n 0, 1) := by decide +kernel
theorem dX7_statesComeTo_2 : decode cX7_statesComeTo 2 = .ok (.getfield 29, 3) := by decide +kernel
theorem dX7_statesComeTo_5 : decode cX7_statesComeTo 5 = .ok (.ishl, 1) := by decide +kernel
theorem dX7_statesComeTo_6 : decode cX7_statesComeTo 6 = .ok (.istore_n 1, 1) := by decide +kernel
theorem dX7_statesComeTo_7 : decode cX7_statesComeTo 7 = .ok (.iconst 0, 1) := by decide +kernel
theorem dX7_statesComeTo_8 : decode cX7_statesComeTo 8 = .ok (.istore_n 2, 1) := by decide +kernel
theorem dX7_statesComeTo_9 : decode cX7_statesComeTo 9 = .ok (.iload_n 2, 1) := by decide +kernel
theorem dX7_statesComeTo_10 : decode cX7_statesComeTo 10 = .ok (.bipush 16, 2) := by decide +kernel
theorem dX7_statesComeTo_12 : decode cX7_statesComeTo 12 = .ok (.if_icmp .ge 17, 3) := by decide +kernel
theorem dX7_statesComeTo_15 : decode cX7_statesComeTo 15 = .ok (.iload_n 1, 1) := by decide +kernel
theorem dX7_statesComeTo_16 : decode cX7_statesComeTo 16 = .ok (.aload_n 0, 1) := by decide +kernel
theorem dX7_statesComeTo_17 : decode cX7_statesComeTo 17 = .ok (.iload_n 1, 1) := by decide +kernel
theorem dX7_statesComeTo_18 : decode cX7_statesComeTo 18 = .ok (.invokevirtual 53, 3) := by decide +kernel
theorem dX7_statesComeTo_21 : decode cX7_statesComeTo 21 = .ok (.ior, 1) := by decide +kernel
theorem dX7_statesComeTo_22 : decode cX7_statesComeTo 22 = .ok (.istore_n 1, 1) := by decide +kernel
theorem dX7_statesComeTo_23 : decode cX7_statesComeTo 23 = .ok (.iinc 2 1, 3) := by decide +kernel
theorem dX7_statesComeTo_26 : decode cX7_statesComeTo 26 = .ok (.goto (-17), 3) := by decide +kernel
theorem dX7_statesComeTo_29 : decode cX7_statesComeTo 29 = .ok (.iload_n 1, 1) := by decide +kernel
theorem dX7_statesComeTo_30 : decode cX7_statesComeTo 30 = .ok (.ireturn, 1) := by decide +kernel
theorem dX7_statesBehindAny_0 : decode cX7_statesBehindAny 0 = .ok (.iconst 0, 1) := by decide +kernel
theorem dX7_statesBehindAny_1 : decode cX7_statesBehindAny 1 = .ok (.istore_n 2, 1) := by decide +kernel
theorem dX7_statesBehindAny_2 : decode cX7_statesBehindAny 2 = .ok (.iconst 0, 1) := by decide +kernel
theorem dX7_statesBehindAny_3 : decode cX7_statesBehindAny 3 = .ok (.istore_n 3, 1) := by decide +kernel
theorem dX7_statesBehindAny_4 : decode cX7_statesBehindAny 4 = .ok (.iload_n 3, 1) := by decide +kernel
theorem dX7_statesBehindAny_5 : decode cX7_statesBehindAny 5 = .ok (.bipush 16, 2) := by decide +kernel
theorem dX7_statesBehindAny_7 : decode cX7_statesBehindAny 7 = .ok (.if_icmp .ge 45, 3) := by decide +kernel
theorem dX7_statesBehindAny_10 : decode cX7_statesBehindAny 10 = .ok (.iconst 0, 1) := by decide +kernel
theorem dX7_statesBehindAny_11 : decode cX7_statesBehindAny 11 = .ok (.istore 4, 2) := by decide +kernel
theorem dX7_statesBehindAny_13 : decode cX7_statesBehindAny 13 = .ok (.iload 4, 2) := by decide +kernel
theorem dX7_statesBehindAny_15 : decode cX7_statesBehindAny 15 = .ok (.iconst 4, 1) := by decide +kernel
theorem dX7_statesBehindAny_16 : decode cX7_statesBehindAny 16 = .ok (.if_icmp .ge 30, 3) := by decide +kernel
theorem dX7_statesBehindAny_19 : decode cX7_statesBehindAny 19 = .ok (.iload_n 1, 1) := by decide +kernel
theorem dX7_statesBehindAny_20 : decode cX7_statesBehindAny 20 = .ok (.iload_n 3, 1) := by decide +kernel
theorem dX7_statesBehindAny_21 : decode cX7_statesBehindAny 21 = .ok (.invokestatic 39, 3) := by decide +kernel
theorem dX7_statesBehindAny_24 : decode cX7_statesBehindAny 24 = .ok (.iconst 1, 1) := by decide +kernel
theorem dX7_statesBehindAny_25 : decode cX7_statesBehindAny 25 = .ok (.if_icmp .ne 21, 3) := by decide +kernel
theorem dX7_statesBehindAny_28 : decode cX7_statesBehindAny 28 = .ok (.iload_n 2, 1) := by decide +kernel
theorem dX7_statesBehindAny_29 : decode cX7_statesBehindAny 29 = .ok (.iconst 1, 1) := by decide +kernel
theorem dX7_statesBehindAny_30 : decode cX7_statesBehindAny 30 = .ok (.aload_n 0, 1) := by decide +kernel
theorem dX7_statesBehindAny_31 : decode cX7_statesBehindAny 31 = .ok (.iload_n 3, 1) := by decide +kernel
theorem dX7_statesBehindAny_32 : decode cX7_statesBehindAny 32 = .ok (.iload 4, 2) := by decide +kernel
theorem dX7_statesBehindAny_34 : decode cX7_statesBehindAny 34 = .ok (.invokevirtual 56, 3) := by decide +kernel
theorem dX7_statesBehindAny_37 : decode cX7_statesBehindAny 37 = .ok (.ishl, 1) := by decide +kernel
theorem dX7_statesBehindAny_38 : decode cX7_statesBehindAny 38 = .ok (.ior, 1) := by decide +kernel
theorem dX7_statesBehindAny_39 : decode cX7_statesBehindAny 39 = .ok (.istore_n 2, 1) := by decide +kernel
theorem dX7_statesBehindAny_40 : decode cX7_statesBehindAny 40 = .ok (.iinc 4 1, 3) := by decide +kernel
theorem dX7_statesBehindAny_43 : decode cX7_statesBehindAny 43 = .ok (.goto (-30), 3) := by decide +kernel
theorem dX7_statesBehindAny_46 : decode cX7_statesBehindAny 46 = .ok (.iinc 3 1, 3) := by decide +kernel
theorem dX7_statesBehindAny_49 : decode cX7_statesBehindAny 49 = .ok (.goto (-45), 3) := by decide +kernel
theorem dX7_statesBehindAny_52 : decode cX7_statesBehindAny 52 = .ok (.iload_n 2, 1) := by decide +kernel
theorem dX7_statesBehindAny_53 : decode cX7_statesBehindAny 53 = .ok (.ireturn, 1) := by decide +kernel
theorem dX7_steadyRegisters_0 : decode cX7_steadyRegisters 0 = .ok (.iconst 0, 1) := by decide +kernel
theorem dX7_steadyRegisters_1 : decode cX7_steadyRegisters 1 = .ok (.istore_n 2, 1) := by decide +kernel
theorem dX7_steadyRegisters_2 : decode cX7_steadyRegisters 2 = .ok (.iconst 0, 1) := by decide +kernel
theorem dX7_steadyRegisters_3 : decode cX7_steadyRegisters 3 = .ok (.istore_n 3, 1) := by decide +kernel
theorem dX7_steadyRegisters_4 : decode cX7_steadyRegisters 4 = .ok (.iload_n 3, 1) := by decide +kernel
theorem dX7_steadyRegisters_5 : decode cX7_steadyRegisters 5 = .ok (.bipush 16, 2) := by decide +kernel
theorem dX7_steadyRegisters_7 : decode cX7_steadyRegisters 7 = .ok (.if_icmp .ge 27, 3) := by decide +kernel
theorem dX7_steadyRegisters_10 : decode cX7_steadyRegisters 10 = .ok (.iload_n 1, 1) := by decide +kernel
theorem dX7_steadyRegisters_11 : decode cX7_steadyRegisters 11 = .ok (.iload_n 3, 1) := by decide +kernel
theorem dX7_steadyRegisters_12 : decode cX7_steadyRegisters 12 = .ok (.invokestatic 39, 3) := by decide +kernel
theorem dX7_steadyRegisters_15 : decode cX7_steadyRegisters 15 = .ok (.iconst 1, 1) := by decide +kernel
theorem dX7_steadyRegisters_16 : decode cX7_steadyRegisters 16 = .ok (.if_icmp .ne 12, 3) := by decide +kernel
theorem dX7_steadyRegisters_19 : decode cX7_steadyRegisters 19 = .ok (.iload_n 2, 1) := by decide +kernel
theorem dX7_steadyRegisters_20 : decode cX7_steadyRegisters 20 = .ok (.iload_n 3, 1) := by decide +kernel
theorem dX7_steadyRegisters_21 : decode cX7_steadyRegisters 21 = .ok (.aload_n 0, 1) := by decide +kernel
theorem dX7_steadyRegisters_22 : decode cX7_steadyRegisters 22 = .ok (.getfield 29, 3) := by decide +kernel
theorem dX7_steadyRegisters_25 : decode cX7_steadyRegisters 25 = .ok (.ixor, 1) := by decide +kernel
theorem dX7_steadyRegisters_26 : decode cX7_steadyRegisters 26 = .ok (.ior, 1) := by decide +kernel
theorem dX7_steadyRegisters_27 : decode cX7_steadyRegisters 27 = .ok (.istore_n 2, 1) := by decide +kernel
theorem dX7_steadyRegisters_28 : decode cX7_steadyRegisters 28 = .ok (.iinc 3 1, 3) := by decide +kernel
theorem dX7_steadyRegisters_31 : decode cX7_steadyRegisters 31 = .ok (.goto (-27), 3) := by decide +kernel
theorem dX7_steadyRegisters_34 : decode cX7_steadyRegisters 34 = .ok (.bipush 15, 2) := by decide +kernel
theorem dX7_steadyRegisters_36 : decode cX7_steadyRegisters 36 = .ok (.iload_n 2, 1) := by decide +kernel
theorem dX7_steadyRegisters_37 : decode cX7_steadyRegisters 37 = .ok (.iconst (-1), 1) := by decide +kernel
theorem dX7_steadyRegisters_38 : decode cX7_steadyRegisters 38 = .ok (.ixor, 1) := by decide +kernel
theorem dX7_steadyRegisters_39 : decode cX7_steadyRegisters 39 = .ok (.iand, 1) := by decide +kernel
theorem dX7_steadyRegisters_40 : decode cX7_steadyRegisters 40 = .ok (.ireturn, 1) := by decide +kernel
theorem dX8_init_0 : decode cX8_init 0 = .ok (.aload_n 0, 1) := by decide +kernel
theorem dX8_init_1 : decode cX8_init 1 = .ok (.invokespecial 1, 3) := by decide +kernel
theorem dX8_init_4 : decode cX8_init 4 = .ok (.aload_n 0, 1) := by decide +kernel
theorem dX8_init_5 : decode cX8_init 5 = .ok (.new 7, 3) := by decide +kernel
theorem dX8_init_8 : decode cX8_init 8 = .ok (.dup, 1) := by decide +kernel
theorem dX8_init_9 : decode cX8_init 9 = .ok (.bipush 80, 2) := by decide +kernel
theorem dX8_init_11 : decode cX8_init 11 = .ok (.invokespecial 11, 3) := by decide +kernel
theorem dX8_init_14 : decode cX8_init 14 = .ok (.putfield 14, 3) := by decide +kernel
theorem dX8_init_17 : decode cX8_init 17 = .ok (.return_, 1) := by decide +kernel
theorem dX8_length_0 : decode cX8_length 0 = .ok (.aload_n 0, 1) := by decide +kernel
theorem dX8_length_1 : decode cX8_length 1 = .ok (.getfield 18, 3) := by decide +kernel
theorem dX8_length_4 : decode cX8_length 4 = .ok (.ireturn, 1) := by decide +kernel
theorem dX9_init_0 : decode cX9_init 0 = .ok (.aload_n 0, 1) := by decide +kernel
theorem dX9_init_1 : decode cX9_init 1 = .ok (.invokespecial 3, 3) := by decide +kernel
theorem dX9_init_4 : decode cX9_init 4 = .ok (.aload_n 0, 1) := by decide +kernel
theorem dX9_init_5 : decode cX9_init 5 = .ok (.new 9, 3) := by decide +kernel
theorem dX9_init_8 : decode cX9_init 8 = .ok (.dup, 1) := by decide +kernel
theorem dX9_init_9 : decode cX9_init 9 = .ok (.invokespecial 11, 3) := by decide +kernel
theorem dX9_init_12 : decode cX9_init 12 = .ok (.putfield 12, 3) := by decide +kernel
theorem dX9_init_15 : decode cX9_init 15 = .ok (.aload_n 0, 1) := by decide +kernel
theorem dX9_init_16 : decode cX9_init 16 = .ok (.new 9, 3) := by decide +kernel
theorem dX9_init_19 : decode cX9_init 19 = .ok (.dup, 1) := by decide +kernel
theorem dX9_init_20 : decode cX9_init 20 = .ok (.invokespecial 11, 3) := by decide +kernel
theorem dX9_init_23 : decode cX9_init 23 = .ok (.putfield 16, 3) := by decide +kernel
theorem dX9_init_26 : decode cX9_init 26 = .ok (.aload_n 0, 1) := by decide +kernel
theorem dX9_init_27 : decode cX9_init 27 = .ok (.new 9, 3) := by decide +kernel
theorem dX9_init_30 : decode cX9_init 30 = .ok (.dup, 1) := by decide +kernel
theorem dX9_init_31 : decode cX9_init 31 = .ok (.invokespecial 11, 3) := by decide +kernel
theorem dX9_init_34 : decode cX9_init 34 = .ok (.putfield 19, 3) := by decide +kernel
theorem dX9_init_37 : decode cX9_init 37 = .ok (.aload_n 0, 1) := by decide +kernel
theorem dX9_init_38 : decode cX9_init 38 = .ok (.new 22, 3) := by decide +kernel
theorem dX9_init_41 : decode cX9_init 41 = .ok (.dup, 1) := by decide +kernel
theorem dX9_init_42 : decode cX9_init 42 = .ok (.invokespecial 24, 3) := by decide +kernel
theorem dX9_init_45 : decode cX9_init 45 = .ok (.putfield 25, 3) := by decide +kernel
theorem dX9_init_48 : decode cX9_init 48 = .ok (.aload_n 0, 1) := by decide +kernel
theorem dX9_init_49 : decode cX9_init 49 = .ok (.new 22, 3) := by decide +kernel
theorem dX9_init_52 : decode cX9_init 52 = .ok (.dup, 1) := by decide +kernel
theorem dX9_init_53 : decode cX9_init 53 = .ok (.invokespecial 24, 3) := by decide +kernel
theorem dX9_init_56 : decode cX9_init 56 = .ok (.putfield 29, 3) := by decide +kernel
theorem dX9_init_59 : decode cX9_init 59 = .ok (.aload_n 0, 1) := by decide +kernel
theorem dX9_init_60 : decode cX9_init 60 = .ok (.new 22, 3) := by decide +kernel
theorem dX9_init_63 : decode cX9_init 63 = .ok (.dup, 1) := by decide +kernel
theorem dX9_init_64 : decode cX9_init 64 = .ok (.invokespecial 24, 3) := by decide +kernel
theorem dX9_init_67 : decode cX9_init 67 = .ok (.putfield 32, 3) := by decide +kernel
theorem dX9_init_70 : decode cX9_init 70 = .ok (.aload_n 0, 1) := by decide +kernel
theorem dX9_init_71 : decode cX9_init 71 = .ok (.new 35, 3) := by decide +kernel
theorem dX9_init_74 : decode cX9_init 74 = .ok (.dup, 1) := by decide +kernel
theorem dX9_init_75 : decode cX9_init 75 = .ok (.invokespecial 37, 3) := by decide +kernel
theorem dX9_init_78 : decode cX9_init 78 = .ok (.putfield 38, 3) := by decide +kernel
theorem dX9_init_81 : decode cX9_init 81 = .ok (.aload_n 0, 1) := by decide +kernel
theorem dX9_init_82 : decode cX9_init 82 = .ok (.new 42, 3) := by decide +kernel
theorem dX9_init_85 : decode cX9_init 85 = .ok (.dup, 1) := by decide +kernel
theorem dX9_init_86 : decode cX9_init 86 = .ok (.invokespecial 44, 3) := by decide +kernel
theorem dX9_init_89 : decode cX9_init 89 = .ok (.putfield 45, 3) := by decide +kernel
theorem dX9_init_92 : decode cX9_init 92 = .ok (.aload_n 0, 1) := by decide +kernel
theorem dX9_init_93 : decode cX9_init 93 = .ok (.new 49, 3) := by decide +kernel
theorem dX9_init_96 : decode cX9_init 96 = .ok (.dup, 1) := by decide +kernel
theorem dX9_init_97 : decode cX9_init 97 = .ok (.invokespecial 51, 3) := by decide +kernel
theorem dX9_init_100 : decode cX9_init 100 = .ok (.putfield 52, 3) := by decide +kernel
theorem dX9_init_103 : decode cX9_init 103 = .ok (.aload_n 0, 1) := by decide +kernel
theorem dX9_init_104 : decode cX9_init 104 = .ok (.new 56, 3) := by decide +kernel
theorem dX9_init_107 : decode cX9_init 107 = .ok (.dup, 1) := by decide +kernel
theorem dX9_init_108 : decode cX9_init 108 = .ok (.invokespecial 58, 3) := by decide +kernel
theorem dX9_init_111 : decode cX9_init 111 = .ok (.putfield 59, 3) := by decide +kernel
theorem dX9_init_114 : decode cX9_init 114 = .ok (.aload_n 0, 1) := by decide +kernel
theorem dX9_init_115 : decode cX9_init 115 = .ok (.new 63, 3) := by decide +kernel
theorem dX9_init_118 : decode cX9_init 118 = .ok (.dup, 1) := by decide +kernel
theorem dX9_init_119 : decode cX9_init 119 = .ok (.invokespecial 65, 3) := by decide +kernel
theorem dX9_init_122 : decode cX9_init 122 = .ok (.putfield 66, 3) := by decide +kernel
theorem dX9_init_125 : decode cX9_init 125 = .ok (.aload_n 0, 1) := by decide +kernel
theorem dX9_init_126 : decode cX9_init 126 = .ok (.new 70, 3) := by decide +kernel
theorem dX9_init_129 : decode cX9_init 129 = .ok (.dup, 1) := by decide +kernel
theorem dX9_init_130 : decode cX9_init 130 = .ok (.invokespecial 72, 3) := by decide +kernel
theorem dX9_init_133 : decode cX9_init 133 = .ok (.putfield 73, 3) := by decide +kernel
theorem dX9_init_136 : decode cX9_init 136 = .ok (.return_, 1) := by decide +kernel
theorem dX9_gate_0 : decode cX9_gate 0 = .ok (.iload_n 1, 1) := by decide +kernel
theorem dX9_gate_1 : decode cX9_gate 1 = .ok (.invokestatic 77, 3) := by decide +kernel
theorem dX9_gate_4 : decode cX9_gate 4 = .ok (.ifCond .eq 12, 3) := by decide +kernel
theorem dX9_gate_7 : decode cX9_gate 7 = .ok (.iload_n 3, 1) := by decide +kernel
theorem dX9_gate_8 : decode cX9_gate 8 = .ok (.iconst 0, 1) := by decide +kernel
theorem dX9_gate_9 : decode cX9_gate 9 = .ok (.iconst 5, 1) := by decide +kernel
theorem dX9_gate_10 : decode cX9_gate 10 = .ok (.invokestatic 81, 3) := by decide +kernel
theorem dX9_gate_13 : decode cX9_gate 13 = .ok (.ifCond .ne 6, 3) := by decide +kernel
theorem dX9_gate_16 : decode cX9_gate 16 = .ok (.ldc 85, 2) := by decide +kernel
theorem dX9_gate_18 : decode cX9_gate 18 = .ok (.ireturn, 1) := by decide +kernel
theorem dX9_gate_19 : decode cX9_gate 19 = .ok (.aload_n 0, 1) := by decide +kernel
theorem dX9_gate_20 : decode cX9_gate 20 = .ok (.iload_n 1, 1) := by decide +kernel
theorem dX9_gate_21 : decode cX9_gate 21 = .ok (.invokevirtual 86, 3) := by decide +kernel
theorem dX9_gate_24 : decode cX9_gate 24 = .ok (.astore 6, 2) := by decide +kernel
theorem dX9_gate_26 : decode cX9_gate 26 = .ok (.iload_n 2, 1) := by decide +kernel
theorem dX9_gate_27 : decode cX9_gate 27 = .ok (.iconst 0, 1) := by decide +kernel
theorem dX9_gate_28 : decode cX9_gate 28 = .ok (.aload 6, 2) := by decide +kernel
theorem dX9_gate_30 : decode cX9_gate 30 = .ok (.invokevirtual 90, 3) := by decide +kernel
theorem dX9_gate_33 : decode cX9_gate 33 = .ok (.invokestatic 81, 3) := by decide +kernel
theorem dX9_gate_36 : decode cX9_gate 36 = .ok (.ifCond .eq 21, 3) := by decide +kernel
theorem dX9_gate_39 : decode cX9_gate 39 = .ok (.iload_n 2, 1) := by decide +kernel
theorem dX9_gate_40 : decode cX9_gate 40 = .ok (.iload 4, 2) := by decide +kernel
theorem dX9_gate_42 : decode cX9_gate 42 = .ok (.invokestatic 94, 3) := by decide +kernel
theorem dX9_gate_45 : decode cX9_gate 45 = .ok (.ifCond .eq 12, 3) := by decide +kernel
theorem dX9_gate_48 : decode cX9_gate 48 = .ok (.iload_n 2, 1) := by decide +kernel
theorem dX9_gate_49 : decode cX9_gate 49 = .ok (.iload 5, 2) := by decide +kernel
theorem dX9_gate_51 : decode cX9_gate 51 = .ok (.invokestatic 94, 3) := by decide +kernel
theorem dX9_gate_54 : decode cX9_gate 54 = .ok (.ifCond .ne 6, 3) := by decide +kernel
theorem dX9_gate_57 : decode cX9_gate 57 = .ok (.ldc 85, 2) := by decide +kernel
theorem dX9_gate_59 : decode cX9_gate 59 = .ok (.ireturn, 1) := by decide +kernel
theorem dX9_gate_60 : decode cX9_gate 60 = .ok (.iload_n 2, 1) := by decide +kernel
theorem dX9_gate_61 : decode cX9_gate 61 = .ok (.bipush 8, 2) := by decide +kernel
theorem dX9_gate_63 : decode cX9_gate 63 = .ok (.if_icmp .lt 6, 3) := by decide +kernel
theorem dX9_gate_66 : decode cX9_gate 66 = .ok (.ldc 98, 2) := by decide +kernel
theorem dX9_gate_68 : decode cX9_gate 68 = .ok (.ireturn, 1) := by decide +kernel
theorem dX9_gate_69 : decode cX9_gate 69 = .ok (.aload_n 0, 1) := by decide +kernel
theorem dX9_gate_70 : decode cX9_gate 70 = .ok (.getfield 59, 3) := by decide +kernel
theorem dX9_gate_73 : decode cX9_gate 73 = .ok (.aload_n 0, 1) := by decide +kernel
theorem dX9_gate_74 : decode cX9_gate 74 = .ok (.getfield 12, 3) := by decide +kernel
theorem dX9_gate_77 : decode cX9_gate 77 = .ok (.aload_n 0, 1) := by decide +kernel
theorem dX9_gate_78 : decode cX9_gate 78 = .ok (.getfield 16, 3) := by decide +kernel
theorem dX9_gate_81 : decode cX9_gate 81 = .ok (.invokevirtual 99, 3) := by decide +kernel
theorem dX9_gate_84 : decode cX9_gate 84 = .ok (.aload 6, 2) := by decide +kernel
theorem dX9_gate_86 : decode cX9_gate 86 = .ok (.iload_n 2, 1) := by decide +kernel
theorem dX9_gate_87 : decode cX9_gate 87 = .ok (.iload_n 3, 1) := by decide +kernel
theorem dX9_gate_88 : decode cX9_gate 88 = .ok (.iload 4, 2) := by decide +kernel
theorem dX9_gate_90 : decode cX9_gate 90 = .ok (.iload 5, 2) := by decide +kernel
theorem dX9_gate_92 : decode cX9_gate 92 = .ok (.invokevirtual 103, 3) := by decide +kernel
theorem dX9_gate_95 : decode cX9_gate 95 = .ok (.aload 6, 2) := by decide +kernel
theorem dX9_gate_97 : decode cX9_gate 97 = .ok (.invokevirtual 90, 3) := by decide +kernel
theorem dX9_gate_100 : decode cX9_gate 100 = .ok (.ireturn, 1) := by decide +kernel
theorem dX9_register_0 : decode cX9_register 0 = .ok (.iload_n 1, 1) := by decide +kernel
theorem dX9_register_1 : decode cX9_register 1 = .ok (.invokestatic 77, 3) := by decide +kernel
theorem dX9_register_4 : decode cX9_register 4 = .ok (.ifCond .eq 27, 3) := by decide +kernel
theorem dX9_register_7 : decode cX9_register 7 = .ok (.iload_n 2, 1) := by decide +kernel
theorem dX9_register_8 : decode cX9_register 8 = .ok (.invokestatic 111, 3) := by decide +kernel
theorem dX9_register_11 : decode cX9_register 11 = .ok (.ifCond .eq 20, 3) := by decide +kernel
theorem dX9_register_14 : decode cX9_register 14 = .ok (.iload_n 3, 1) := by decide +kernel
theorem dX9_register_15 : decode cX9_register 15 = .ok (.invokestatic 114, 3) := by decide +kernel
theorem dX9_register_18 : decode cX9_register 18 = .ok (.ifCond .eq 13, 3) := by decide +kernel
theorem dX9_register_21 : decode cX9_register 21 = .ok (.iload 4, 2) := by decide +kernel
theorem dX9_register_23 : decode cX9_register 23 = .ok (.iconst 0, 1) := by decide +kernel
theorem dX9_register_24 : decode cX9_register 24 = .ok (.iconst 1, 1) := by decide +kernel
theorem dX9_register_25 : decode cX9_register 25 = .ok (.invokestatic 81, 3) := by decide +kernel
theorem dX9_register_28 : decode cX9_register 28 = .ok (.ifCond .ne 6, 3) := by decide +kernel
theorem dX9_register_31 : decode cX9_register 31 = .ok (.ldc 85, 2) := by decide +kernel
theorem dX9_register_33 : decode cX9_register 33 = .ok (.ireturn, 1) := by decide +kernel
theorem dX9_register_34 : decode cX9_register 34 = .ok (.aload_n 0, 1) := by decide +kernel
theorem dX9_register_35 : decode cX9_register 35 = .ok (.iload_n 1, 1) := by decide +kernel
theorem dX9_register_36 : decode cX9_register 36 = .ok (.invokevirtual 86, 3) := by decide +kernel
theorem dX9_register_39 : decode cX9_register 39 = .ok (.astore 5, 2) := by decide +kernel
theorem dX9_register_41 : decode cX9_register 41 = .ok (.iconst 2, 1) := by decide +kernel
theorem dX9_register_42 : decode cX9_register 42 = .ok (.aload 5, 2) := by decide +kernel
theorem dX9_register_44 : decode cX9_register 44 = .ok (.iload_n 2, 1) := by decide +kernel
theorem dX9_register_45 : decode cX9_register 45 = .ok (.invokevirtual 117, 3) := by decide +kernel
theorem dX9_register_48 : decode cX9_register 48 = .ok (.imul, 1) := by decide +kernel
theorem dX9_register_49 : decode cX9_register 49 = .ok (.aload 5, 2) := by decide +kernel
theorem dX9_register_51 : decode cX9_register 51 = .ok (.iload_n 2, 1) := by decide +kernel
theorem dX9_register_52 : decode cX9_register 52 = .ok (.invokevirtual 121, 3) := by decide +kernel
theorem dX9_register_55 : decode cX9_register 55 = .ok (.iadd, 1) := by decide +kernel
theorem dX9_register_56 : decode cX9_register 56 = .ok (.istore 6, 2) := by decide +kernel
theorem dX9_register_58 : decode cX9_register 58 = .ok (.aload_n 0, 1) := by decide +kernel
theorem dX9_register_59 : decode cX9_register 59 = .ok (.getfield 59, 3) := by decide +kernel
theorem dX9_register_62 : decode cX9_register 62 = .ok (.aload_n 0, 1) := by decide +kernel
theorem dX9_register_63 : decode cX9_register 63 = .ok (.getfield 12, 3) := by decide +kernel
theorem dX9_register_66 : decode cX9_register 66 = .ok (.aload_n 0, 1) := by decide +kernel
theorem dX9_register_67 : decode cX9_register 67 = .ok (.getfield 16, 3) := by decide +kernel
theorem dX9_register_70 : decode cX9_register 70 = .ok (.invokevirtual 99, 3) := by decide +kernel
theorem dX9_register_73 : decode cX9_register 73 = .ok (.aload 5, 2) := by decide +kernel
theorem dX9_register_75 : decode cX9_register 75 = .ok (.iload_n 2, 1) := by decide +kernel
theorem dX9_register_76 : decode cX9_register 76 = .ok (.iload_n 3, 1) := by decide +kernel
theorem dX9_register_77 : decode cX9_register 77 = .ok (.iload 4, 2) := by decide +kernel
theorem dX9_register_79 : decode cX9_register 79 = .ok (.invokevirtual 124, 3) := by decide +kernel
theorem dX9_register_82 : decode cX9_register 82 = .ok (.iload 6, 2) := by decide +kernel
theorem dX9_register_84 : decode cX9_register 84 = .ok (.ireturn, 1) := by decide +kernel
theorem dX9_output_0 : decode cX9_output 0 = .ok (.iload_n 1, 1) := by decide +kernel
theorem dX9_output_1 : decode cX9_output 1 = .ok (.invokestatic 77, 3) := by decide +kernel
theorem dX9_output_4 : decode cX9_output 4 = .ok (.ifCond .eq 10, 3) := by decide +kernel
theorem dX9_output_7 : decode cX9_output 7 = .ok (.iload_n 2, 1) := by decide +kernel
theorem dX9_output_8 : decode cX9_output 8 = .ok (.invokestatic 114, 3) := by decide +kernel
theorem dX9_output_11 : decode cX9_output 11 = .ok (.ifCond .ne 6, 3) := by decide +kernel
theorem dX9_output_14 : decode cX9_output 14 = .ok (.ldc 85, 2) := by decide +kernel
theorem dX9_output_16 : decode cX9_output 16 = .ok (.ireturn, 1) := by decide +kernel
theorem dX9_output_17 : decode cX9_output 17 = .ok (.aload_n 0, 1) := by decide +kernel
theorem dX9_output_18 : decode cX9_output 18 = .ok (.iload_n 1, 1) := by decide +kernel
theorem dX9_output_19 : decode cX9_output 19 = .ok (.invokevirtual 86, 3) := by decide +kernel
theorem dX9_output_22 : decode cX9_output 22 = .ok (.astore_n 3, 1) := by decide +kernel
theorem dX9_output_23 : decode cX9_output 23 = .ok (.aload_n 3, 1) := by decide +kernel
theorem dX9_output_24 : decode cX9_output 24 = .ok (.invokevirtual 128, 3) := by decide +kernel
theorem dX9_output_27 : decode cX9_output 27 = .ok (.istore 4, 2) := by decide +kernel
theorem dX9_output_29 : decode cX9_output 29 = .ok (.aload_n 0, 1) := by decide +kernel
theorem dX9_output_30 : decode cX9_output 30 = .ok (.getfield 59, 3) := by decide +kernel
theorem dX9_output_33 : decode cX9_output 33 = .ok (.aload_n 0, 1) := by decide +kernel
theorem dX9_output_34 : decode cX9_output 34 = .ok (.getfield 12, 3) := by decide +kernel
theorem dX9_output_37 : decode cX9_output 37 = .ok (.aload_n 0, 1) := by decide +kernel
theorem dX9_output_38 : decode cX9_output 38 = .ok (.getfield 16, 3) := by decide +kernel
theorem dX9_output_41 : decode cX9_output 41 = .ok (.invokevirtual 99, 3) := by decide +kernel
theorem dX9_output_44 : decode cX9_output 44 = .ok (.aload_n 3, 1) := by decide +kernel
theorem dX9_output_45 : decode cX9_output 45 = .ok (.iload_n 2, 1) := by decide +kernel
theorem dX9_output_46 : decode cX9_output 46 = .ok (.invokevirtual 131, 3) := by decide +kernel
theorem dX9_output_49 : decode cX9_output 49 = .ok (.iload 4, 2) := by decide +kernel
theorem dX9_output_51 : decode cX9_output 51 = .ok (.ireturn, 1) := by decide +kernel
theorem dX9_copy_0 : decode cX9_copy 0 = .ok (.iload_n 1, 1) := by decide +kernel
theorem dX9_copy_1 : decode cX9_copy 1 = .ok (.invokestatic 77, 3) := by decide +kernel
theorem dX9_copy_4 : decode cX9_copy 4 = .ok (.ifCond .ne 6, 3) := by decide +kernel
theorem dX9_copy_7 : decode cX9_copy 7 = .ok (.ldc 85, 2) := by decide +kernel
theorem dX9_copy_9 : decode cX9_copy 9 = .ok (.ireturn, 1) := by decide +kernel
theorem dX9_copy_10 : decode cX9_copy 10 = .ok (.aload_n 0, 1) := by decide +kernel
theorem dX9_copy_11 : decode cX9_copy 11 = .ok (.iload_n 1, 1) := by decide +kernel
theorem dX9_copy_12 : decode cX9_copy 12 = .ok (.invokevirtual 86, 3) := by decide +kernel
theorem dX9_copy_15 : decode cX9_copy 15 = .ok (.astore_n 2, 1) := by decide +kernel
theorem dX9_copy_16 : decode cX9_copy 16 = .ok (.aload_n 0, 1) := by decide +kernel
theorem dX9_copy_17 : decode cX9_copy 17 = .ok (.getfield 59, 3) := by decide +kernel
theorem dX9_copy_20 : decode cX9_copy 20 = .ok (.aload_n 0, 1) := by decide +kernel
theorem dX9_copy_21 : decode cX9_copy 21 = .ok (.getfield 12, 3) := by decide +kernel
theorem dX9_copy_24 : decode cX9_copy 24 = .ok (.aload_n 0, 1) := by decide +kernel
theorem dX9_copy_25 : decode cX9_copy 25 = .ok (.getfield 16, 3) := by decide +kernel
theorem dX9_copy_28 : decode cX9_copy 28 = .ok (.invokevirtual 99, 3) := by decide +kernel
theorem dX9_copy_31 : decode cX9_copy 31 = .ok (.aload_n 0, 1) := by decide +kernel
theorem dX9_copy_32 : decode cX9_copy 32 = .ok (.iconst 1, 1) := by decide +kernel
theorem dX9_copy_33 : decode cX9_copy 33 = .ok (.iload_n 1, 1) := by decide +kernel
theorem dX9_copy_34 : decode cX9_copy 34 = .ok (.isub, 1) := by decide +kernel
theorem dX9_copy_35 : decode cX9_copy 35 = .ok (.invokevirtual 86, 3) := by decide +kernel
theorem dX9_copy_38 : decode cX9_copy 38 = .ok (.aload_n 2, 1) := by decide +kernel
theorem dX9_copy_39 : decode cX9_copy 39 = .ok (.invokevirtual 135, 3) := by decide +kernel
theorem dX9_copy_42 : decode cX9_copy 42 = .ok (.aload_n 2, 1) := by decide +kernel
theorem dX9_copy_43 : decode cX9_copy 43 = .ok (.invokevirtual 90, 3) := by decide +kernel
theorem dX9_copy_46 : decode cX9_copy 46 = .ok (.ireturn, 1) := by decide +kernel
theorem dX9_circuitOf_0 : decode cX9_circuitOf 0 = .ok (.iload_n 1, 1) := by decide +kernel
theorem dX9_circuitOf_1 : decode cX9_circuitOf 1 = .ok (.invokestatic 77, 3) := by decide +kernel
theorem dX9_circuitOf_4 : decode cX9_circuitOf 4 = .ok (.ifCond .ne 6, 3) := by decide +kernel
theorem dX9_circuitOf_7 : decode cX9_circuitOf 7 = .ok (.ldc 85, 2) := by decide +kernel
theorem dX9_circuitOf_9 : decode cX9_circuitOf 9 = .ok (.ireturn, 1) := by decide +kernel
theorem dX9_circuitOf_10 : decode cX9_circuitOf 10 = .ok (.aload_n 0, 1) := by decide +kernel
theorem dX9_circuitOf_11 : decode cX9_circuitOf 11 = .ok (.iload_n 1, 1) := by decide +kernel
theorem dX9_circuitOf_12 : decode cX9_circuitOf 12 = .ok (.invokevirtual 86, 3) := by decide +kernel
theorem dX9_circuitOf_15 : decode cX9_circuitOf 15 = .ok (.astore_n 3, 1) := by decide +kernel
theorem dX9_circuitOf_16 : decode cX9_circuitOf 16 = .ok (.iload_n 2, 1) := by decide +kernel
theorem dX9_circuitOf_17 : decode cX9_circuitOf 17 = .ok (.iconst 3, 1) := by decide +kernel
theorem dX9_circuitOf_18 : decode cX9_circuitOf 18 = .ok (.iconst 5, 1) := by decide +kernel
theorem dX9_circuitOf_19 : decode cX9_circuitOf 19 = .ok (.invokestatic 81, 3) := by decide +kernel
theorem dX9_circuitOf_22 : decode cX9_circuitOf 22 = .ok (.ifCond .eq 10, 3) := by decide +kernel
theorem dX9_circuitOf_25 : decode cX9_circuitOf 25 = .ok (.aload_n 0, 1) := by decide +kernel
theorem dX9_circuitOf_26 : decode cX9_circuitOf 26 = .ok (.aload_n 3, 1) := by decide +kernel
theorem dX9_circuitOf_27 : decode cX9_circuitOf 27 = .ok (.iload_n 2, 1) := by decide +kernel
theorem dX9_circuitOf_28 : decode cX9_circuitOf 28 = .ok (.invokevirtual 139, 3) := by decide +kernel
theorem dX9_circuitOf_31 : decode cX9_circuitOf 31 = .ok (.ireturn, 1) := by decide +kernel
theorem dX9_circuitOf_32 : decode cX9_circuitOf 32 = .ok (.iload_n 2, 1) := by decide +kernel
theorem dX9_circuitOf_33 : decode cX9_circuitOf 33 = .ok (.iconst 0, 1) := by decide +kernel
theorem dX9_circuitOf_34 : decode cX9_circuitOf 34 = .ok (.bipush 6, 2) := by decide +kernel
theorem dX9_circuitOf_36 : decode cX9_circuitOf 36 = .ok (.invokestatic 81, 3) := by decide +kernel
theorem dX9_circuitOf_39 : decode cX9_circuitOf 39 = .ok (.ifCond .eq 9, 3) := by decide +kernel
theorem dX9_circuitOf_42 : decode cX9_circuitOf 42 = .ok (.aload_n 3, 1) := by decide +kernel
theorem dX9_circuitOf_43 : decode cX9_circuitOf 43 = .ok (.iload_n 2, 1) := by decide +kernel
theorem dX9_circuitOf_44 : decode cX9_circuitOf 44 = .ok (.invokestatic 143, 3) := by decide +kernel
theorem dX9_circuitOf_47 : decode cX9_circuitOf 47 = .ok (.ireturn, 1) := by decide +kernel
theorem dX9_circuitOf_48 : decode cX9_circuitOf 48 = .ok (.iload_n 2, 1) := by decide +kernel
theorem dX9_circuitOf_49 : decode cX9_circuitOf 49 = .ok (.bipush 10, 2) := by decide +kernel
theorem dX9_circuitOf_51 : decode cX9_circuitOf 51 = .ok (.bipush 17, 2) := by decide +kernel
theorem dX9_circuitOf_53 : decode cX9_circuitOf 53 = .ok (.invokestatic 81, 3) := by decide +kernel
theorem dX9_circuitOf_56 : decode cX9_circuitOf 56 = .ok (.ifCond .ne 25, 3) := by decide +kernel
theorem dX9_circuitOf_59 : decode cX9_circuitOf 59 = .ok (.iload_n 2, 1) := by decide +kernel
theorem dX9_circuitOf_60 : decode cX9_circuitOf 60 = .ok (.bipush 20, 2) := by decide +kernel
theorem dX9_circuitOf_62 : decode cX9_circuitOf 62 = .ok (.bipush 27, 2) := by decide +kernel
theorem dX9_circuitOf_64 : decode cX9_circuitOf 64 = .ok (.invokestatic 81, 3) := by decide +kernel
theorem dX9_circuitOf_67 : decode cX9_circuitOf 67 = .ok (.ifCond .ne 14, 3) := by decide +kernel
theorem dX9_circuitOf_70 : decode cX9_circuitOf 70 = .ok (.iload_n 2, 1) := by decide +kernel
theorem dX9_circuitOf_71 : decode cX9_circuitOf 71 = .ok (.bipush 30, 2) := by decide +kernel
theorem dX9_circuitOf_73 : decode cX9_circuitOf 73 = .ok (.bipush 37, 2) := by decide +kernel
theorem dX9_circuitOf_75 : decode cX9_circuitOf 75 = .ok (.invokestatic 81, 3) := by decide +kernel
theorem dX9_circuitOf_78 : decode cX9_circuitOf 78 = .ok (.ifCond .eq 16, 3) := by decide +kernel
theorem dX9_circuitOf_81 : decode cX9_circuitOf 81 = .ok (.aload_n 3, 1) := by decide +kernel
theorem dX9_circuitOf_82 : decode cX9_circuitOf 82 = .ok (.iload_n 2, 1) := by decide +kernel
theorem dX9_circuitOf_83 : decode cX9_circuitOf 83 = .ok (.bipush 10, 2) := by decide +kernel
theorem dX9_circuitOf_85 : decode cX9_circuitOf 85 = .ok (.irem, 1) := by decide +kernel
theorem dX9_circuitOf_86 : decode cX9_circuitOf 86 = .ok (.iload_n 2, 1) := by decide +kernel
theorem dX9_circuitOf_87 : decode cX9_circuitOf 87 = .ok (.bipush 10, 2) := by decide +kernel
theorem dX9_circuitOf_89 : decode cX9_circuitOf 89 = .ok (.idiv, 1) := by decide +kernel
theorem dX9_circuitOf_90 : decode cX9_circuitOf 90 = .ok (.invokestatic 146, 3) := by decide +kernel
theorem dX9_circuitOf_93 : decode cX9_circuitOf 93 = .ok (.ireturn, 1) := by decide +kernel
theorem dX9_circuitOf_94 : decode cX9_circuitOf 94 = .ok (.ldc 85, 2) := by decide +kernel
theorem dX9_circuitOf_96 : decode cX9_circuitOf 96 = .ok (.ireturn, 1) := by decide +kernel
theorem dX9_bit_0 : decode cX9_bit 0 = .ok (.iload_n 1, 1) := by decide +kernel
theorem dX9_bit_1 : decode cX9_bit 1 = .ok (.invokestatic 77, 3) := by decide +kernel
theorem dX9_bit_4 : decode cX9_bit 4 = .ok (.ifCond .eq 25, 3) := by decide +kernel
theorem dX9_bit_7 : decode cX9_bit 7 = .ok (.iload_n 2, 1) := by decide +kernel
theorem dX9_bit_8 : decode cX9_bit 8 = .ok (.invokestatic 150, 3) := by decide +kernel
theorem dX9_bit_11 : decode cX9_bit 11 = .ok (.ifCond .eq 18, 3) := by decide +kernel
theorem dX9_bit_14 : decode cX9_bit 14 = .ok (.iload_n 3, 1) := by decide +kernel
theorem dX9_bit_15 : decode cX9_bit 15 = .ok (.invokestatic 153, 3) := by decide +kernel
theorem dX9_bit_18 : decode cX9_bit 18 = .ok (.ifCond .eq 11, 3) := by decide +kernel
theorem dX9_bit_21 : decode cX9_bit 21 = .ok (.iload 4, 2) := by decide +kernel
theorem dX9_bit_23 : decode cX9_bit 23 = .ok (.invokestatic 114, 3) := by decide +kernel
theorem dX9_bit_26 : decode cX9_bit 26 = .ok (.ifCond .ne 6, 3) := by decide +kernel
theorem dX9_bit_29 : decode cX9_bit 29 = .ok (.ldc 85, 2) := by decide +kernel
theorem dX9_bit_31 : decode cX9_bit 31 = .ok (.ireturn, 1) := by decide +kernel
theorem dX9_bit_32 : decode cX9_bit 32 = .ok (.aload_n 0, 1) := by decide +kernel
theorem dX9_bit_33 : decode cX9_bit 33 = .ok (.iload_n 1, 1) := by decide +kernel
theorem dX9_bit_34 : decode cX9_bit 34 = .ok (.invokevirtual 86, 3) := by decide +kernel
theorem dX9_bit_37 : decode cX9_bit 37 = .ok (.iload_n 2, 1) := by decide +kernel
theorem dX9_bit_38 : decode cX9_bit 38 = .ok (.iload_n 3, 1) := by decide +kernel
theorem dX9_bit_39 : decode cX9_bit 39 = .ok (.invokevirtual 156, 3) := by decide +kernel
theorem dX9_bit_42 : decode cX9_bit 42 = .ok (.iload 4, 2) := by decide +kernel
theorem dX9_bit_44 : decode cX9_bit 44 = .ok (.invokestatic 160, 3) := by decide +kernel
theorem dX9_bit_47 : decode cX9_bit 47 = .ok (.ireturn, 1) := by decide +kernel
theorem dX9_behind_0 : decode cX9_behind 0 = .ok (.iload_n 1, 1) := by decide +kernel
theorem dX9_behind_1 : decode cX9_behind 1 = .ok (.invokestatic 77, 3) := by decide +kernel
theorem dX9_behind_4 : decode cX9_behind 4 = .ok (.ifCond .eq 17, 3) := by decide +kernel
theorem dX9_behind_7 : decode cX9_behind 7 = .ok (.iload_n 2, 1) := by decide +kernel
theorem dX9_behind_8 : decode cX9_behind 8 = .ok (.invokestatic 150, 3) := by decide +kernel
theorem dX9_behind_11 : decode cX9_behind 11 = .ok (.ifCond .eq 10, 3) := by decide +kernel
theorem dX9_behind_14 : decode cX9_behind 14 = .ok (.iload_n 3, 1) := by decide +kernel
theorem dX9_behind_15 : decode cX9_behind 15 = .ok (.invokestatic 153, 3) := by decide +kernel
theorem dX9_behind_18 : decode cX9_behind 18 = .ok (.ifCond .ne 6, 3) := by decide +kernel
theorem dX9_behind_21 : decode cX9_behind 21 = .ok (.ldc 85, 2) := by decide +kernel
theorem dX9_behind_23 : decode cX9_behind 23 = .ok (.ireturn, 1) := by decide +kernel
theorem dX9_behind_24 : decode cX9_behind 24 = .ok (.aload_n 0, 1) := by decide +kernel
theorem dX9_behind_25 : decode cX9_behind 25 = .ok (.iload_n 1, 1) := by decide +kernel
theorem dX9_behind_26 : decode cX9_behind 26 = .ok (.invokevirtual 86, 3) := by decide +kernel
theorem dX9_behind_29 : decode cX9_behind 29 = .ok (.astore 4, 2) := by decide +kernel
theorem dX9_behind_31 : decode cX9_behind 31 = .ok (.aload 4, 2) := by decide +kernel
theorem dX9_behind_33 : decode cX9_behind 33 = .ok (.aload 4, 2) := by decide +kernel
theorem dX9_behind_35 : decode cX9_behind 35 = .ok (.iload_n 2, 1) := by decide +kernel
theorem dX9_behind_36 : decode cX9_behind 36 = .ok (.iload_n 3, 1) := by decide +kernel
theorem dX9_behind_37 : decode cX9_behind 37 = .ok (.invokevirtual 156, 3) := by decide +kernel
theorem dX9_behind_40 : decode cX9_behind 40 = .ok (.invokevirtual 163, 3) := by decide +kernel
theorem dX9_behind_43 : decode cX9_behind 43 = .ok (.ireturn, 1) := by decide +kernel
theorem dX9_run_0 : decode cX9_run 0 = .ok (.iload_n 1, 1) := by decide +kernel
theorem dX9_run_1 : decode cX9_run 1 = .ok (.invokestatic 77, 3) := by decide +kernel
theorem dX9_run_4 : decode cX9_run 4 = .ok (.ifCond .eq 23, 3) := by decide +kernel
theorem dX9_run_7 : decode cX9_run 7 = .ok (.iload_n 3, 1) := by decide +kernel
theorem dX9_run_8 : decode cX9_run 8 = .ok (.iconst 0, 1) := by decide +kernel
theorem dX9_run_9 : decode cX9_run 9 = .ok (.bipush 16, 2) := by decide +kernel
theorem dX9_run_11 : decode cX9_run 11 = .ok (.invokestatic 81, 3) := by decide +kernel
theorem dX9_run_14 : decode cX9_run 14 = .ok (.ifCond .eq 13, 3) := by decide +kernel
theorem dX9_run_17 : decode cX9_run 17 = .ok (.iload 4, 2) := by decide +kernel
theorem dX9_run_19 : decode cX9_run 19 = .ok (.iconst 0, 1) := by decide +kernel
theorem dX9_run_20 : decode cX9_run 20 = .ok (.iconst 1, 1) := by decide +kernel
theorem dX9_run_21 : decode cX9_run 21 = .ok (.invokestatic 81, 3) := by decide +kernel
theorem dX9_run_24 : decode cX9_run 24 = .ok (.ifCond .ne 6, 3) := by decide +kernel
theorem dX9_run_27 : decode cX9_run 27 = .ok (.ldc 85, 2) := by decide +kernel
theorem dX9_run_29 : decode cX9_run 29 = .ok (.ireturn, 1) := by decide +kernel
theorem dX9_run_30 : decode cX9_run 30 = .ok (.aload_n 0, 1) := by decide +kernel
theorem dX9_run_31 : decode cX9_run 31 = .ok (.iload_n 1, 1) := by decide +kernel
theorem dX9_run_32 : decode cX9_run 32 = .ok (.invokevirtual 86, 3) := by decide +kernel
theorem dX9_run_35 : decode cX9_run 35 = .ok (.astore 5, 2) := by decide +kernel
theorem dX9_run_37 : decode cX9_run 37 = .ok (.aload 5, 2) := by decide +kernel
theorem dX9_run_39 : decode cX9_run 39 = .ok (.invokevirtual 166, 3) := by decide +kernel
theorem dX9_run_42 : decode cX9_run 42 = .ok (.istore 6, 2) := by decide +kernel
theorem dX9_run_44 : decode cX9_run 44 = .ok (.iconst 0, 1) := by decide +kernel
theorem dX9_run_45 : decode cX9_run 45 = .ok (.istore 7, 2) := by decide +kernel
theorem dX9_run_47 : decode cX9_run 47 = .ok (.iconst 0, 1) := by decide +kernel
theorem dX9_run_48 : decode cX9_run 48 = .ok (.istore 8, 2) := by decide +kernel
theorem dX9_run_50 : decode cX9_run 50 = .ok (.iload 8, 2) := by decide +kernel
theorem dX9_run_52 : decode cX9_run 52 = .ok (.iload_n 3, 1) := by decide +kernel
theorem dX9_run_53 : decode cX9_run 53 = .ok (.if_icmp .ge 53, 3) := by decide +kernel
theorem dX9_run_56 : decode cX9_run 56 = .ok (.aload 5, 2) := by decide +kernel
theorem dX9_run_58 : decode cX9_run 58 = .ok (.iload 6, 2) := by decide +kernel
theorem dX9_run_60 : decode cX9_run 60 = .ok (.iload_n 2, 1) := by decide +kernel
theorem dX9_run_61 : decode cX9_run 61 = .ok (.iconst 2, 1) := by decide +kernel
theorem dX9_run_62 : decode cX9_run 62 = .ok (.iload 8, 2) := by decide +kernel
theorem dX9_run_64 : decode cX9_run 64 = .ok (.imul, 1) := by decide +kernel
theorem dX9_run_65 : decode cX9_run 65 = .ok (.iushr, 1) := by decide +kernel
theorem dX9_run_66 : decode cX9_run 66 = .ok (.iconst 3, 1) := by decide +kernel
theorem dX9_run_67 : decode cX9_run 67 = .ok (.iand, 1) := by decide +kernel
theorem dX9_run_68 : decode cX9_run 68 = .ok (.invokevirtual 156, 3) := by decide +kernel
theorem dX9_run_71 : decode cX9_run 71 = .ok (.istore 9, 2) := by decide +kernel
theorem dX9_run_73 : decode cX9_run 73 = .ok (.iload 7, 2) := by decide +kernel
theorem dX9_run_75 : decode cX9_run 75 = .ok (.iload 9, 2) := by decide +kernel
theorem dX9_run_77 : decode cX9_run 77 = .ok (.aload 5, 2) := by decide +kernel
theorem dX9_run_79 : decode cX9_run 79 = .ok (.invokevirtual 128, 3) := by decide +kernel
theorem dX9_run_82 : decode cX9_run 82 = .ok (.invokestatic 160, 3) := by decide +kernel
theorem dX9_run_85 : decode cX9_run 85 = .ok (.iload 8, 2) := by decide +kernel
theorem dX9_run_87 : decode cX9_run 87 = .ok (.ishl, 1) := by decide +kernel
theorem dX9_run_88 : decode cX9_run 88 = .ok (.ior, 1) := by decide +kernel
theorem dX9_run_89 : decode cX9_run 89 = .ok (.istore 7, 2) := by decide +kernel
theorem dX9_run_91 : decode cX9_run 91 = .ok (.aload 5, 2) := by decide +kernel
theorem dX9_run_93 : decode cX9_run 93 = .ok (.iload 9, 2) := by decide +kernel
theorem dX9_run_95 : decode cX9_run 95 = .ok (.invokevirtual 163, 3) := by decide +kernel
theorem dX9_run_98 : decode cX9_run 98 = .ok (.istore 6, 2) := by decide +kernel
theorem dX9_run_100 : decode cX9_run 100 = .ok (.iinc 8 1, 3) := by decide +kernel
theorem dX9_run_103 : decode cX9_run 103 = .ok (.goto (-53), 3) := by decide +kernel
theorem dX9_run_106 : decode cX9_run 106 = .ok (.iload 4, 2) := by decide +kernel
theorem dX9_run_108 : decode cX9_run 108 = .ok (.ifCond .ne 8, 3) := by decide +kernel
theorem dX9_run_111 : decode cX9_run 111 = .ok (.iload 6, 2) := by decide +kernel
theorem dX9_run_113 : decode cX9_run 113 = .ok (.goto 5, 3) := by decide +kernel
theorem dX9_run_116 : decode cX9_run 116 = .ok (.iload 7, 2) := by decide +kernel
theorem dX9_run_118 : decode cX9_run 118 = .ok (.ireturn, 1) := by decide +kernel
theorem dX9_pairs_0 : decode cX9_pairs 0 = .ok (.aload_n 0, 1) := by decide +kernel
theorem dX9_pairs_1 : decode cX9_pairs 1 = .ok (.aload_n 0, 1) := by decide +kernel
theorem dX9_pairs_2 : decode cX9_pairs 2 = .ok (.getfield 12, 3) := by decide +kernel
theorem dX9_pairs_5 : decode cX9_pairs 5 = .ok (.invokevirtual 172, 3) := by decide +kernel
theorem dX9_pairs_8 : decode cX9_pairs 8 = .ok (.aload_n 0, 1) := by decide +kernel
theorem dX9_pairs_9 : decode cX9_pairs 9 = .ok (.getfield 38, 3) := by decide +kernel
theorem dX9_pairs_12 : decode cX9_pairs 12 = .ok (.invokevirtual 175, 3) := by decide +kernel
theorem dX9_pairs_15 : decode cX9_pairs 15 = .ok (.ireturn, 1) := by decide +kernel
theorem dX9_apart_0 : decode cX9_apart 0 = .ok (.iload_n 1, 1) := by decide +kernel
theorem dX9_apart_1 : decode cX9_apart 1 = .ok (.iconst (-1), 1) := by decide +kernel
theorem dX9_apart_2 : decode cX9_apart 2 = .ok (.if_icmp .ge 6, 3) := by decide +kernel
theorem dX9_apart_5 : decode cX9_apart 5 = .ok (.ldc 85, 2) := by decide +kernel
theorem dX9_apart_7 : decode cX9_apart 7 = .ok (.ireturn, 1) := by decide +kernel
theorem dX9_apart_8 : decode cX9_apart 8 = .ok (.aload_n 0, 1) := by decide +kernel
theorem dX9_apart_9 : decode cX9_apart 9 = .ok (.aload_n 0, 1) := by decide +kernel
theorem dX9_apart_10 : decode cX9_apart 10 = .ok (.getfield 12, 3) := by decide +kernel
theorem dX9_apart_13 : decode cX9_apart 13 = .ok (.invokevirtual 172, 3) := by decide +kernel
theorem dX9_apart_16 : decode cX9_apart 16 = .ok (.aload_n 0, 1) := by decide +kernel
theorem dX9_apart_17 : decode cX9_apart 17 = .ok (.invokevirtual 194, 3) := by decide +kernel
theorem dX9_apart_20 : decode cX9_apart 20 = .ok (.istore_n 2, 1) := by decide +kernel
theorem dX9_apart_21 : decode cX9_apart 21 = .ok (.iload_n 2, 1) := by decide +kernel
theorem dX9_apart_22 : decode cX9_apart 22 = .ok (.aload_n 0, 1) := by decide +kernel
theorem dX9_apart_23 : decode cX9_apart 23 = .ok (.getfield 38, 3) := by decide +kernel
theorem dX9_apart_26 : decode cX9_apart 26 = .ok (.invokevirtual 175, 3) := by decide +kernel
theorem dX9_apart_29 : decode cX9_apart 29 = .ok (.if_icmp .lt 6, 3) := by decide +kernel
theorem dX9_apart_32 : decode cX9_apart 32 = .ok (.ldc 178, 2) := by decide +kernel
theorem dX9_apart_34 : decode cX9_apart 34 = .ok (.ireturn, 1) := by decide +kernel
theorem dX9_apart_35 : decode cX9_apart 35 = .ok (.aload_n 0, 1) := by decide +kernel
theorem dX9_apart_36 : decode cX9_apart 36 = .ok (.getfield 38, 3) := by decide +kernel
theorem dX9_apart_39 : decode cX9_apart 39 = .ok (.iload_n 2, 1) := by decide +kernel
theorem dX9_apart_40 : decode cX9_apart 40 = .ok (.invokevirtual 185, 3) := by decide +kernel
theorem dX9_apart_43 : decode cX9_apart 43 = .ok (.istore_n 3, 1) := by decide +kernel
theorem dX9_apart_44 : decode cX9_apart 44 = .ok (.iload_n 1, 1) := by decide +kernel
theorem dX9_apart_45 : decode cX9_apart 45 = .ok (.iconst (-1), 1) := by decide +kernel
theorem dX9_apart_46 : decode cX9_apart 46 = .ok (.if_icmp .ne 7, 3) := by decide +kernel
theorem dX9_apart_49 : decode cX9_apart 49 = .ok (.iload_n 3, 1) := by decide +kernel
theorem dX9_apart_50 : decode cX9_apart 50 = .ok (.iconst 1, 1) := by decide +kernel
theorem dX9_apart_51 : decode cX9_apart 51 = .ok (.iadd, 1) := by decide +kernel
theorem dX9_apart_52 : decode cX9_apart 52 = .ok (.ireturn, 1) := by decide +kernel
theorem dX9_apart_53 : decode cX9_apart 53 = .ok (.iload_n 1, 1) := by decide +kernel
theorem dX9_apart_54 : decode cX9_apart 54 = .ok (.iload_n 3, 1) := by decide +kernel
theorem dX9_apart_55 : decode cX9_apart 55 = .ok (.if_icmp .le 6, 3) := by decide +kernel
theorem dX9_apart_58 : decode cX9_apart 58 = .ok (.ldc 178, 2) := by decide +kernel
theorem dX9_apart_60 : decode cX9_apart 60 = .ok (.ireturn, 1) := by decide +kernel
theorem dX9_apart_61 : decode cX9_apart 61 = .ok (.iload_n 1, 1) := by decide +kernel
theorem dX9_apart_62 : decode cX9_apart 62 = .ok (.iload_n 3, 1) := by decide +kernel
theorem dX9_apart_63 : decode cX9_apart 63 = .ok (.if_icmp .ne 14, 3) := by decide +kernel
theorem dX9_apart_66 : decode cX9_apart 66 = .ok (.aload_n 0, 1) := by decide +kernel
theorem dX9_apart_67 : decode cX9_apart 67 = .ok (.iload_n 2, 1) := by decide +kernel
theorem dX9_apart_68 : decode cX9_apart 68 = .ok (.invokevirtual 188, 3) := by decide +kernel
theorem dX9_apart_71 : decode cX9_apart 71 = .ok (.invokestatic 197, 3) := by decide +kernel
theorem dX9_apart_74 : decode cX9_apart 74 = .ok (.goto 12, 3) := by decide +kernel
theorem dX9_apart_77 : decode cX9_apart 77 = .ok (.aload_n 0, 1) := by decide +kernel
theorem dX9_apart_78 : decode cX9_apart 78 = .ok (.getfield 38, 3) := by decide +kernel
theorem dX9_apart_81 : decode cX9_apart 81 = .ok (.iload_n 2, 1) := by decide +kernel
theorem dX9_apart_82 : decode cX9_apart 82 = .ok (.iload_n 1, 1) := by decide +kernel
theorem dX9_apart_83 : decode cX9_apart 83 = .ok (.invokevirtual 191, 3) := by decide +kernel
theorem dX9_apart_86 : decode cX9_apart 86 = .ok (.ireturn, 1) := by decide +kernel
theorem dX9_late_0 : decode cX9_late 0 = .ok (.aload_n 0, 1) := by decide +kernel
theorem dX9_late_1 : decode cX9_late 1 = .ok (.getfield 25, 3) := by decide +kernel
theorem dX9_late_4 : decode cX9_late 4 = .ok (.aload_n 0, 1) := by decide +kernel
theorem dX9_late_5 : decode cX9_late 5 = .ok (.getfield 12, 3) := by decide +kernel
theorem dX9_late_8 : decode cX9_late 8 = .ok (.invokevirtual 200, 3) := by decide +kernel
theorem dX9_late_11 : decode cX9_late 11 = .ok (.aload_n 0, 1) := by decide +kernel
theorem dX9_late_12 : decode cX9_late 12 = .ok (.getfield 29, 3) := by decide +kernel
theorem dX9_late_15 : decode cX9_late 15 = .ok (.aload_n 0, 1) := by decide +kernel
theorem dX9_late_16 : decode cX9_late 16 = .ok (.getfield 16, 3) := by decide +kernel
theorem dX9_late_19 : decode cX9_late 19 = .ok (.invokevirtual 200, 3) := by decide +kernel
theorem dX9_late_22 : decode cX9_late 22 = .ok (.iconst 0, 1) := by decide +kernel
theorem dX9_late_23 : decode cX9_late 23 = .ok (.istore_n 1, 1) := by decide +kernel
theorem dX9_late_24 : decode cX9_late 24 = .ok (.iload_n 1, 1) := by decide +kernel
theorem dX9_late_25 : decode cX9_late 25 = .ok (.iconst 4, 1) := by decide +kernel
theorem dX9_late_26 : decode cX9_late 26 = .ok (.if_icmp .gt 30, 3) := by decide +kernel
theorem dX9_late_29 : decode cX9_late 29 = .ok (.aload_n 0, 1) := by decide +kernel
theorem dX9_late_30 : decode cX9_late 30 = .ok (.getfield 45, 3) := by decide +kernel
theorem dX9_late_33 : decode cX9_late 33 = .ok (.iload_n 1, 1) := by decide +kernel
theorem dX9_late_34 : decode cX9_late 34 = .ok (.aload_n 0, 1) := by decide +kernel
theorem dX9_late_35 : decode cX9_late 35 = .ok (.getfield 25, 3) := by decide +kernel
theorem dX9_late_38 : decode cX9_late 38 = .ok (.aload_n 0, 1) := by decide +kernel
theorem dX9_late_39 : decode cX9_late 39 = .ok (.getfield 29, 3) := by decide +kernel
theorem dX9_late_42 : decode cX9_late 42 = .ok (.invokevirtual 203, 3) := by decide +kernel
theorem dX9_late_45 : decode cX9_late 45 = .ok (.ifCond .eq 5, 3) := by decide +kernel
theorem dX9_late_48 : decode cX9_late 48 = .ok (.iload_n 1, 1) := by decide +kernel
theorem dX9_late_49 : decode cX9_late 49 = .ok (.ireturn, 1) := by decide +kernel
theorem dX9_late_50 : decode cX9_late 50 = .ok (.iinc 1 1, 3) := by decide +kernel
theorem dX9_late_53 : decode cX9_late 53 = .ok (.goto (-29), 3) := by decide +kernel
theorem dX9_late_56 : decode cX9_late 56 = .ok (.ldc 178, 2) := by decide +kernel
theorem dX9_late_58 : decode cX9_late 58 = .ok (.ireturn, 1) := by decide +kernel
theorem dX9_same_0 : decode cX9_same 0 = .ok (.iload_n 1, 1) := by decide +kernel
theorem dX9_same_1 : decode cX9_same 1 = .ok (.invokestatic 111, 3) := by decide +kernel
theorem dX9_same_4 : decode cX9_same 4 = .ok (.ifCond .ne 6, 3) := by decide +kernel
theorem dX9_same_7 : decode cX9_same 7 = .ok (.ldc 85, 2) := by decide +kernel
theorem dX9_same_9 : decode cX9_same 9 = .ok (.ireturn, 1) := by decide +kernel
theorem dX9_same_10 : decode cX9_same 10 = .ok (.aload_n 0, 1) := by decide +kernel
theorem dX9_same_11 : decode cX9_same 11 = .ok (.aload_n 0, 1) := by decide +kernel
theorem dX9_same_12 : decode cX9_same 12 = .ok (.getfield 12, 3) := by decide +kernel
theorem dX9_same_15 : decode cX9_same 15 = .ok (.invokevirtual 172, 3) := by decide +kernel
theorem dX9_same_18 : decode cX9_same 18 = .ok (.iconst 0, 1) := by decide +kernel
theorem dX9_same_19 : decode cX9_same 19 = .ok (.istore_n 2, 1) := by decide +kernel
theorem dX9_same_20 : decode cX9_same 20 = .ok (.iconst 0, 1) := by decide +kernel
theorem dX9_same_21 : decode cX9_same 21 = .ok (.istore_n 3, 1) := by decide +kernel
theorem dX9_same_22 : decode cX9_same 22 = .ok (.iload_n 3, 1) := by decide +kernel
theorem dX9_same_23 : decode cX9_same 23 = .ok (.aload_n 0, 1) := by decide +kernel
theorem dX9_same_24 : decode cX9_same 24 = .ok (.getfield 38, 3) := by decide +kernel
theorem dX9_same_27 : decode cX9_same 27 = .ok (.invokevirtual 175, 3) := by decide +kernel
theorem dX9_same_30 : decode cX9_same 30 = .ok (.if_icmp .ge 54, 3) := by decide +kernel
theorem dX9_same_33 : decode cX9_same 33 = .ok (.iload_n 3, 1) := by decide +kernel
theorem dX9_same_34 : decode cX9_same 34 = .ok (.sipush 256, 3) := by decide +kernel
theorem dX9_same_37 : decode cX9_same 37 = .ok (.if_icmp .ge 47, 3) := by decide +kernel
theorem dX9_same_40 : decode cX9_same 40 = .ok (.aload_n 0, 1) := by decide +kernel
theorem dX9_same_41 : decode cX9_same 41 = .ok (.getfield 38, 3) := by decide +kernel
theorem dX9_same_44 : decode cX9_same 44 = .ok (.iload_n 3, 1) := by decide +kernel
theorem dX9_same_45 : decode cX9_same 45 = .ok (.invokevirtual 179, 3) := by decide +kernel
theorem dX9_same_48 : decode cX9_same 48 = .ok (.iload_n 1, 1) := by decide +kernel
theorem dX9_same_49 : decode cX9_same 49 = .ok (.invokestatic 160, 3) := by decide +kernel
theorem dX9_same_52 : decode cX9_same 52 = .ok (.iconst 1, 1) := by decide +kernel
theorem dX9_same_53 : decode cX9_same 53 = .ok (.if_icmp .ne 8, 3) := by decide +kernel
theorem dX9_same_56 : decode cX9_same 56 = .ok (.bipush 15, 2) := by decide +kernel
theorem dX9_same_58 : decode cX9_same 58 = .ok (.goto 4, 3) := by decide +kernel
theorem dX9_same_61 : decode cX9_same 61 = .ok (.iconst 0, 1) := by decide +kernel
theorem dX9_same_62 : decode cX9_same 62 = .ok (.istore 4, 2) := by decide +kernel
theorem dX9_same_64 : decode cX9_same 64 = .ok (.iload_n 2, 1) := by decide +kernel
theorem dX9_same_65 : decode cX9_same 65 = .ok (.aload_n 0, 1) := by decide +kernel
theorem dX9_same_66 : decode cX9_same 66 = .ok (.getfield 38, 3) := by decide +kernel
theorem dX9_same_69 : decode cX9_same 69 = .ok (.iload_n 3, 1) := by decide +kernel
theorem dX9_same_70 : decode cX9_same 70 = .ok (.invokevirtual 182, 3) := by decide +kernel
theorem dX9_same_73 : decode cX9_same 73 = .ok (.iload 4, 2) := by decide +kernel
theorem dX9_same_75 : decode cX9_same 75 = .ok (.ixor, 1) := by decide +kernel
theorem dX9_same_76 : decode cX9_same 76 = .ok (.ior, 1) := by decide +kernel
theorem dX9_same_77 : decode cX9_same 77 = .ok (.istore_n 2, 1) := by decide +kernel
theorem dX9_same_78 : decode cX9_same 78 = .ok (.iinc 3 1, 3) := by decide +kernel
theorem dX9_same_81 : decode cX9_same 81 = .ok (.goto (-59), 3) := by decide +kernel
theorem dX9_same_84 : decode cX9_same 84 = .ok (.bipush 15, 2) := by decide +kernel
theorem dX9_same_86 : decode cX9_same 86 = .ok (.iload_n 2, 1) := by decide +kernel
theorem dX9_same_87 : decode cX9_same 87 = .ok (.iconst (-1), 1) := by decide +kernel
theorem dX9_same_88 : decode cX9_same 88 = .ok (.ixor, 1) := by decide +kernel
theorem dX9_same_89 : decode cX9_same 89 = .ok (.iand, 1) := by decide +kernel
theorem dX9_same_90 : decode cX9_same 90 = .ok (.ireturn, 1) := by decide +kernel
theorem dX9_kinds_0 : decode cX9_kinds 0 = .ok (.iload_n 1, 1) := by decide +kernel
theorem dX9_kinds_1 : decode cX9_kinds 1 = .ok (.iconst 0, 1) := by decide +kernel
theorem dX9_kinds_2 : decode cX9_kinds 2 = .ok (.bipush 7, 2) := by decide +kernel
theorem dX9_kinds_4 : decode cX9_kinds 4 = .ok (.invokestatic 81, 3) := by decide +kernel
theorem dX9_kinds_7 : decode cX9_kinds 7 = .ok (.ifCond .ne 6, 3) := by decide +kernel
theorem dX9_kinds_10 : decode cX9_kinds 10 = .ok (.ldc 85, 2) := by decide +kernel
theorem dX9_kinds_12 : decode cX9_kinds 12 = .ok (.ireturn, 1) := by decide +kernel
theorem dX9_kinds_13 : decode cX9_kinds 13 = .ok (.iload_n 1, 1) := by decide +kernel
theorem dX9_kinds_14 : decode cX9_kinds 14 = .ok (.aload_n 0, 1) := by decide +kernel
theorem dX9_kinds_15 : decode cX9_kinds 15 = .ok (.getfield 12, 3) := by decide +kernel
theorem dX9_kinds_18 : decode cX9_kinds 18 = .ok (.invokevirtual 90, 3) := by decide +kernel
theorem dX9_kinds_21 : decode cX9_kinds 21 = .ok (.if_icmp .lt 6, 3) := by decide +kernel
theorem dX9_kinds_24 : decode cX9_kinds 24 = .ok (.ldc 178, 2) := by decide +kernel
theorem dX9_kinds_26 : decode cX9_kinds 26 = .ok (.ireturn, 1) := by decide +kernel
theorem dX9_kinds_27 : decode cX9_kinds 27 = .ok (.iconst 0, 1) := by decide +kernel
theorem dX9_kinds_28 : decode cX9_kinds 28 = .ok (.istore_n 2, 1) := by decide +kernel
theorem dX9_kinds_29 : decode cX9_kinds 29 = .ok (.iconst 0, 1) := by decide +kernel
theorem dX9_kinds_30 : decode cX9_kinds 30 = .ok (.istore_n 3, 1) := by decide +kernel
theorem dX9_kinds_31 : decode cX9_kinds 31 = .ok (.iload_n 3, 1) := by decide +kernel
theorem dX9_kinds_32 : decode cX9_kinds 32 = .ok (.iconst 5, 1) := by decide +kernel
theorem dX9_kinds_33 : decode cX9_kinds 33 = .ok (.if_icmp .gt 62, 3) := by decide +kernel
theorem dX9_kinds_36 : decode cX9_kinds 36 = .ok (.aload_n 0, 1) := by decide +kernel
theorem dX9_kinds_37 : decode cX9_kinds 37 = .ok (.getfield 19, 3) := by decide +kernel
theorem dX9_kinds_40 : decode cX9_kinds 40 = .ok (.aload_n 0, 1) := by decide +kernel
theorem dX9_kinds_41 : decode cX9_kinds 41 = .ok (.getfield 12, 3) := by decide +kernel
theorem dX9_kinds_44 : decode cX9_kinds 44 = .ok (.invokevirtual 135, 3) := by decide +kernel
theorem dX9_kinds_47 : decode cX9_kinds 47 = .ok (.aload_n 0, 1) := by decide +kernel
theorem dX9_kinds_48 : decode cX9_kinds 48 = .ok (.getfield 19, 3) := by decide +kernel
theorem dX9_kinds_51 : decode cX9_kinds 51 = .ok (.iload_n 1, 1) := by decide +kernel
theorem dX9_kinds_52 : decode cX9_kinds 52 = .ok (.iload_n 3, 1) := by decide +kernel
theorem dX9_kinds_53 : decode cX9_kinds 53 = .ok (.aload_n 0, 1) := by decide +kernel
theorem dX9_kinds_54 : decode cX9_kinds 54 = .ok (.getfield 12, 3) := by decide +kernel
theorem dX9_kinds_57 : decode cX9_kinds 57 = .ok (.iload_n 1, 1) := by decide +kernel
theorem dX9_kinds_58 : decode cX9_kinds 58 = .ok (.invokevirtual 207, 3) := by decide +kernel
theorem dX9_kinds_61 : decode cX9_kinds 61 = .ok (.aload_n 0, 1) := by decide +kernel
theorem dX9_kinds_62 : decode cX9_kinds 62 = .ok (.getfield 12, 3) := by decide +kernel
theorem dX9_kinds_65 : decode cX9_kinds 65 = .ok (.iload_n 1, 1) := by decide +kernel
theorem dX9_kinds_66 : decode cX9_kinds 66 = .ok (.invokevirtual 210, 3) := by decide +kernel
theorem dX9_kinds_69 : decode cX9_kinds 69 = .ok (.invokevirtual 103, 3) := by decide +kernel
theorem dX9_kinds_72 : decode cX9_kinds 72 = .ok (.aload_n 0, 1) := by decide +kernel
theorem dX9_kinds_73 : decode cX9_kinds 73 = .ok (.aload_n 0, 1) := by decide +kernel
theorem dX9_kinds_74 : decode cX9_kinds 74 = .ok (.getfield 19, 3) := by decide +kernel
theorem dX9_kinds_77 : decode cX9_kinds 77 = .ok (.invokevirtual 213, 3) := by decide +kernel
theorem dX9_kinds_80 : decode cX9_kinds 80 = .ok (.ifCond .eq 9, 3) := by decide +kernel
theorem dX9_kinds_83 : decode cX9_kinds 83 = .ok (.iload_n 2, 1) := by decide +kernel
theorem dX9_kinds_84 : decode cX9_kinds 84 = .ok (.iconst 1, 1) := by decide +kernel
theorem dX9_kinds_85 : decode cX9_kinds 85 = .ok (.iload_n 3, 1) := by decide +kernel
theorem dX9_kinds_86 : decode cX9_kinds 86 = .ok (.ishl, 1) := by decide +kernel
theorem dX9_kinds_87 : decode cX9_kinds 87 = .ok (.ior, 1) := by decide +kernel
theorem dX9_kinds_88 : decode cX9_kinds 88 = .ok (.istore_n 2, 1) := by decide +kernel
theorem dX9_kinds_89 : decode cX9_kinds 89 = .ok (.iinc 3 1, 3) := by decide +kernel
theorem dX9_kinds_92 : decode cX9_kinds 92 = .ok (.goto (-61), 3) := by decide +kernel
theorem dX9_kinds_95 : decode cX9_kinds 95 = .ok (.iload_n 2, 1) := by decide +kernel
theorem dX9_kinds_96 : decode cX9_kinds 96 = .ok (.ireturn, 1) := by decide +kernel
theorem dX9_count_0 : decode cX9_count 0 = .ok (.iload_n 1, 1) := by decide +kernel
theorem dX9_count_1 : decode cX9_count 1 = .ok (.tableswitch 80 0 3 #[31, 47, 64, 72], 31) := by decide +kernel
theorem dX9_count_32 : decode cX9_count 32 = .ok (.aload_n 0, 1) := by decide +kernel
theorem dX9_count_33 : decode cX9_count 33 = .ok (.getfield 12, 3) := by decide +kernel
theorem dX9_count_36 : decode cX9_count 36 = .ok (.invokevirtual 90, 3) := by decide +kernel
theorem dX9_count_39 : decode cX9_count 39 = .ok (.aload_n 0, 1) := by decide +kernel
theorem dX9_count_40 : decode cX9_count 40 = .ok (.getfield 16, 3) := by decide +kernel
theorem dX9_count_43 : decode cX9_count 43 = .ok (.invokevirtual 90, 3) := by decide +kernel
theorem dX9_count_46 : decode cX9_count 46 = .ok (.iadd, 1) := by decide +kernel
theorem dX9_count_47 : decode cX9_count 47 = .ok (.ireturn, 1) := by decide +kernel
theorem dX9_count_48 : decode cX9_count 48 = .ok (.aload_n 0, 1) := by decide +kernel
theorem dX9_count_49 : decode cX9_count 49 = .ok (.aload_n 0, 1) := by decide +kernel
theorem dX9_count_50 : decode cX9_count 50 = .ok (.getfield 12, 3) := by decide +kernel
theorem dX9_count_53 : decode cX9_count 53 = .ok (.invokevirtual 213, 3) := by decide +kernel
theorem dX9_count_56 : decode cX9_count 56 = .ok (.ifCond .eq 7, 3) := by decide +kernel
theorem dX9_count_59 : decode cX9_count 59 = .ok (.iconst 1, 1) := by decide +kernel
theorem dX9_count_60 : decode cX9_count 60 = .ok (.goto 4, 3) := by decide +kernel
theorem dX9_count_63 : decode cX9_count 63 = .ok (.iconst 0, 1) := by decide +kernel
theorem dX9_count_64 : decode cX9_count 64 = .ok (.ireturn, 1) := by decide +kernel
theorem dX9_count_65 : decode cX9_count 65 = .ok (.aload_n 0, 1) := by decide +kernel
theorem dX9_count_66 : decode cX9_count 66 = .ok (.getfield 59, 3) := by decide +kernel
theorem dX9_count_69 : decode cX9_count 69 = .ok (.invokevirtual 217, 3) := by decide +kernel
theorem dX9_count_72 : decode cX9_count 72 = .ok (.ireturn, 1) := by decide +kernel
theorem dX9_count_73 : decode cX9_count 73 = .ok (.aload_n 0, 1) := by decide +kernel
theorem dX9_count_74 : decode cX9_count 74 = .ok (.getfield 66, 3) := by decide +kernel
theorem dX9_count_77 : decode cX9_count 77 = .ok (.invokevirtual 218, 3) := by decide +kernel
theorem dX9_count_80 : decode cX9_count 80 = .ok (.ireturn, 1) := by decide +kernel
theorem dX9_count_81 : decode cX9_count 81 = .ok (.ldc 85, 2) := by decide +kernel
theorem dX9_count_83 : decode cX9_count 83 = .ok (.ireturn, 1) := by decide +kernel
theorem dX9_undo_0 : decode cX9_undo 0 = .ok (.aload_n 0, 1) := by decide +kernel
theorem dX9_undo_1 : decode cX9_undo 1 = .ok (.getfield 59, 3) := by decide +kernel
theorem dX9_undo_4 : decode cX9_undo 4 = .ok (.invokevirtual 217, 3) := by decide +kernel
theorem dX9_undo_7 : decode cX9_undo 7 = .ok (.ifCond .ne 6, 3) := by decide +kernel
theorem dX9_undo_10 : decode cX9_undo 10 = .ok (.ldc 107, 2) := by decide +kernel
theorem dX9_undo_12 : decode cX9_undo 12 = .ok (.ireturn, 1) := by decide +kernel
theorem dX9_undo_13 : decode cX9_undo 13 = .ok (.aload_n 0, 1) := by decide +kernel
theorem dX9_undo_14 : decode cX9_undo 14 = .ok (.getfield 59, 3) := by decide +kernel
theorem dX9_undo_17 : decode cX9_undo 17 = .ok (.aload_n 0, 1) := by decide +kernel
theorem dX9_undo_18 : decode cX9_undo 18 = .ok (.getfield 12, 3) := by decide +kernel
theorem dX9_undo_21 : decode cX9_undo 21 = .ok (.aload_n 0, 1) := by decide +kernel
theorem dX9_undo_22 : decode cX9_undo 22 = .ok (.getfield 16, 3) := by decide +kernel
theorem dX9_undo_25 : decode cX9_undo 25 = .ok (.invokevirtual 221, 3) := by decide +kernel
theorem dX9_undo_28 : decode cX9_undo 28 = .ok (.aload_n 0, 1) := by decide +kernel
theorem dX9_undo_29 : decode cX9_undo 29 = .ok (.getfield 59, 3) := by decide +kernel
theorem dX9_undo_32 : decode cX9_undo 32 = .ok (.invokevirtual 217, 3) := by decide +kernel
theorem dX9_undo_35 : decode cX9_undo 35 = .ok (.ireturn, 1) := by decide +kernel
theorem dX9_circuitAt_0 : decode cX9_circuitAt 0 = .ok (.iload_n 1, 1) := by decide +kernel
theorem dX9_circuitAt_1 : decode cX9_circuitAt 1 = .ok (.ifCond .ne 10, 3) := by decide +kernel
theorem dX9_circuitAt_4 : decode cX9_circuitAt 4 = .ok (.aload_n 0, 1) := by decide +kernel
theorem dX9_circuitAt_5 : decode cX9_circuitAt 5 = .ok (.getfield 12, 3) := by decide +kernel
theorem dX9_circuitAt_8 : decode cX9_circuitAt 8 = .ok (.goto 7, 3) := by decide +kernel
theorem dX9_circuitAt_11 : decode cX9_circuitAt 11 = .ok (.aload_n 0, 1) := by decide +kernel
theorem dX9_circuitAt_12 : decode cX9_circuitAt 12 = .ok (.getfield 16, 3) := by decide +kernel
theorem dX9_circuitAt_15 : decode cX9_circuitAt 15 = .ok (.areturn, 1) := by decide +kernel
theorem dX9_tellWires_0 : decode cX9_tellWires 0 = .ok (.iload_n 1, 1) := by decide +kernel
theorem dX9_tellWires_1 : decode cX9_tellWires 1 = .ok (.tableswitch 42 0 2 #[27, 32, 37], 27) := by decide +kernel
theorem dX9_tellWires_28 : decode cX9_tellWires 28 = .ok (.aload_n 0, 1) := by decide +kernel
theorem dX9_tellWires_29 : decode cX9_tellWires 29 = .ok (.invokevirtual 90, 3) := by decide +kernel
theorem dX9_tellWires_32 : decode cX9_tellWires 32 = .ok (.ireturn, 1) := by decide +kernel
theorem dX9_tellWires_33 : decode cX9_tellWires 33 = .ok (.aload_n 0, 1) := by decide +kernel
theorem dX9_tellWires_34 : decode cX9_tellWires 34 = .ok (.invokevirtual 128, 3) := by decide +kernel
theorem dX9_tellWires_37 : decode cX9_tellWires 37 = .ok (.ireturn, 1) := by decide +kernel
theorem dX9_tellWires_38 : decode cX9_tellWires 38 = .ok (.aload_n 0, 1) := by decide +kernel
theorem dX9_tellWires_39 : decode cX9_tellWires 39 = .ok (.invokevirtual 166, 3) := by decide +kernel
theorem dX9_tellWires_42 : decode cX9_tellWires 42 = .ok (.ireturn, 1) := by decide +kernel
theorem dX9_tellWires_43 : decode cX9_tellWires 43 = .ok (.aload_n 0, 1) := by decide +kernel
theorem dX9_tellWires_44 : decode cX9_tellWires 44 = .ok (.invokevirtual 244, 3) := by decide +kernel
theorem dX9_tellWires_47 : decode cX9_tellWires 47 = .ok (.ireturn, 1) := by decide +kernel
theorem dX9_tellStates_0 : decode cX9_tellStates 0 = .ok (.aload_n 0, 1) := by decide +kernel
theorem dX9_tellStates_1 : decode cX9_tellStates 1 = .ok (.getfield 32, 3) := by decide +kernel
theorem dX9_tellStates_4 : decode cX9_tellStates 4 = .ok (.aload_n 1, 1) := by decide +kernel
theorem dX9_tellStates_5 : decode cX9_tellStates 5 = .ok (.invokevirtual 200, 3) := by decide +kernel
theorem dX9_tellStates_8 : decode cX9_tellStates 8 = .ok (.aload_n 0, 1) := by decide +kernel
theorem dX9_tellStates_9 : decode cX9_tellStates 9 = .ok (.getfield 32, 3) := by decide +kernel
theorem dX9_tellStates_12 : decode cX9_tellStates 12 = .ok (.invokevirtual 247, 3) := by decide +kernel
theorem dX9_tellStates_15 : decode cX9_tellStates 15 = .ok (.istore_n 3, 1) := by decide +kernel
theorem dX9_tellStates_16 : decode cX9_tellStates 16 = .ok (.iload_n 2, 1) := by decide +kernel
theorem dX9_tellStates_17 : decode cX9_tellStates 17 = .ok (.lookupswitch 38 #[(3, 27), (4, 29)], 27) := by decide +kernel
theorem dX9_tellStates_44 : decode cX9_tellStates 44 = .ok (.iload_n 3, 1) := by decide +kernel
theorem dX9_tellStates_45 : decode cX9_tellStates 45 = .ok (.ireturn, 1) := by decide +kernel
theorem dX9_tellStates_46 : decode cX9_tellStates 46 = .ok (.aload_n 0, 1) := by decide +kernel
theorem dX9_tellStates_47 : decode cX9_tellStates 47 = .ok (.getfield 32, 3) := by decide +kernel
theorem dX9_tellStates_50 : decode cX9_tellStates 50 = .ok (.iload_n 3, 1) := by decide +kernel
theorem dX9_tellStates_51 : decode cX9_tellStates 51 = .ok (.invokevirtual 250, 3) := by decide +kernel
theorem dX9_tellStates_54 : decode cX9_tellStates 54 = .ok (.ireturn, 1) := by decide +kernel
theorem dX9_tellStates_55 : decode cX9_tellStates 55 = .ok (.aload_n 0, 1) := by decide +kernel
theorem dX9_tellStates_56 : decode cX9_tellStates 56 = .ok (.getfield 52, 3) := by decide +kernel
theorem dX9_tellStates_59 : decode cX9_tellStates 59 = .ok (.aload_n 0, 1) := by decide +kernel
theorem dX9_tellStates_60 : decode cX9_tellStates 60 = .ok (.getfield 32, 3) := by decide +kernel
theorem dX9_tellStates_63 : decode cX9_tellStates 63 = .ok (.invokevirtual 253, 3) := by decide +kernel
theorem dX9_tellStates_66 : decode cX9_tellStates 66 = .ok (.aload_n 0, 1) := by decide +kernel
theorem dX9_tellStates_67 : decode cX9_tellStates 67 = .ok (.getfield 52, 3) := by decide +kernel
theorem dX9_tellStates_70 : decode cX9_tellStates 70 = .ok (.iload_n 3, 1) := by decide +kernel
theorem dX9_tellStates_71 : decode cX9_tellStates 71 = .ok (.invokevirtual 257, 3) := by decide +kernel
theorem dX9_tellStates_74 : decode cX9_tellStates 74 = .ok (.ireturn, 1) := by decide +kernel
theorem dX9_tellGate_0 : decode cX9_tellGate 0 = .ok (.iload_n 1, 1) := by decide +kernel
theorem dX9_tellGate_1 : decode cX9_tellGate 1 = .ok (.aload_n 0, 1) := by decide +kernel
theorem dX9_tellGate_2 : decode cX9_tellGate 2 = .ok (.invokevirtual 90, 3) := by decide +kernel
theorem dX9_tellGate_5 : decode cX9_tellGate 5 = .ok (.if_icmp .lt 6, 3) := by decide +kernel
theorem dX9_tellGate_8 : decode cX9_tellGate 8 = .ok (.ldc 178, 2) := by decide +kernel
theorem dX9_tellGate_10 : decode cX9_tellGate 10 = .ok (.ireturn, 1) := by decide +kernel
theorem dX9_tellGate_11 : decode cX9_tellGate 11 = .ok (.iload_n 2, 1) := by decide +kernel
theorem dX9_tellGate_12 : decode cX9_tellGate 12 = .ok (.iconst 1, 1) := by decide +kernel
theorem dX9_tellGate_13 : decode cX9_tellGate 13 = .ok (.if_icmp .ne 9, 3) := by decide +kernel
theorem dX9_tellGate_16 : decode cX9_tellGate 16 = .ok (.aload_n 0, 1) := by decide +kernel
theorem dX9_tellGate_17 : decode cX9_tellGate 17 = .ok (.iload_n 1, 1) := by decide +kernel
theorem dX9_tellGate_18 : decode cX9_tellGate 18 = .ok (.invokevirtual 260, 3) := by decide +kernel
theorem dX9_tellGate_21 : decode cX9_tellGate 21 = .ok (.ireturn, 1) := by decide +kernel
theorem dX9_tellGate_22 : decode cX9_tellGate 22 = .ok (.iload_n 2, 1) := by decide +kernel
theorem dX9_tellGate_23 : decode cX9_tellGate 23 = .ok (.iconst 2, 1) := by decide +kernel
theorem dX9_tellGate_24 : decode cX9_tellGate 24 = .ok (.if_icmp .ne 11, 3) := by decide +kernel
theorem dX9_tellGate_27 : decode cX9_tellGate 27 = .ok (.aload_n 0, 1) := by decide +kernel
theorem dX9_tellGate_28 : decode cX9_tellGate 28 = .ok (.iload_n 1, 1) := by decide +kernel
theorem dX9_tellGate_29 : decode cX9_tellGate 29 = .ok (.invokevirtual 207, 3) := by decide +kernel
theorem dX9_tellGate_32 : decode cX9_tellGate 32 = .ok (.goto 8, 3) := by decide +kernel
theorem dX9_tellGate_35 : decode cX9_tellGate 35 = .ok (.aload_n 0, 1) := by decide +kernel
theorem dX9_tellGate_36 : decode cX9_tellGate 36 = .ok (.iload_n 1, 1) := by decide +kernel
theorem dX9_tellGate_37 : decode cX9_tellGate 37 = .ok (.invokevirtual 210, 3) := by decide +kernel
theorem dX9_tellGate_40 : decode cX9_tellGate 40 = .ok (.ireturn, 1) := by decide +kernel
theorem dX9_walkWith_0 : decode cX9_walkWith 0 = .ok (.aload_n 0, 1) := by decide +kernel
theorem dX9_walkWith_1 : decode cX9_walkWith 1 = .ok (.getfield 25, 3) := by decide +kernel
theorem dX9_walkWith_4 : decode cX9_walkWith 4 = .ok (.aload_n 1, 1) := by decide +kernel
theorem dX9_walkWith_5 : decode cX9_walkWith 5 = .ok (.invokevirtual 200, 3) := by decide +kernel
theorem dX9_walkWith_8 : decode cX9_walkWith 8 = .ok (.aload_n 0, 1) := by decide +kernel
theorem dX9_walkWith_9 : decode cX9_walkWith 9 = .ok (.getfield 29, 3) := by decide +kernel
theorem dX9_walkWith_12 : decode cX9_walkWith 12 = .ok (.aload_n 0, 1) := by decide +kernel
theorem dX9_walkWith_13 : decode cX9_walkWith 13 = .ok (.getfield 16, 3) := by decide +kernel
theorem dX9_walkWith_16 : decode cX9_walkWith 16 = .ok (.invokevirtual 200, 3) := by decide +kernel
theorem dX9_walkWith_19 : decode cX9_walkWith 19 = .ok (.aload_n 0, 1) := by decide +kernel
theorem dX9_walkWith_20 : decode cX9_walkWith 20 = .ok (.getfield 38, 3) := by decide +kernel
theorem dX9_walkWith_23 : decode cX9_walkWith 23 = .ok (.aload_n 0, 1) := by decide +kernel
theorem dX9_walkWith_24 : decode cX9_walkWith 24 = .ok (.getfield 25, 3) := by decide +kernel
theorem dX9_walkWith_27 : decode cX9_walkWith 27 = .ok (.aload_n 0, 1) := by decide +kernel
theorem dX9_walkWith_28 : decode cX9_walkWith 28 = .ok (.getfield 29, 3) := by decide +kernel
theorem dX9_walkWith_31 : decode cX9_walkWith 31 = .ok (.invokevirtual 263, 3) := by decide +kernel
theorem dX9_walkWith_34 : decode cX9_walkWith 34 = .ok (.return_, 1) := by decide +kernel
theorem dX9_neverApart_0 : decode cX9_neverApart 0 = .ok (.aload_n 0, 1) := by decide +kernel
theorem dX9_neverApart_1 : decode cX9_neverApart 1 = .ok (.aload_n 1, 1) := by decide +kernel
theorem dX9_neverApart_2 : decode cX9_neverApart 2 = .ok (.invokevirtual 172, 3) := by decide +kernel
theorem dX9_neverApart_5 : decode cX9_neverApart 5 = .ok (.aload_n 0, 1) := by decide +kernel
theorem dX9_neverApart_6 : decode cX9_neverApart 6 = .ok (.invokevirtual 194, 3) := by decide +kernel
theorem dX9_neverApart_9 : decode cX9_neverApart 9 = .ok (.aload_n 0, 1) := by decide +kernel
theorem dX9_neverApart_10 : decode cX9_neverApart 10 = .ok (.getfield 38, 3) := by decide +kernel
theorem dX9_neverApart_13 : decode cX9_neverApart 13 = .ok (.invokevirtual 175, 3) := by decide +kernel
theorem dX9_neverApart_16 : decode cX9_neverApart 16 = .ok (.if_icmp .lt 7, 3) := by decide +kernel
theorem dX9_neverApart_19 : decode cX9_neverApart 19 = .ok (.iconst 1, 1) := by decide +kernel
theorem dX9_neverApart_20 : decode cX9_neverApart 20 = .ok (.goto 4, 3) := by decide +kernel
theorem dX9_neverApart_23 : decode cX9_neverApart 23 = .ok (.iconst 0, 1) := by decide +kernel
theorem dX9_neverApart_24 : decode cX9_neverApart 24 = .ok (.ireturn, 1) := by decide +kernel
theorem dX9_firstPairApart_0 : decode cX9_firstPairApart 0 = .ok (.iconst 0, 1) := by decide +kernel
theorem dX9_firstPairApart_1 : decode cX9_firstPairApart 1 = .ok (.istore_n 1, 1) := by decide +kernel
theorem dX9_firstPairApart_2 : decode cX9_firstPairApart 2 = .ok (.iload_n 1, 1) := by decide +kernel
theorem dX9_firstPairApart_3 : decode cX9_firstPairApart 3 = .ok (.aload_n 0, 1) := by decide +kernel
theorem dX9_firstPairApart_4 : decode cX9_firstPairApart 4 = .ok (.getfield 38, 3) := by decide +kernel
theorem dX9_firstPairApart_7 : decode cX9_firstPairApart 7 = .ok (.invokevirtual 175, 3) := by decide +kernel
theorem dX9_firstPairApart_10 : decode cX9_firstPairApart 10 = .ok (.if_icmp .ge 24, 3) := by decide +kernel
theorem dX9_firstPairApart_13 : decode cX9_firstPairApart 13 = .ok (.iload_n 1, 1) := by decide +kernel
theorem dX9_firstPairApart_14 : decode cX9_firstPairApart 14 = .ok (.sipush 256, 3) := by decide +kernel
theorem dX9_firstPairApart_17 : decode cX9_firstPairApart 17 = .ok (.if_icmp .ge 17, 3) := by decide +kernel
theorem dX9_firstPairApart_20 : decode cX9_firstPairApart 20 = .ok (.aload_n 0, 1) := by decide +kernel
theorem dX9_firstPairApart_21 : decode cX9_firstPairApart 21 = .ok (.iload_n 1, 1) := by decide +kernel
theorem dX9_firstPairApart_22 : decode cX9_firstPairApart 22 = .ok (.invokevirtual 188, 3) := by decide +kernel
theorem dX9_firstPairApart_25 : decode cX9_firstPairApart 25 = .ok (.ifCond .ne 9, 3) := by decide +kernel
theorem dX9_firstPairApart_28 : decode cX9_firstPairApart 28 = .ok (.iinc 1 1, 3) := by decide +kernel
theorem dX9_firstPairApart_31 : decode cX9_firstPairApart 31 = .ok (.goto (-29), 3) := by decide +kernel
theorem dX9_firstPairApart_34 : decode cX9_firstPairApart 34 = .ok (.iload_n 1, 1) := by decide +kernel
theorem dX9_firstPairApart_35 : decode cX9_firstPairApart 35 = .ok (.ireturn, 1) := by decide +kernel
theorem dX9_differingInputs_0 : decode cX9_differingInputs 0 = .ok (.aload_n 0, 1) := by decide +kernel
theorem dX9_differingInputs_1 : decode cX9_differingInputs 1 = .ok (.getfield 25, 3) := by decide +kernel
theorem dX9_differingInputs_4 : decode cX9_differingInputs 4 = .ok (.aload_n 0, 1) := by decide +kernel
theorem dX9_differingInputs_5 : decode cX9_differingInputs 5 = .ok (.getfield 38, 3) := by decide +kernel
theorem dX9_differingInputs_8 : decode cX9_differingInputs 8 = .ok (.iload_n 1, 1) := by decide +kernel
theorem dX9_differingInputs_9 : decode cX9_differingInputs 9 = .ok (.invokevirtual 179, 3) := by decide +kernel
theorem dX9_differingInputs_12 : decode cX9_differingInputs 12 = .ok (.invokevirtual 267, 3) := by decide +kernel
theorem dX9_differingInputs_15 : decode cX9_differingInputs 15 = .ok (.aload_n 0, 1) := by decide +kernel
theorem dX9_differingInputs_16 : decode cX9_differingInputs 16 = .ok (.getfield 29, 3) := by decide +kernel
theorem dX9_differingInputs_19 : decode cX9_differingInputs 19 = .ok (.aload_n 0, 1) := by decide +kernel
theorem dX9_differingInputs_20 : decode cX9_differingInputs 20 = .ok (.getfield 38, 3) := by decide +kernel
theorem dX9_differingInputs_23 : decode cX9_differingInputs 23 = .ok (.iload_n 1, 1) := by decide +kernel
theorem dX9_differingInputs_24 : decode cX9_differingInputs 24 = .ok (.invokevirtual 182, 3) := by decide +kernel
theorem dX9_differingInputs_27 : decode cX9_differingInputs 27 = .ok (.invokevirtual 267, 3) := by decide +kernel
theorem dX9_differingInputs_30 : decode cX9_differingInputs 30 = .ok (.ixor, 1) := by decide +kernel
theorem dX9_differingInputs_31 : decode cX9_differingInputs 31 = .ok (.ireturn, 1) := by decide +kernel
theorem dX9_isWithin_0 : decode cX9_isWithin 0 = .ok (.iload_n 0, 1) := by decide +kernel
theorem dX9_isWithin_1 : decode cX9_isWithin 1 = .ok (.iload_n 1, 1) := by decide +kernel
theorem dX9_isWithin_2 : decode cX9_isWithin 2 = .ok (.if_icmp .lt 12, 3) := by decide +kernel
theorem dX9_isWithin_5 : decode cX9_isWithin 5 = .ok (.iload_n 0, 1) := by decide +kernel
theorem dX9_isWithin_6 : decode cX9_isWithin 6 = .ok (.iload_n 2, 1) := by decide +kernel
theorem dX9_isWithin_7 : decode cX9_isWithin 7 = .ok (.if_icmp .gt 7, 3) := by decide +kernel
theorem dX9_isWithin_10 : decode cX9_isWithin 10 = .ok (.iconst 1, 1) := by decide +kernel
theorem dX9_isWithin_11 : decode cX9_isWithin 11 = .ok (.goto 4, 3) := by decide +kernel
theorem dX9_isWithin_14 : decode cX9_isWithin 14 = .ok (.iconst 0, 1) := by decide +kernel
theorem dX9_isWithin_15 : decode cX9_isWithin 15 = .ok (.ireturn, 1) := by decide +kernel
theorem dX9_isCircuit_0 : decode cX9_isCircuit 0 = .ok (.iload_n 0, 1) := by decide +kernel
theorem dX9_isCircuit_1 : decode cX9_isCircuit 1 = .ok (.iconst 0, 1) := by decide +kernel
theorem dX9_isCircuit_2 : decode cX9_isCircuit 2 = .ok (.iconst 1, 1) := by decide +kernel
theorem dX9_isCircuit_3 : decode cX9_isCircuit 3 = .ok (.invokestatic 81, 3) := by decide +kernel
theorem dX9_isCircuit_6 : decode cX9_isCircuit 6 = .ok (.ireturn, 1) := by decide +kernel
theorem dX9_isRegister_0 : decode cX9_isRegister 0 = .ok (.iload_n 0, 1) := by decide +kernel
theorem dX9_isRegister_1 : decode cX9_isRegister 1 = .ok (.iconst 0, 1) := by decide +kernel
theorem dX9_isRegister_2 : decode cX9_isRegister 2 = .ok (.iconst 3, 1) := by decide +kernel
theorem dX9_isRegister_3 : decode cX9_isRegister 3 = .ok (.invokestatic 81, 3) := by decide +kernel
theorem dX9_isRegister_6 : decode cX9_isRegister 6 = .ok (.ireturn, 1) := by decide +kernel
theorem dX9_isWire_0 : decode cX9_isWire 0 = .ok (.iload_n 0, 1) := by decide +kernel
theorem dX9_isWire_1 : decode cX9_isWire 1 = .ok (.iconst 0, 1) := by decide +kernel
theorem dX9_isWire_2 : decode cX9_isWire 2 = .ok (.bipush 15, 2) := by decide +kernel
theorem dX9_isWire_4 : decode cX9_isWire 4 = .ok (.invokestatic 81, 3) := by decide +kernel
theorem dX9_isWire_7 : decode cX9_isWire 7 = .ok (.ireturn, 1) := by decide +kernel
theorem dX9_isState_0 : decode cX9_isState 0 = .ok (.iload_n 0, 1) := by decide +kernel
theorem dX9_isState_1 : decode cX9_isState 1 = .ok (.iconst 0, 1) := by decide +kernel
theorem dX9_isState_2 : decode cX9_isState 2 = .ok (.bipush 15, 2) := by decide +kernel
theorem dX9_isState_4 : decode cX9_isState 4 = .ok (.invokestatic 81, 3) := by decide +kernel
theorem dX9_isState_7 : decode cX9_isState 7 = .ok (.ireturn, 1) := by decide +kernel
theorem dX9_areInputs_0 : decode cX9_areInputs 0 = .ok (.iload_n 0, 1) := by decide +kernel
theorem dX9_areInputs_1 : decode cX9_areInputs 1 = .ok (.iconst 0, 1) := by decide +kernel
theorem dX9_areInputs_2 : decode cX9_areInputs 2 = .ok (.iconst 3, 1) := by decide +kernel
theorem dX9_areInputs_3 : decode cX9_areInputs 3 = .ok (.invokestatic 81, 3) := by decide +kernel
theorem dX9_areInputs_6 : decode cX9_areInputs 6 = .ok (.ireturn, 1) := by decide +kernel
theorem dX9_mayFeed_0 : decode cX9_mayFeed 0 = .ok (.iload_n 1, 1) := by decide +kernel
theorem dX9_mayFeed_1 : decode cX9_mayFeed 1 = .ok (.iconst 0, 1) := by decide +kernel
theorem dX9_mayFeed_2 : decode cX9_mayFeed 2 = .ok (.bipush 6, 2) := by decide +kernel
theorem dX9_mayFeed_4 : decode cX9_mayFeed 4 = .ok (.iload_n 0, 1) := by decide +kernel
theorem dX9_mayFeed_5 : decode cX9_mayFeed 5 = .ok (.iadd, 1) := by decide +kernel
theorem dX9_mayFeed_6 : decode cX9_mayFeed 6 = .ok (.iconst 1, 1) := by decide +kernel
theorem dX9_mayFeed_7 : decode cX9_mayFeed 7 = .ok (.isub, 1) := by decide +kernel
theorem dX9_mayFeed_8 : decode cX9_mayFeed 8 = .ok (.invokestatic 81, 3) := by decide +kernel
theorem dX9_mayFeed_11 : decode cX9_mayFeed 11 = .ok (.ifCond .ne 15, 3) := by decide +kernel
theorem dX9_mayFeed_14 : decode cX9_mayFeed 14 = .ok (.iload_n 1, 1) := by decide +kernel
theorem dX9_mayFeed_15 : decode cX9_mayFeed 15 = .ok (.bipush 14, 2) := by decide +kernel
theorem dX9_mayFeed_17 : decode cX9_mayFeed 17 = .ok (.if_icmp .eq 9, 3) := by decide +kernel
theorem dX9_mayFeed_20 : decode cX9_mayFeed 20 = .ok (.iload_n 1, 1) := by decide +kernel
theorem dX9_mayFeed_21 : decode cX9_mayFeed 21 = .ok (.bipush 15, 2) := by decide +kernel
theorem dX9_mayFeed_23 : decode cX9_mayFeed 23 = .ok (.if_icmp .ne 7, 3) := by decide +kernel
theorem dX9_mayFeed_26 : decode cX9_mayFeed 26 = .ok (.iconst 1, 1) := by decide +kernel
theorem dX9_mayFeed_27 : decode cX9_mayFeed 27 = .ok (.goto 4, 3) := by decide +kernel
theorem dX9_mayFeed_30 : decode cX9_mayFeed 30 = .ok (.iconst 0, 1) := by decide +kernel
theorem dX9_mayFeed_31 : decode cX9_mayFeed 31 = .ok (.ireturn, 1) := by decide +kernel
theorem dX9_bitOf_0 : decode cX9_bitOf 0 = .ok (.iload_n 0, 1) := by decide +kernel
theorem dX9_bitOf_1 : decode cX9_bitOf 1 = .ok (.iload_n 1, 1) := by decide +kernel
theorem dX9_bitOf_2 : decode cX9_bitOf 2 = .ok (.iushr, 1) := by decide +kernel
theorem dX9_bitOf_3 : decode cX9_bitOf 3 = .ok (.iconst 1, 1) := by decide +kernel
theorem dX9_bitOf_4 : decode cX9_bitOf 4 = .ok (.iand, 1) := by decide +kernel
theorem dX9_bitOf_5 : decode cX9_bitOf 5 = .ok (.ireturn, 1) := by decide +kernel
theorem dX9_leastOf_0 : decode cX9_leastOf 0 = .ok (.iconst 0, 1) := by decide +kernel
theorem dX9_leastOf_1 : decode cX9_leastOf 1 = .ok (.istore_n 1, 1) := by decide +kernel
theorem dX9_leastOf_2 : decode cX9_leastOf 2 = .ok (.iload_n 1, 1) := by decide +kernel
theorem dX9_leastOf_3 : decode cX9_leastOf 3 = .ok (.iconst 3, 1) := by decide +kernel
theorem dX9_leastOf_4 : decode cX9_leastOf 4 = .ok (.if_icmp .ge 17, 3) := by decide +kernel
theorem dX9_leastOf_7 : decode cX9_leastOf 7 = .ok (.iload_n 0, 1) := by decide +kernel
theorem dX9_leastOf_8 : decode cX9_leastOf 8 = .ok (.iload_n 1, 1) := by decide +kernel
theorem dX9_leastOf_9 : decode cX9_leastOf 9 = .ok (.invokestatic 160, 3) := by decide +kernel
theorem dX9_leastOf_12 : decode cX9_leastOf 12 = .ok (.ifCond .ne 9, 3) := by decide +kernel
theorem dX9_leastOf_15 : decode cX9_leastOf 15 = .ok (.iinc 1 1, 3) := by decide +kernel
theorem dX9_leastOf_18 : decode cX9_leastOf 18 = .ok (.goto (-16), 3) := by decide +kernel
theorem dX9_leastOf_21 : decode cX9_leastOf 21 = .ok (.iload_n 1, 1) := by decide +kernel
theorem dX9_leastOf_22 : decode cX9_leastOf 22 = .ok (.ireturn, 1) := by decide +kernel
theorem dJ7_fill_53178_0 : decode cJ7_fill_53178 0 = .ok (.iconst 0, 1) := by decide +kernel
theorem dJ7_fill_53178_1 : decode cJ7_fill_53178 1 = .ok (.istore_n 2, 1) := by decide +kernel
theorem dJ7_fill_53178_2 : decode cJ7_fill_53178 2 = .ok (.aload_n 0, 1) := by decide +kernel
theorem dJ7_fill_53178_3 : decode cJ7_fill_53178 3 = .ok (.arraylength, 1) := by decide +kernel
theorem dJ7_fill_53178_4 : decode cJ7_fill_53178 4 = .ok (.istore_n 3, 1) := by decide +kernel
theorem dJ7_fill_53178_5 : decode cJ7_fill_53178 5 = .ok (.iload_n 2, 1) := by decide +kernel
theorem dJ7_fill_53178_6 : decode cJ7_fill_53178 6 = .ok (.iload_n 3, 1) := by decide +kernel
theorem dJ7_fill_53178_7 : decode cJ7_fill_53178 7 = .ok (.if_icmp .ge 13, 3) := by decide +kernel
theorem dJ7_fill_53178_10 : decode cJ7_fill_53178 10 = .ok (.aload_n 0, 1) := by decide +kernel
theorem dJ7_fill_53178_11 : decode cJ7_fill_53178 11 = .ok (.iload_n 2, 1) := by decide +kernel
theorem dJ7_fill_53178_12 : decode cJ7_fill_53178 12 = .ok (.iload_n 1, 1) := by decide +kernel
theorem dJ7_fill_53178_13 : decode cJ7_fill_53178 13 = .ok (.iastore, 1) := by decide +kernel
theorem dJ7_fill_53178_14 : decode cJ7_fill_53178 14 = .ok (.iinc 2 1, 3) := by decide +kernel
theorem dJ7_fill_53178_17 : decode cJ7_fill_53178 17 = .ok (.goto (-12), 3) := by decide +kernel
theorem dJ7_fill_53178_20 : decode cJ7_fill_53178 20 = .ok (.return_, 1) := by decide +kernel
