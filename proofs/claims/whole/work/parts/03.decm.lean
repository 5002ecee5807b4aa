theorem dX10_init_0 : decode cX10_init 0 = .ok (.aload_n 0, 1) := by decide +kernel
theorem dX10_init_1 : decode cX10_init 1 = .ok (.invokespecial 1, 3) := by decide +kernel
theorem dX10_init_4 : decode cX10_init 4 = .ok (.aload_n 0, 1) := by decide +kernel
theorem dX10_init_5 : decode cX10_init 5 = .ok (.bipush 68, 2) := by decide +kernel
theorem dX10_init_7 : decode cX10_init 7 = .ok (.newarray .int, 2) := by decide +kernel
theorem dX10_init_9 : decode cX10_init 9 = .ok (.putfield 7, 3) := by decide +kernel
theorem dX10_init_12 : decode cX10_init 12 = .ok (.aload_n 0, 1) := by decide +kernel
theorem dX10_init_13 : decode cX10_init 13 = .ok (.sipush 272, 3) := by decide +kernel
theorem dX10_init_16 : decode cX10_init 16 = .ok (.newarray .int, 2) := by decide +kernel
theorem dX10_init_18 : decode cX10_init 18 = .ok (.putfield 13, 3) := by decide +kernel
theorem dX10_init_21 : decode cX10_init 21 = .ok (.aload_n 0, 1) := by decide +kernel
theorem dX10_init_22 : decode cX10_init 22 = .ok (.bipush 68, 2) := by decide +kernel
theorem dX10_init_24 : decode cX10_init 24 = .ok (.newarray .int, 2) := by decide +kernel
theorem dX10_init_26 : decode cX10_init 26 = .ok (.putfield 16, 3) := by decide +kernel
theorem dX10_init_29 : decode cX10_init 29 = .ok (.aload_n 0, 1) := by decide +kernel
theorem dX10_init_30 : decode cX10_init 30 = .ok (.bipush 80, 2) := by decide +kernel
theorem dX10_init_32 : decode cX10_init 32 = .ok (.newarray .char, 2) := by decide +kernel
theorem dX10_init_34 : decode cX10_init 34 = .ok (.putfield 19, 3) := by decide +kernel
theorem dX10_init_37 : decode cX10_init 37 = .ok (.aload_n 0, 1) := by decide +kernel
theorem dX10_init_38 : decode cX10_init 38 = .ok (.bipush 34, 2) := by decide +kernel
theorem dX10_init_40 : decode cX10_init 40 = .ok (.newarray .int, 2) := by decide +kernel
theorem dX10_init_42 : decode cX10_init 42 = .ok (.putfield 23, 3) := by decide +kernel
theorem dX10_init_45 : decode cX10_init 45 = .ok (.aload_n 0, 1) := by decide +kernel
theorem dX10_init_46 : decode cX10_init 46 = .ok (.bipush 16, 2) := by decide +kernel
theorem dX10_init_48 : decode cX10_init 48 = .ok (.newarray .int, 2) := by decide +kernel
theorem dX10_init_50 : decode cX10_init 50 = .ok (.putfield 26, 3) := by decide +kernel
theorem dX10_init_53 : decode cX10_init 53 = .ok (.aload_n 0, 1) := by decide +kernel
theorem dX10_init_54 : decode cX10_init 54 = .ok (.sipush 256, 3) := by decide +kernel
theorem dX10_init_57 : decode cX10_init 57 = .ok (.newarray .int, 2) := by decide +kernel
theorem dX10_init_59 : decode cX10_init 59 = .ok (.putfield 29, 3) := by decide +kernel
theorem dX10_init_62 : decode cX10_init 62 = .ok (.aload_n 0, 1) := by decide +kernel
theorem dX10_init_63 : decode cX10_init 63 = .ok (.sipush 256, 3) := by decide +kernel
theorem dX10_init_66 : decode cX10_init 66 = .ok (.newarray .int, 2) := by decide +kernel
theorem dX10_init_68 : decode cX10_init 68 = .ok (.putfield 32, 3) := by decide +kernel
theorem dX10_init_71 : decode cX10_init 71 = .ok (.aload_n 0, 1) := by decide +kernel
theorem dX10_init_72 : decode cX10_init 72 = .ok (.sipush 256, 3) := by decide +kernel
theorem dX10_init_75 : decode cX10_init 75 = .ok (.newarray .int, 2) := by decide +kernel
theorem dX10_init_77 : decode cX10_init 77 = .ok (.putfield 35, 3) := by decide +kernel
theorem dX10_init_80 : decode cX10_init 80 = .ok (.aload_n 0, 1) := by decide +kernel
theorem dX10_init_81 : decode cX10_init 81 = .ok (.sipush 256, 3) := by decide +kernel
theorem dX10_init_84 : decode cX10_init 84 = .ok (.newarray .int, 2) := by decide +kernel
theorem dX10_init_86 : decode cX10_init 86 = .ok (.putfield 38, 3) := by decide +kernel
theorem dX10_init_89 : decode cX10_init 89 = .ok (.aload_n 0, 1) := by decide +kernel
theorem dX10_init_90 : decode cX10_init 90 = .ok (.sipush 256, 3) := by decide +kernel
theorem dX10_init_93 : decode cX10_init 93 = .ok (.newarray .int, 2) := by decide +kernel
theorem dX10_init_95 : decode cX10_init 95 = .ok (.putfield 41, 3) := by decide +kernel
theorem dX10_init_98 : decode cX10_init 98 = .ok (.aload_n 0, 1) := by decide +kernel
theorem dX10_init_99 : decode cX10_init 99 = .ok (.sipush 20480, 3) := by decide +kernel
theorem dX10_init_102 : decode cX10_init 102 = .ok (.newarray .int, 2) := by decide +kernel
theorem dX10_init_104 : decode cX10_init 104 = .ok (.putfield 44, 3) := by decide +kernel
theorem dX10_init_107 : decode cX10_init 107 = .ok (.aload_n 0, 1) := by decide +kernel
theorem dX10_init_108 : decode cX10_init 108 = .ok (.sipush 20480, 3) := by decide +kernel
theorem dX10_init_111 : decode cX10_init 111 = .ok (.newarray .int, 2) := by decide +kernel
theorem dX10_init_113 : decode cX10_init 113 = .ok (.putfield 47, 3) := by decide +kernel
theorem dX10_init_116 : decode cX10_init 116 = .ok (.aload_n 0, 1) := by decide +kernel
theorem dX10_init_117 : decode cX10_init 117 = .ok (.bipush 16, 2) := by decide +kernel
theorem dX10_init_119 : decode cX10_init 119 = .ok (.newarray .int, 2) := by decide +kernel
theorem dX10_init_121 : decode cX10_init 121 = .ok (.putfield 50, 3) := by decide +kernel
theorem dX10_init_124 : decode cX10_init 124 = .ok (.aload_n 0, 1) := by decide +kernel
theorem dX10_init_125 : decode cX10_init 125 = .ok (.bipush 16, 2) := by decide +kernel
theorem dX10_init_127 : decode cX10_init 127 = .ok (.newarray .int, 2) := by decide +kernel
theorem dX10_init_129 : decode cX10_init 129 = .ok (.putfield 53, 3) := by decide +kernel
theorem dX10_init_132 : decode cX10_init 132 = .ok (.aload_n 0, 1) := by decide +kernel
theorem dX10_init_133 : decode cX10_init 133 = .ok (.getfield 7, 3) := by decide +kernel
theorem dX10_init_136 : decode cX10_init 136 = .ok (.iconst 0, 1) := by decide +kernel
theorem dX10_init_137 : decode cX10_init 137 = .ok (.invokestatic 56, 3) := by decide +kernel
theorem dX10_init_140 : decode cX10_init 140 = .ok (.aload_n 0, 1) := by decide +kernel
theorem dX10_init_141 : decode cX10_init 141 = .ok (.getfield 7, 3) := by decide +kernel
theorem dX10_init_144 : decode cX10_init 144 = .ok (.bipush 34, 2) := by decide +kernel
theorem dX10_init_146 : decode cX10_init 146 = .ok (.invokestatic 56, 3) := by decide +kernel
theorem dX10_init_149 : decode cX10_init 149 = .ok (.return_, 1) := by decide +kernel
theorem dX10_in_0 : decode cX10_in 0 = .ok (.iload_n 0, 1) := by decide +kernel
theorem dX10_in_1 : decode cX10_in 1 = .ok (.iload_n 1, 1) := by decide +kernel
theorem dX10_in_2 : decode cX10_in 2 = .ok (.if_icmp .lt 12, 3) := by decide +kernel
theorem dX10_in_5 : decode cX10_in 5 = .ok (.iload_n 0, 1) := by decide +kernel
theorem dX10_in_6 : decode cX10_in 6 = .ok (.iload_n 2, 1) := by decide +kernel
theorem dX10_in_7 : decode cX10_in 7 = .ok (.if_icmp .gt 7, 3) := by decide +kernel
theorem dX10_in_10 : decode cX10_in 10 = .ok (.iconst 1, 1) := by decide +kernel
theorem dX10_in_11 : decode cX10_in 11 = .ok (.goto 4, 3) := by decide +kernel
theorem dX10_in_14 : decode cX10_in 14 = .ok (.iconst 0, 1) := by decide +kernel
theorem dX10_in_15 : decode cX10_in 15 = .ok (.ireturn, 1) := by decide +kernel
theorem dX10_lays_0 : decode cX10_lays 0 = .ok (.iconst 0, 1) := by decide +kernel
theorem dX10_lays_1 : decode cX10_lays 1 = .ok (.istore_n 2, 1) := by decide +kernel
theorem dX10_lays_2 : decode cX10_lays 2 = .ok (.iload_n 2, 1) := by decide +kernel
theorem dX10_lays_3 : decode cX10_lays 3 = .ok (.bipush 34, 2) := by decide +kernel
theorem dX10_lays_5 : decode cX10_lays 5 = .ok (.if_icmp .ge 36, 3) := by decide +kernel
theorem dX10_lays_8 : decode cX10_lays 8 = .ok (.aload_n 0, 1) := by decide +kernel
theorem dX10_lays_9 : decode cX10_lays 9 = .ok (.iload_n 1, 1) := by decide +kernel
theorem dX10_lays_10 : decode cX10_lays 10 = .ok (.iload_n 2, 1) := by decide +kernel
theorem dX10_lays_11 : decode cX10_lays 11 = .ok (.iadd, 1) := by decide +kernel
theorem dX10_lays_12 : decode cX10_lays 12 = .ok (.iload_n 2, 1) := by decide +kernel
theorem dX10_lays_13 : decode cX10_lays 13 = .ok (.iconst 2, 1) := by decide +kernel
theorem dX10_lays_14 : decode cX10_lays 14 = .ok (.if_icmp .lt 9, 3) := by decide +kernel
theorem dX10_lays_17 : decode cX10_lays 17 = .ok (.iload_n 2, 1) := by decide +kernel
theorem dX10_lays_18 : decode cX10_lays 18 = .ok (.bipush 6, 2) := by decide +kernel
theorem dX10_lays_20 : decode cX10_lays 20 = .ok (.if_icmp .lt 8, 3) := by decide +kernel
theorem dX10_lays_23 : decode cX10_lays 23 = .ok (.iload_n 2, 1) := by decide +kernel
theorem dX10_lays_24 : decode cX10_lays 24 = .ok (.iconst 1, 1) := by decide +kernel
theorem dX10_lays_25 : decode cX10_lays 25 = .ok (.if_icmp .ne 8, 3) := by decide +kernel
theorem dX10_lays_28 : decode cX10_lays 28 = .ok (.bipush 14, 2) := by decide +kernel
theorem dX10_lays_30 : decode cX10_lays 30 = .ok (.goto 4, 3) := by decide +kernel
theorem dX10_lays_33 : decode cX10_lays 33 = .ok (.iconst 0, 1) := by decide +kernel
theorem dX10_lays_34 : decode cX10_lays 34 = .ok (.iastore, 1) := by decide +kernel
theorem dX10_lays_35 : decode cX10_lays 35 = .ok (.iinc 2 1, 3) := by decide +kernel
theorem dX10_lays_38 : decode cX10_lays 38 = .ok (.goto (-36), 3) := by decide +kernel
theorem dX10_lays_41 : decode cX10_lays 41 = .ok (.return_, 1) := by decide +kernel
theorem dX10_of_0 : decode cX10_of 0 = .ok (.aload_n 0, 1) := by decide +kernel
theorem dX10_of_1 : decode cX10_of 1 = .ok (.getfield 7, 3) := by decide +kernel
theorem dX10_of_4 : decode cX10_of 4 = .ok (.bipush 34, 2) := by decide +kernel
theorem dX10_of_6 : decode cX10_of 6 = .ok (.iload_n 1, 1) := by decide +kernel
theorem dX10_of_7 : decode cX10_of 7 = .ok (.imul, 1) := by decide +kernel
theorem dX10_of_8 : decode cX10_of 8 = .ok (.iload_n 2, 1) := by decide +kernel
theorem dX10_of_9 : decode cX10_of 9 = .ok (.iadd, 1) := by decide +kernel
theorem dX10_of_10 : decode cX10_of 10 = .ok (.iaload, 1) := by decide +kernel
theorem dX10_of_11 : decode cX10_of 11 = .ok (.ireturn, 1) := by decide +kernel
theorem dX10_keeps_0 : decode cX10_keeps 0 = .ok (.iconst 0, 1) := by decide +kernel
theorem dX10_keeps_1 : decode cX10_keeps 1 = .ok (.istore_n 1, 1) := by decide +kernel
theorem dX10_keeps_2 : decode cX10_keeps 2 = .ok (.iload_n 1, 1) := by decide +kernel
theorem dX10_keeps_3 : decode cX10_keeps 3 = .ok (.bipush 68, 2) := by decide +kernel
theorem dX10_keeps_5 : decode cX10_keeps 5 = .ok (.if_icmp .ge 21, 3) := by decide +kernel
theorem dX10_keeps_8 : decode cX10_keeps 8 = .ok (.aload_n 0, 1) := by decide +kernel
theorem dX10_keeps_9 : decode cX10_keeps 9 = .ok (.getfield 16, 3) := by decide +kernel
theorem dX10_keeps_12 : decode cX10_keeps 12 = .ok (.iload_n 1, 1) := by decide +kernel
theorem dX10_keeps_13 : decode cX10_keeps 13 = .ok (.aload_n 0, 1) := by decide +kernel
theorem dX10_keeps_14 : decode cX10_keeps 14 = .ok (.getfield 7, 3) := by decide +kernel
theorem dX10_keeps_17 : decode cX10_keeps 17 = .ok (.iload_n 1, 1) := by decide +kernel
theorem dX10_keeps_18 : decode cX10_keeps 18 = .ok (.iaload, 1) := by decide +kernel
theorem dX10_keeps_19 : decode cX10_keeps 19 = .ok (.iastore, 1) := by decide +kernel
theorem dX10_keeps_20 : decode cX10_keeps 20 = .ok (.iinc 1 1, 3) := by decide +kernel
theorem dX10_keeps_23 : decode cX10_keeps 23 = .ok (.goto (-21), 3) := by decide +kernel
theorem dX10_keeps_26 : decode cX10_keeps 26 = .ok (.return_, 1) := by decide +kernel
theorem dX10_acted_0 : decode cX10_acted 0 = .ok (.iload_n 1, 1) := by decide +kernel
theorem dX10_acted_1 : decode cX10_acted 1 = .ok (.ldc 60, 2) := by decide +kernel
theorem dX10_acted_3 : decode cX10_acted 3 = .ok (.if_icmp .le 95, 3) := by decide +kernel
theorem dX10_acted_6 : decode cX10_acted 6 = .ok (.aload_n 0, 1) := by decide +kernel
theorem dX10_acted_7 : decode cX10_acted 7 = .ok (.getfield 61, 3) := by decide +kernel
theorem dX10_acted_10 : decode cX10_acted 10 = .ok (.iconst 4, 1) := by decide +kernel
theorem dX10_acted_11 : decode cX10_acted 11 = .ok (.if_icmp .ne 43, 3) := by decide +kernel
theorem dX10_acted_14 : decode cX10_acted 14 = .ok (.iconst 0, 1) := by decide +kernel
theorem dX10_acted_15 : decode cX10_acted 15 = .ok (.istore_n 2, 1) := by decide +kernel
theorem dX10_acted_16 : decode cX10_acted 16 = .ok (.iload_n 2, 1) := by decide +kernel
theorem dX10_acted_17 : decode cX10_acted 17 = .ok (.sipush 204, 3) := by decide +kernel
theorem dX10_acted_20 : decode cX10_acted 20 = .ok (.if_icmp .ge 24, 3) := by decide +kernel
theorem dX10_acted_23 : decode cX10_acted 23 = .ok (.aload_n 0, 1) := by decide +kernel
theorem dX10_acted_24 : decode cX10_acted 24 = .ok (.getfield 13, 3) := by decide +kernel
theorem dX10_acted_27 : decode cX10_acted 27 = .ok (.iload_n 2, 1) := by decide +kernel
theorem dX10_acted_28 : decode cX10_acted 28 = .ok (.aload_n 0, 1) := by decide +kernel
theorem dX10_acted_29 : decode cX10_acted 29 = .ok (.getfield 13, 3) := by decide +kernel
theorem dX10_acted_32 : decode cX10_acted 32 = .ok (.iload_n 2, 1) := by decide +kernel
theorem dX10_acted_33 : decode cX10_acted 33 = .ok (.bipush 68, 2) := by decide +kernel
theorem dX10_acted_35 : decode cX10_acted 35 = .ok (.iadd, 1) := by decide +kernel
theorem dX10_acted_36 : decode cX10_acted 36 = .ok (.iaload, 1) := by decide +kernel
theorem dX10_acted_37 : decode cX10_acted 37 = .ok (.iastore, 1) := by decide +kernel
theorem dX10_acted_38 : decode cX10_acted 38 = .ok (.iinc 2 1, 3) := by decide +kernel
theorem dX10_acted_41 : decode cX10_acted 41 = .ok (.goto (-25), 3) := by decide +kernel
theorem dX10_acted_44 : decode cX10_acted 44 = .ok (.aload_n 0, 1) := by decide +kernel
theorem dX10_acted_45 : decode cX10_acted 45 = .ok (.dup, 1) := by decide +kernel
theorem dX10_acted_46 : decode cX10_acted 46 = .ok (.getfield 61, 3) := by decide +kernel
theorem dX10_acted_49 : decode cX10_acted 49 = .ok (.iconst 1, 1) := by decide +kernel
theorem dX10_acted_50 : decode cX10_acted 50 = .ok (.isub, 1) := by decide +kernel
theorem dX10_acted_51 : decode cX10_acted 51 = .ok (.putfield 61, 3) := by decide +kernel
theorem dX10_acted_54 : decode cX10_acted 54 = .ok (.iconst 0, 1) := by decide +kernel
theorem dX10_acted_55 : decode cX10_acted 55 = .ok (.istore_n 2, 1) := by decide +kernel
theorem dX10_acted_56 : decode cX10_acted 56 = .ok (.iload_n 2, 1) := by decide +kernel
theorem dX10_acted_57 : decode cX10_acted 57 = .ok (.bipush 68, 2) := by decide +kernel
theorem dX10_acted_59 : decode cX10_acted 59 = .ok (.if_icmp .ge 29, 3) := by decide +kernel
theorem dX10_acted_62 : decode cX10_acted 62 = .ok (.aload_n 0, 1) := by decide +kernel
theorem dX10_acted_63 : decode cX10_acted 63 = .ok (.getfield 13, 3) := by decide +kernel
theorem dX10_acted_66 : decode cX10_acted 66 = .ok (.bipush 68, 2) := by decide +kernel
theorem dX10_acted_68 : decode cX10_acted 68 = .ok (.aload_n 0, 1) := by decide +kernel
theorem dX10_acted_69 : decode cX10_acted 69 = .ok (.getfield 61, 3) := by decide +kernel
theorem dX10_acted_72 : decode cX10_acted 72 = .ok (.imul, 1) := by decide +kernel
theorem dX10_acted_73 : decode cX10_acted 73 = .ok (.iload_n 2, 1) := by decide +kernel
theorem dX10_acted_74 : decode cX10_acted 74 = .ok (.iadd, 1) := by decide +kernel
theorem dX10_acted_75 : decode cX10_acted 75 = .ok (.aload_n 0, 1) := by decide +kernel
theorem dX10_acted_76 : decode cX10_acted 76 = .ok (.getfield 16, 3) := by decide +kernel
theorem dX10_acted_79 : decode cX10_acted 79 = .ok (.iload_n 2, 1) := by decide +kernel
theorem dX10_acted_80 : decode cX10_acted 80 = .ok (.iaload, 1) := by decide +kernel
theorem dX10_acted_81 : decode cX10_acted 81 = .ok (.iastore, 1) := by decide +kernel
theorem dX10_acted_82 : decode cX10_acted 82 = .ok (.iinc 2 1, 3) := by decide +kernel
theorem dX10_acted_85 : decode cX10_acted 85 = .ok (.goto (-29), 3) := by decide +kernel
theorem dX10_acted_88 : decode cX10_acted 88 = .ok (.aload_n 0, 1) := by decide +kernel
theorem dX10_acted_89 : decode cX10_acted 89 = .ok (.dup, 1) := by decide +kernel
theorem dX10_acted_90 : decode cX10_acted 90 = .ok (.getfield 61, 3) := by decide +kernel
theorem dX10_acted_93 : decode cX10_acted 93 = .ok (.iconst 1, 1) := by decide +kernel
theorem dX10_acted_94 : decode cX10_acted 94 = .ok (.iadd, 1) := by decide +kernel
theorem dX10_acted_95 : decode cX10_acted 95 = .ok (.putfield 61, 3) := by decide +kernel
theorem dX10_acted_98 : decode cX10_acted 98 = .ok (.iload_n 1, 1) := by decide +kernel
theorem dX10_acted_99 : decode cX10_acted 99 = .ok (.ireturn, 1) := by decide +kernel
theorem dX10_isAllowed_0 : decode cX10_isAllowed 0 = .ok (.iload_n 1, 1) := by decide +kernel
theorem dX10_isAllowed_1 : decode cX10_isAllowed 1 = .ok (.iconst 0, 1) := by decide +kernel
theorem dX10_isAllowed_2 : decode cX10_isAllowed 2 = .ok (.iconst 5, 1) := by decide +kernel
theorem dX10_isAllowed_3 : decode cX10_isAllowed 3 = .ok (.iload_n 0, 1) := by decide +kernel
theorem dX10_isAllowed_4 : decode cX10_isAllowed 4 = .ok (.iadd, 1) := by decide +kernel
theorem dX10_isAllowed_5 : decode cX10_isAllowed 5 = .ok (.invokestatic 65, 3) := by decide +kernel
theorem dX10_isAllowed_8 : decode cX10_isAllowed 8 = .ok (.ifCond .ne 14, 3) := by decide +kernel
theorem dX10_isAllowed_11 : decode cX10_isAllowed 11 = .ok (.iload_n 1, 1) := by decide +kernel
theorem dX10_isAllowed_12 : decode cX10_isAllowed 12 = .ok (.bipush 14, 2) := by decide +kernel
theorem dX10_isAllowed_14 : decode cX10_isAllowed 14 = .ok (.bipush 15, 2) := by decide +kernel
theorem dX10_isAllowed_16 : decode cX10_isAllowed 16 = .ok (.invokestatic 65, 3) := by decide +kernel
theorem dX10_isAllowed_19 : decode cX10_isAllowed 19 = .ok (.ifCond .eq 7, 3) := by decide +kernel
theorem dX10_isAllowed_22 : decode cX10_isAllowed 22 = .ok (.iconst 1, 1) := by decide +kernel
theorem dX10_isAllowed_23 : decode cX10_isAllowed 23 = .ok (.goto 4, 3) := by decide +kernel
theorem dX10_isAllowed_26 : decode cX10_isAllowed 26 = .ok (.iconst 0, 1) := by decide +kernel
theorem dX10_isAllowed_27 : decode cX10_isAllowed 27 = .ok (.ireturn, 1) := by decide +kernel
theorem dX10_gate_0 : decode cX10_gate 0 = .ok (.iload_n 1, 1) := by decide +kernel
theorem dX10_gate_1 : decode cX10_gate 1 = .ok (.iconst 0, 1) := by decide +kernel
theorem dX10_gate_2 : decode cX10_gate 2 = .ok (.iconst 1, 1) := by decide +kernel
theorem dX10_gate_3 : decode cX10_gate 3 = .ok (.invokestatic 65, 3) := by decide +kernel
theorem dX10_gate_6 : decode cX10_gate 6 = .ok (.ifCond .eq 44, 3) := by decide +kernel
theorem dX10_gate_9 : decode cX10_gate 9 = .ok (.iload_n 2, 1) := by decide +kernel
theorem dX10_gate_10 : decode cX10_gate 10 = .ok (.iconst 0, 1) := by decide +kernel
theorem dX10_gate_11 : decode cX10_gate 11 = .ok (.aload_n 0, 1) := by decide +kernel
theorem dX10_gate_12 : decode cX10_gate 12 = .ok (.iload_n 1, 1) := by decide +kernel
theorem dX10_gate_13 : decode cX10_gate 13 = .ok (.iconst 0, 1) := by decide +kernel
theorem dX10_gate_14 : decode cX10_gate 14 = .ok (.invokevirtual 69, 3) := by decide +kernel
theorem dX10_gate_17 : decode cX10_gate 17 = .ok (.invokestatic 65, 3) := by decide +kernel
theorem dX10_gate_20 : decode cX10_gate 20 = .ok (.ifCond .eq 30, 3) := by decide +kernel
theorem dX10_gate_23 : decode cX10_gate 23 = .ok (.iload_n 3, 1) := by decide +kernel
theorem dX10_gate_24 : decode cX10_gate 24 = .ok (.iconst 0, 1) := by decide +kernel
theorem dX10_gate_25 : decode cX10_gate 25 = .ok (.iconst 5, 1) := by decide +kernel
theorem dX10_gate_26 : decode cX10_gate 26 = .ok (.invokestatic 65, 3) := by decide +kernel
theorem dX10_gate_29 : decode cX10_gate 29 = .ok (.ifCond .eq 21, 3) := by decide +kernel
theorem dX10_gate_32 : decode cX10_gate 32 = .ok (.iload_n 2, 1) := by decide +kernel
theorem dX10_gate_33 : decode cX10_gate 33 = .ok (.iload 4, 2) := by decide +kernel
theorem dX10_gate_35 : decode cX10_gate 35 = .ok (.invokestatic 73, 3) := by decide +kernel
theorem dX10_gate_38 : decode cX10_gate 38 = .ok (.ifCond .eq 12, 3) := by decide +kernel
theorem dX10_gate_41 : decode cX10_gate 41 = .ok (.iload_n 2, 1) := by decide +kernel
theorem dX10_gate_42 : decode cX10_gate 42 = .ok (.iload 5, 2) := by decide +kernel
theorem dX10_gate_44 : decode cX10_gate 44 = .ok (.invokestatic 73, 3) := by decide +kernel
theorem dX10_gate_47 : decode cX10_gate 47 = .ok (.ifCond .ne 6, 3) := by decide +kernel
theorem dX10_gate_50 : decode cX10_gate 50 = .ok (.ldc 60, 2) := by decide +kernel
theorem dX10_gate_52 : decode cX10_gate 52 = .ok (.ireturn, 1) := by decide +kernel
theorem dX10_gate_53 : decode cX10_gate 53 = .ok (.iload_n 2, 1) := by decide +kernel
theorem dX10_gate_54 : decode cX10_gate 54 = .ok (.bipush 8, 2) := by decide +kernel
theorem dX10_gate_56 : decode cX10_gate 56 = .ok (.if_icmp .ne 6, 3) := by decide +kernel
theorem dX10_gate_59 : decode cX10_gate 59 = .ok (.ldc 77, 2) := by decide +kernel
theorem dX10_gate_61 : decode cX10_gate 61 = .ok (.ireturn, 1) := by decide +kernel
theorem dX10_gate_62 : decode cX10_gate 62 = .ok (.aload_n 0, 1) := by decide +kernel
theorem dX10_gate_63 : decode cX10_gate 63 = .ok (.invokevirtual 78, 3) := by decide +kernel
theorem dX10_gate_66 : decode cX10_gate 66 = .ok (.bipush 34, 2) := by decide +kernel
theorem dX10_gate_68 : decode cX10_gate 68 = .ok (.iload_n 1, 1) := by decide +kernel
theorem dX10_gate_69 : decode cX10_gate 69 = .ok (.imul, 1) := by decide +kernel
theorem dX10_gate_70 : decode cX10_gate 70 = .ok (.bipush 10, 2) := by decide +kernel
theorem dX10_gate_72 : decode cX10_gate 72 = .ok (.iadd, 1) := by decide +kernel
theorem dX10_gate_73 : decode cX10_gate 73 = .ok (.iconst 3, 1) := by decide +kernel
theorem dX10_gate_74 : decode cX10_gate 74 = .ok (.iload_n 2, 1) := by decide +kernel
theorem dX10_gate_75 : decode cX10_gate 75 = .ok (.imul, 1) := by decide +kernel
theorem dX10_gate_76 : decode cX10_gate 76 = .ok (.iadd, 1) := by decide +kernel
theorem dX10_gate_77 : decode cX10_gate 77 = .ok (.istore 6, 2) := by decide +kernel
theorem dX10_gate_79 : decode cX10_gate 79 = .ok (.aload_n 0, 1) := by decide +kernel
theorem dX10_gate_80 : decode cX10_gate 80 = .ok (.getfield 7, 3) := by decide +kernel
theorem dX10_gate_83 : decode cX10_gate 83 = .ok (.iload 6, 2) := by decide +kernel
theorem dX10_gate_85 : decode cX10_gate 85 = .ok (.iload_n 3, 1) := by decide +kernel
theorem dX10_gate_86 : decode cX10_gate 86 = .ok (.iastore, 1) := by decide +kernel
theorem dX10_gate_87 : decode cX10_gate 87 = .ok (.aload_n 0, 1) := by decide +kernel
theorem dX10_gate_88 : decode cX10_gate 88 = .ok (.getfield 7, 3) := by decide +kernel
theorem dX10_gate_91 : decode cX10_gate 91 = .ok (.iload 6, 2) := by decide +kernel
theorem dX10_gate_93 : decode cX10_gate 93 = .ok (.iconst 1, 1) := by decide +kernel
theorem dX10_gate_94 : decode cX10_gate 94 = .ok (.iadd, 1) := by decide +kernel
theorem dX10_gate_95 : decode cX10_gate 95 = .ok (.iload 4, 2) := by decide +kernel
theorem dX10_gate_97 : decode cX10_gate 97 = .ok (.iastore, 1) := by decide +kernel
theorem dX10_gate_98 : decode cX10_gate 98 = .ok (.aload_n 0, 1) := by decide +kernel
theorem dX10_gate_99 : decode cX10_gate 99 = .ok (.getfield 7, 3) := by decide +kernel
theorem dX10_gate_102 : decode cX10_gate 102 = .ok (.iload 6, 2) := by decide +kernel
theorem dX10_gate_104 : decode cX10_gate 104 = .ok (.iconst 2, 1) := by decide +kernel
theorem dX10_gate_105 : decode cX10_gate 105 = .ok (.iadd, 1) := by decide +kernel
theorem dX10_gate_106 : decode cX10_gate 106 = .ok (.iload 5, 2) := by decide +kernel
theorem dX10_gate_108 : decode cX10_gate 108 = .ok (.iastore, 1) := by decide +kernel
theorem dX10_gate_109 : decode cX10_gate 109 = .ok (.aload_n 0, 1) := by decide +kernel
theorem dX10_gate_110 : decode cX10_gate 110 = .ok (.getfield 7, 3) := by decide +kernel
theorem dX10_gate_113 : decode cX10_gate 113 = .ok (.bipush 34, 2) := by decide +kernel
theorem dX10_gate_115 : decode cX10_gate 115 = .ok (.iload_n 1, 1) := by decide +kernel
theorem dX10_gate_116 : decode cX10_gate 116 = .ok (.imul, 1) := by decide +kernel
theorem dX10_gate_117 : decode cX10_gate 117 = .ok (.dup2, 1) := by decide +kernel
theorem dX10_gate_118 : decode cX10_gate 118 = .ok (.iaload, 1) := by decide +kernel
theorem dX10_gate_119 : decode cX10_gate 119 = .ok (.iload_n 2, 1) := by decide +kernel
theorem dX10_gate_120 : decode cX10_gate 120 = .ok (.aload_n 0, 1) := by decide +kernel
theorem dX10_gate_121 : decode cX10_gate 121 = .ok (.iload_n 1, 1) := by decide +kernel
theorem dX10_gate_122 : decode cX10_gate 122 = .ok (.iconst 0, 1) := by decide +kernel
theorem dX10_gate_123 : decode cX10_gate 123 = .ok (.invokevirtual 69, 3) := by decide +kernel
theorem dX10_gate_126 : decode cX10_gate 126 = .ok (.if_icmp .ne 7, 3) := by decide +kernel
theorem dX10_gate_129 : decode cX10_gate 129 = .ok (.iconst 1, 1) := by decide +kernel
theorem dX10_gate_130 : decode cX10_gate 130 = .ok (.goto 4, 3) := by decide +kernel
theorem dX10_gate_133 : decode cX10_gate 133 = .ok (.iconst 0, 1) := by decide +kernel
theorem dX10_gate_134 : decode cX10_gate 134 = .ok (.iadd, 1) := by decide +kernel
theorem dX10_gate_135 : decode cX10_gate 135 = .ok (.iastore, 1) := by decide +kernel
theorem dX10_gate_136 : decode cX10_gate 136 = .ok (.aload_n 0, 1) := by decide +kernel
theorem dX10_gate_137 : decode cX10_gate 137 = .ok (.aload_n 0, 1) := by decide +kernel
theorem dX10_gate_138 : decode cX10_gate 138 = .ok (.iload_n 1, 1) := by decide +kernel
theorem dX10_gate_139 : decode cX10_gate 139 = .ok (.iconst 0, 1) := by decide +kernel
theorem dX10_gate_140 : decode cX10_gate 140 = .ok (.invokevirtual 69, 3) := by decide +kernel
theorem dX10_gate_143 : decode cX10_gate 143 = .ok (.invokevirtual 81, 3) := by decide +kernel
theorem dX10_gate_146 : decode cX10_gate 146 = .ok (.ireturn, 1) := by decide +kernel
theorem dX10_dropGate_0 : decode cX10_dropGate 0 = .ok (.iload_n 1, 1) := by decide +kernel
theorem dX10_dropGate_1 : decode cX10_dropGate 1 = .ok (.iconst 0, 1) := by decide +kernel
theorem dX10_dropGate_2 : decode cX10_dropGate 2 = .ok (.iconst 1, 1) := by decide +kernel
theorem dX10_dropGate_3 : decode cX10_dropGate 3 = .ok (.invokestatic 65, 3) := by decide +kernel
theorem dX10_dropGate_6 : decode cX10_dropGate 6 = .ok (.ifCond .ne 6, 3) := by decide +kernel
theorem dX10_dropGate_9 : decode cX10_dropGate 9 = .ok (.ldc 60, 2) := by decide +kernel
theorem dX10_dropGate_11 : decode cX10_dropGate 11 = .ok (.ireturn, 1) := by decide +kernel
theorem dX10_dropGate_12 : decode cX10_dropGate 12 = .ok (.aload_n 0, 1) := by decide +kernel
theorem dX10_dropGate_13 : decode cX10_dropGate 13 = .ok (.iload_n 1, 1) := by decide +kernel
theorem dX10_dropGate_14 : decode cX10_dropGate 14 = .ok (.iconst 0, 1) := by decide +kernel
theorem dX10_dropGate_15 : decode cX10_dropGate 15 = .ok (.invokevirtual 69, 3) := by decide +kernel
theorem dX10_dropGate_18 : decode cX10_dropGate 18 = .ok (.ifCond .ne 6, 3) := by decide +kernel
theorem dX10_dropGate_21 : decode cX10_dropGate 21 = .ok (.ldc 85, 2) := by decide +kernel
theorem dX10_dropGate_23 : decode cX10_dropGate 23 = .ok (.ireturn, 1) := by decide +kernel
theorem dX10_dropGate_24 : decode cX10_dropGate 24 = .ok (.aload_n 0, 1) := by decide +kernel
theorem dX10_dropGate_25 : decode cX10_dropGate 25 = .ok (.invokevirtual 78, 3) := by decide +kernel
theorem dX10_dropGate_28 : decode cX10_dropGate 28 = .ok (.aload_n 0, 1) := by decide +kernel
theorem dX10_dropGate_29 : decode cX10_dropGate 29 = .ok (.getfield 7, 3) := by decide +kernel
theorem dX10_dropGate_32 : decode cX10_dropGate 32 = .ok (.bipush 34, 2) := by decide +kernel
theorem dX10_dropGate_34 : decode cX10_dropGate 34 = .ok (.iload_n 1, 1) := by decide +kernel
theorem dX10_dropGate_35 : decode cX10_dropGate 35 = .ok (.imul, 1) := by decide +kernel
theorem dX10_dropGate_36 : decode cX10_dropGate 36 = .ok (.dup2, 1) := by decide +kernel
theorem dX10_dropGate_37 : decode cX10_dropGate 37 = .ok (.iaload, 1) := by decide +kernel
theorem dX10_dropGate_38 : decode cX10_dropGate 38 = .ok (.iconst 1, 1) := by decide +kernel
theorem dX10_dropGate_39 : decode cX10_dropGate 39 = .ok (.isub, 1) := by decide +kernel
theorem dX10_dropGate_40 : decode cX10_dropGate 40 = .ok (.iastore, 1) := by decide +kernel
theorem dX10_dropGate_41 : decode cX10_dropGate 41 = .ok (.aload_n 0, 1) := by decide +kernel
theorem dX10_dropGate_42 : decode cX10_dropGate 42 = .ok (.aload_n 0, 1) := by decide +kernel
theorem dX10_dropGate_43 : decode cX10_dropGate 43 = .ok (.iload_n 1, 1) := by decide +kernel
theorem dX10_dropGate_44 : decode cX10_dropGate 44 = .ok (.iconst 0, 1) := by decide +kernel
theorem dX10_dropGate_45 : decode cX10_dropGate 45 = .ok (.invokevirtual 69, 3) := by decide +kernel
theorem dX10_dropGate_48 : decode cX10_dropGate 48 = .ok (.invokevirtual 81, 3) := by decide +kernel
theorem dX10_dropGate_51 : decode cX10_dropGate 51 = .ok (.ireturn, 1) := by decide +kernel
theorem dX10_register_0 : decode cX10_register 0 = .ok (.iload_n 1, 1) := by decide +kernel
theorem dX10_register_1 : decode cX10_register 1 = .ok (.iconst 0, 1) := by decide +kernel
theorem dX10_register_2 : decode cX10_register 2 = .ok (.iconst 1, 1) := by decide +kernel
theorem dX10_register_3 : decode cX10_register 3 = .ok (.invokestatic 65, 3) := by decide +kernel
theorem dX10_register_6 : decode cX10_register 6 = .ok (.ifCond .eq 32, 3) := by decide +kernel
theorem dX10_register_9 : decode cX10_register 9 = .ok (.iload_n 2, 1) := by decide +kernel
theorem dX10_register_10 : decode cX10_register 10 = .ok (.iconst 0, 1) := by decide +kernel
theorem dX10_register_11 : decode cX10_register 11 = .ok (.iconst 3, 1) := by decide +kernel
theorem dX10_register_12 : decode cX10_register 12 = .ok (.invokestatic 65, 3) := by decide +kernel
theorem dX10_register_15 : decode cX10_register 15 = .ok (.ifCond .eq 23, 3) := by decide +kernel
theorem dX10_register_18 : decode cX10_register 18 = .ok (.iload_n 3, 1) := by decide +kernel
theorem dX10_register_19 : decode cX10_register 19 = .ok (.iconst 0, 1) := by decide +kernel
theorem dX10_register_20 : decode cX10_register 20 = .ok (.bipush 15, 2) := by decide +kernel
theorem dX10_register_22 : decode cX10_register 22 = .ok (.invokestatic 65, 3) := by decide +kernel
theorem dX10_register_25 : decode cX10_register 25 = .ok (.ifCond .eq 13, 3) := by decide +kernel
theorem dX10_register_28 : decode cX10_register 28 = .ok (.iload 4, 2) := by decide +kernel
theorem dX10_register_30 : decode cX10_register 30 = .ok (.iconst 0, 1) := by decide +kernel
theorem dX10_register_31 : decode cX10_register 31 = .ok (.iconst 1, 1) := by decide +kernel
theorem dX10_register_32 : decode cX10_register 32 = .ok (.invokestatic 65, 3) := by decide +kernel
theorem dX10_register_35 : decode cX10_register 35 = .ok (.ifCond .ne 6, 3) := by decide +kernel
theorem dX10_register_38 : decode cX10_register 38 = .ok (.ldc 60, 2) := by decide +kernel
theorem dX10_register_40 : decode cX10_register 40 = .ok (.ireturn, 1) := by decide +kernel
theorem dX10_register_41 : decode cX10_register 41 = .ok (.aload_n 0, 1) := by decide +kernel
theorem dX10_register_42 : decode cX10_register 42 = .ok (.invokevirtual 78, 3) := by decide +kernel
theorem dX10_register_45 : decode cX10_register 45 = .ok (.bipush 34, 2) := by decide +kernel
theorem dX10_register_47 : decode cX10_register 47 = .ok (.iload_n 1, 1) := by decide +kernel
theorem dX10_register_48 : decode cX10_register 48 = .ok (.imul, 1) := by decide +kernel
theorem dX10_register_49 : decode cX10_register 49 = .ok (.iload_n 2, 1) := by decide +kernel
theorem dX10_register_50 : decode cX10_register 50 = .ok (.iadd, 1) := by decide +kernel
theorem dX10_register_51 : decode cX10_register 51 = .ok (.istore 5, 2) := by decide +kernel
theorem dX10_register_53 : decode cX10_register 53 = .ok (.iconst 2, 1) := by decide +kernel
theorem dX10_register_54 : decode cX10_register 54 = .ok (.aload_n 0, 1) := by decide +kernel
theorem dX10_register_55 : decode cX10_register 55 = .ok (.getfield 7, 3) := by decide +kernel
theorem dX10_register_58 : decode cX10_register 58 = .ok (.iload 5, 2) := by decide +kernel
theorem dX10_register_60 : decode cX10_register 60 = .ok (.iconst 2, 1) := by decide +kernel
theorem dX10_register_61 : decode cX10_register 61 = .ok (.iadd, 1) := by decide +kernel
theorem dX10_register_62 : decode cX10_register 62 = .ok (.iaload, 1) := by decide +kernel
theorem dX10_register_63 : decode cX10_register 63 = .ok (.imul, 1) := by decide +kernel
theorem dX10_register_64 : decode cX10_register 64 = .ok (.aload_n 0, 1) := by decide +kernel
theorem dX10_register_65 : decode cX10_register 65 = .ok (.getfield 7, 3) := by decide +kernel
theorem dX10_register_68 : decode cX10_register 68 = .ok (.iload 5, 2) := by decide +kernel
theorem dX10_register_70 : decode cX10_register 70 = .ok (.bipush 6, 2) := by decide +kernel
theorem dX10_register_72 : decode cX10_register 72 = .ok (.iadd, 1) := by decide +kernel
theorem dX10_register_73 : decode cX10_register 73 = .ok (.iaload, 1) := by decide +kernel
theorem dX10_register_74 : decode cX10_register 74 = .ok (.iadd, 1) := by decide +kernel
theorem dX10_register_75 : decode cX10_register 75 = .ok (.istore 6, 2) := by decide +kernel
theorem dX10_register_77 : decode cX10_register 77 = .ok (.aload_n 0, 1) := by decide +kernel
theorem dX10_register_78 : decode cX10_register 78 = .ok (.getfield 7, 3) := by decide +kernel
theorem dX10_register_81 : decode cX10_register 81 = .ok (.iload 5, 2) := by decide +kernel
theorem dX10_register_83 : decode cX10_register 83 = .ok (.iconst 2, 1) := by decide +kernel
theorem dX10_register_84 : decode cX10_register 84 = .ok (.iadd, 1) := by decide +kernel
theorem dX10_register_85 : decode cX10_register 85 = .ok (.iload_n 3, 1) := by decide +kernel
theorem dX10_register_86 : decode cX10_register 86 = .ok (.iastore, 1) := by decide +kernel
theorem dX10_register_87 : decode cX10_register 87 = .ok (.aload_n 0, 1) := by decide +kernel
theorem dX10_register_88 : decode cX10_register 88 = .ok (.getfield 7, 3) := by decide +kernel
theorem dX10_register_91 : decode cX10_register 91 = .ok (.iload 5, 2) := by decide +kernel
theorem dX10_register_93 : decode cX10_register 93 = .ok (.bipush 6, 2) := by decide +kernel
theorem dX10_register_95 : decode cX10_register 95 = .ok (.iadd, 1) := by decide +kernel
theorem dX10_register_96 : decode cX10_register 96 = .ok (.iload 4, 2) := by decide +kernel
theorem dX10_register_98 : decode cX10_register 98 = .ok (.iastore, 1) := by decide +kernel
theorem dX10_register_99 : decode cX10_register 99 = .ok (.aload_n 0, 1) := by decide +kernel
theorem dX10_register_100 : decode cX10_register 100 = .ok (.iload 6, 2) := by decide +kernel
theorem dX10_register_102 : decode cX10_register 102 = .ok (.invokevirtual 81, 3) := by decide +kernel
theorem dX10_register_105 : decode cX10_register 105 = .ok (.ireturn, 1) := by decide +kernel
theorem dX10_output_0 : decode cX10_output 0 = .ok (.iload_n 1, 1) := by decide +kernel
theorem dX10_output_1 : decode cX10_output 1 = .ok (.iconst 0, 1) := by decide +kernel
theorem dX10_output_2 : decode cX10_output 2 = .ok (.iconst 1, 1) := by decide +kernel
theorem dX10_output_3 : decode cX10_output 3 = .ok (.invokestatic 65, 3) := by decide +kernel
theorem dX10_output_6 : decode cX10_output 6 = .ok (.ifCond .eq 13, 3) := by decide +kernel
theorem dX10_output_9 : decode cX10_output 9 = .ok (.iload_n 2, 1) := by decide +kernel
theorem dX10_output_10 : decode cX10_output 10 = .ok (.iconst 0, 1) := by decide +kernel
theorem dX10_output_11 : decode cX10_output 11 = .ok (.bipush 15, 2) := by decide +kernel
theorem dX10_output_13 : decode cX10_output 13 = .ok (.invokestatic 65, 3) := by decide +kernel
theorem dX10_output_16 : decode cX10_output 16 = .ok (.ifCond .ne 6, 3) := by decide +kernel
theorem dX10_output_19 : decode cX10_output 19 = .ok (.ldc 60, 2) := by decide +kernel
theorem dX10_output_21 : decode cX10_output 21 = .ok (.ireturn, 1) := by decide +kernel
theorem dX10_output_22 : decode cX10_output 22 = .ok (.aload_n 0, 1) := by decide +kernel
theorem dX10_output_23 : decode cX10_output 23 = .ok (.invokevirtual 78, 3) := by decide +kernel
theorem dX10_output_26 : decode cX10_output 26 = .ok (.aload_n 0, 1) := by decide +kernel
theorem dX10_output_27 : decode cX10_output 27 = .ok (.iload_n 1, 1) := by decide +kernel
theorem dX10_output_28 : decode cX10_output 28 = .ok (.iconst 1, 1) := by decide +kernel
theorem dX10_output_29 : decode cX10_output 29 = .ok (.invokevirtual 69, 3) := by decide +kernel
theorem dX10_output_32 : decode cX10_output 32 = .ok (.istore_n 3, 1) := by decide +kernel
theorem dX10_output_33 : decode cX10_output 33 = .ok (.aload_n 0, 1) := by decide +kernel
theorem dX10_output_34 : decode cX10_output 34 = .ok (.getfield 7, 3) := by decide +kernel
theorem dX10_output_37 : decode cX10_output 37 = .ok (.bipush 34, 2) := by decide +kernel
theorem dX10_output_39 : decode cX10_output 39 = .ok (.iload_n 1, 1) := by decide +kernel
theorem dX10_output_40 : decode cX10_output 40 = .ok (.imul, 1) := by decide +kernel
theorem dX10_output_41 : decode cX10_output 41 = .ok (.iconst 1, 1) := by decide +kernel
theorem dX10_output_42 : decode cX10_output 42 = .ok (.iadd, 1) := by decide +kernel
theorem dX10_output_43 : decode cX10_output 43 = .ok (.iload_n 2, 1) := by decide +kernel
theorem dX10_output_44 : decode cX10_output 44 = .ok (.iastore, 1) := by decide +kernel
theorem dX10_output_45 : decode cX10_output 45 = .ok (.aload_n 0, 1) := by decide +kernel
theorem dX10_output_46 : decode cX10_output 46 = .ok (.iload_n 3, 1) := by decide +kernel
theorem dX10_output_47 : decode cX10_output 47 = .ok (.invokevirtual 81, 3) := by decide +kernel
theorem dX10_output_50 : decode cX10_output 50 = .ok (.ireturn, 1) := by decide +kernel
theorem dX10_copy_0 : decode cX10_copy 0 = .ok (.iload_n 1, 1) := by decide +kernel
theorem dX10_copy_1 : decode cX10_copy 1 = .ok (.iconst 0, 1) := by decide +kernel
theorem dX10_copy_2 : decode cX10_copy 2 = .ok (.iconst 1, 1) := by decide +kernel
theorem dX10_copy_3 : decode cX10_copy 3 = .ok (.invokestatic 65, 3) := by decide +kernel
theorem dX10_copy_6 : decode cX10_copy 6 = .ok (.ifCond .ne 6, 3) := by decide +kernel
theorem dX10_copy_9 : decode cX10_copy 9 = .ok (.ldc 60, 2) := by decide +kernel
theorem dX10_copy_11 : decode cX10_copy 11 = .ok (.ireturn, 1) := by decide +kernel
theorem dX10_copy_12 : decode cX10_copy 12 = .ok (.aload_n 0, 1) := by decide +kernel
theorem dX10_copy_13 : decode cX10_copy 13 = .ok (.invokevirtual 78, 3) := by decide +kernel
theorem dX10_copy_16 : decode cX10_copy 16 = .ok (.iconst 0, 1) := by decide +kernel
theorem dX10_copy_17 : decode cX10_copy 17 = .ok (.istore_n 2, 1) := by decide +kernel
theorem dX10_copy_18 : decode cX10_copy 18 = .ok (.iload_n 2, 1) := by decide +kernel
theorem dX10_copy_19 : decode cX10_copy 19 = .ok (.bipush 34, 2) := by decide +kernel
theorem dX10_copy_21 : decode cX10_copy 21 = .ok (.if_icmp .ge 33, 3) := by decide +kernel
theorem dX10_copy_24 : decode cX10_copy 24 = .ok (.aload_n 0, 1) := by decide +kernel
theorem dX10_copy_25 : decode cX10_copy 25 = .ok (.getfield 7, 3) := by decide +kernel
theorem dX10_copy_28 : decode cX10_copy 28 = .ok (.bipush 34, 2) := by decide +kernel
theorem dX10_copy_30 : decode cX10_copy 30 = .ok (.iconst 1, 1) := by decide +kernel
theorem dX10_copy_31 : decode cX10_copy 31 = .ok (.iload_n 1, 1) := by decide +kernel
theorem dX10_copy_32 : decode cX10_copy 32 = .ok (.isub, 1) := by decide +kernel
theorem dX10_copy_33 : decode cX10_copy 33 = .ok (.imul, 1) := by decide +kernel
theorem dX10_copy_34 : decode cX10_copy 34 = .ok (.iload_n 2, 1) := by decide +kernel
theorem dX10_copy_35 : decode cX10_copy 35 = .ok (.iadd, 1) := by decide +kernel
theorem dX10_copy_36 : decode cX10_copy 36 = .ok (.aload_n 0, 1) := by decide +kernel
theorem dX10_copy_37 : decode cX10_copy 37 = .ok (.getfield 16, 3) := by decide +kernel
theorem dX10_copy_40 : decode cX10_copy 40 = .ok (.bipush 34, 2) := by decide +kernel
theorem dX10_copy_42 : decode cX10_copy 42 = .ok (.iload_n 1, 1) := by decide +kernel
theorem dX10_copy_43 : decode cX10_copy 43 = .ok (.imul, 1) := by decide +kernel
theorem dX10_copy_44 : decode cX10_copy 44 = .ok (.iload_n 2, 1) := by decide +kernel
theorem dX10_copy_45 : decode cX10_copy 45 = .ok (.iadd, 1) := by decide +kernel
theorem dX10_copy_46 : decode cX10_copy 46 = .ok (.iaload, 1) := by decide +kernel
theorem dX10_copy_47 : decode cX10_copy 47 = .ok (.iastore, 1) := by decide +kernel
theorem dX10_copy_48 : decode cX10_copy 48 = .ok (.iinc 2 1, 3) := by decide +kernel
theorem dX10_copy_51 : decode cX10_copy 51 = .ok (.goto (-33), 3) := by decide +kernel
theorem dX10_copy_54 : decode cX10_copy 54 = .ok (.aload_n 0, 1) := by decide +kernel
theorem dX10_copy_55 : decode cX10_copy 55 = .ok (.aload_n 0, 1) := by decide +kernel
theorem dX10_copy_56 : decode cX10_copy 56 = .ok (.iload_n 1, 1) := by decide +kernel
theorem dX10_copy_57 : decode cX10_copy 57 = .ok (.iconst 0, 1) := by decide +kernel
theorem dX10_copy_58 : decode cX10_copy 58 = .ok (.invokevirtual 69, 3) := by decide +kernel
theorem dX10_copy_61 : decode cX10_copy 61 = .ok (.invokevirtual 81, 3) := by decide +kernel
theorem dX10_copy_64 : decode cX10_copy 64 = .ok (.ireturn, 1) := by decide +kernel
theorem dX10_works_0 : decode cX10_works 0 = .ok (.iload_n 0, 1) := by decide +kernel
theorem dX10_works_1 : decode cX10_works 1 = .ok (.tableswitch 55 0 4 #[35, 39, 43, 47, 53], 35) := by decide +kernel
theorem dX10_works_36 : decode cX10_works 36 = .ok (.iload_n 1, 1) := by decide +kernel
theorem dX10_works_37 : decode cX10_works 37 = .ok (.iload_n 2, 1) := by decide +kernel
theorem dX10_works_38 : decode cX10_works 38 = .ok (.iand, 1) := by decide +kernel
theorem dX10_works_39 : decode cX10_works 39 = .ok (.ireturn, 1) := by decide +kernel
theorem dX10_works_40 : decode cX10_works 40 = .ok (.iload_n 1, 1) := by decide +kernel
theorem dX10_works_41 : decode cX10_works 41 = .ok (.iload_n 2, 1) := by decide +kernel
theorem dX10_works_42 : decode cX10_works 42 = .ok (.ior, 1) := by decide +kernel
theorem dX10_works_43 : decode cX10_works 43 = .ok (.ireturn, 1) := by decide +kernel
theorem dX10_works_44 : decode cX10_works 44 = .ok (.iload_n 1, 1) := by decide +kernel
theorem dX10_works_45 : decode cX10_works 45 = .ok (.iload_n 2, 1) := by decide +kernel
theorem dX10_works_46 : decode cX10_works 46 = .ok (.ixor, 1) := by decide +kernel
theorem dX10_works_47 : decode cX10_works 47 = .ok (.ireturn, 1) := by decide +kernel
theorem dX10_works_48 : decode cX10_works 48 = .ok (.iconst 1, 1) := by decide +kernel
theorem dX10_works_49 : decode cX10_works 49 = .ok (.iload_n 1, 1) := by decide +kernel
theorem dX10_works_50 : decode cX10_works 50 = .ok (.iload_n 2, 1) := by decide +kernel
theorem dX10_works_51 : decode cX10_works 51 = .ok (.iand, 1) := by decide +kernel
theorem dX10_works_52 : decode cX10_works 52 = .ok (.isub, 1) := by decide +kernel
theorem dX10_works_53 : decode cX10_works 53 = .ok (.ireturn, 1) := by decide +kernel
theorem dX10_works_54 : decode cX10_works 54 = .ok (.iload_n 1, 1) := by decide +kernel
theorem dX10_works_55 : decode cX10_works 55 = .ok (.ireturn, 1) := by decide +kernel
theorem dX10_works_56 : decode cX10_works 56 = .ok (.iconst 1, 1) := by decide +kernel
theorem dX10_works_57 : decode cX10_works 57 = .ok (.iload_n 1, 1) := by decide +kernel
theorem dX10_works_58 : decode cX10_works 58 = .ok (.isub, 1) := by decide +kernel
theorem dX10_works_59 : decode cX10_works 59 = .ok (.ireturn, 1) := by decide +kernel
theorem dX10_lights_0 : decode cX10_lights 0 = .ok (.iconst 0, 1) := by decide +kernel
theorem dX10_lights_1 : decode cX10_lights 1 = .ok (.istore 4, 2) := by decide +kernel
theorem dX10_lights_3 : decode cX10_lights 3 = .ok (.iload 4, 2) := by decide +kernel
theorem dX10_lights_5 : decode cX10_lights 5 = .ok (.bipush 16, 2) := by decide +kernel
theorem dX10_lights_7 : decode cX10_lights 7 = .ok (.if_icmp .ge 61, 3) := by decide +kernel
theorem dX10_lights_10 : decode cX10_lights 10 = .ok (.aload_n 0, 1) := by decide +kernel
theorem dX10_lights_11 : decode cX10_lights 11 = .ok (.getfield 26, 3) := by decide +kernel
theorem dX10_lights_14 : decode cX10_lights 14 = .ok (.iload 4, 2) := by decide +kernel
theorem dX10_lights_16 : decode cX10_lights 16 = .ok (.iload 4, 2) := by decide +kernel
theorem dX10_lights_18 : decode cX10_lights 18 = .ok (.iconst 2, 1) := by decide +kernel
theorem dX10_lights_19 : decode cX10_lights 19 = .ok (.if_icmp .ge 12, 3) := by decide +kernel
theorem dX10_lights_22 : decode cX10_lights 22 = .ok (.iload_n 3, 1) := by decide +kernel
theorem dX10_lights_23 : decode cX10_lights 23 = .ok (.iload 4, 2) := by decide +kernel
theorem dX10_lights_25 : decode cX10_lights 25 = .ok (.ishr, 1) := by decide +kernel
theorem dX10_lights_26 : decode cX10_lights 26 = .ok (.iconst 1, 1) := by decide +kernel
theorem dX10_lights_27 : decode cX10_lights 27 = .ok (.iand, 1) := by decide +kernel
theorem dX10_lights_28 : decode cX10_lights 28 = .ok (.goto 33, 3) := by decide +kernel
theorem dX10_lights_31 : decode cX10_lights 31 = .ok (.iload 4, 2) := by decide +kernel
theorem dX10_lights_33 : decode cX10_lights 33 = .ok (.bipush 6, 2) := by decide +kernel
theorem dX10_lights_35 : decode cX10_lights 35 = .ok (.if_icmp .ge 14, 3) := by decide +kernel
theorem dX10_lights_38 : decode cX10_lights 38 = .ok (.iload_n 2, 1) := by decide +kernel
theorem dX10_lights_39 : decode cX10_lights 39 = .ok (.iload 4, 2) := by decide +kernel
theorem dX10_lights_41 : decode cX10_lights 41 = .ok (.iconst 2, 1) := by decide +kernel
theorem dX10_lights_42 : decode cX10_lights 42 = .ok (.isub, 1) := by decide +kernel
theorem dX10_lights_43 : decode cX10_lights 43 = .ok (.ishr, 1) := by decide +kernel
theorem dX10_lights_44 : decode cX10_lights 44 = .ok (.iconst 1, 1) := by decide +kernel
theorem dX10_lights_45 : decode cX10_lights 45 = .ok (.iand, 1) := by decide +kernel
theorem dX10_lights_46 : decode cX10_lights 46 = .ok (.goto 15, 3) := by decide +kernel
theorem dX10_lights_49 : decode cX10_lights 49 = .ok (.iload 4, 2) := by decide +kernel
theorem dX10_lights_51 : decode cX10_lights 51 = .ok (.bipush 15, 2) := by decide +kernel
theorem dX10_lights_53 : decode cX10_lights 53 = .ok (.if_icmp .ne 7, 3) := by decide +kernel
theorem dX10_lights_56 : decode cX10_lights 56 = .ok (.iconst 1, 1) := by decide +kernel
theorem dX10_lights_57 : decode cX10_lights 57 = .ok (.goto 4, 3) := by decide +kernel
theorem dX10_lights_60 : decode cX10_lights 60 = .ok (.iconst 0, 1) := by decide +kernel
theorem dX10_lights_61 : decode cX10_lights 61 = .ok (.iastore, 1) := by decide +kernel
theorem dX10_lights_62 : decode cX10_lights 62 = .ok (.iinc 4 1, 3) := by decide +kernel
theorem dX10_lights_65 : decode cX10_lights 65 = .ok (.goto (-62), 3) := by decide +kernel
theorem dX10_lights_68 : decode cX10_lights 68 = .ok (.iconst 0, 1) := by decide +kernel
theorem dX10_lights_69 : decode cX10_lights 69 = .ok (.istore 4, 2) := by decide +kernel
theorem dX10_lights_71 : decode cX10_lights 71 = .ok (.iload 4, 2) := by decide +kernel
theorem dX10_lights_73 : decode cX10_lights 73 = .ok (.aload_n 0, 1) := by decide +kernel
theorem dX10_lights_74 : decode cX10_lights 74 = .ok (.iload_n 1, 1) := by decide +kernel
theorem dX10_lights_75 : decode cX10_lights 75 = .ok (.iconst 0, 1) := by decide +kernel
theorem dX10_lights_76 : decode cX10_lights 76 = .ok (.invokevirtual 69, 3) := by decide +kernel
theorem dX10_lights_79 : decode cX10_lights 79 = .ok (.if_icmp .ge 66, 3) := by decide +kernel
theorem dX10_lights_82 : decode cX10_lights 82 = .ok (.bipush 10, 2) := by decide +kernel
theorem dX10_lights_84 : decode cX10_lights 84 = .ok (.iconst 3, 1) := by decide +kernel
theorem dX10_lights_85 : decode cX10_lights 85 = .ok (.iload 4, 2) := by decide +kernel
theorem dX10_lights_87 : decode cX10_lights 87 = .ok (.imul, 1) := by decide +kernel
theorem dX10_lights_88 : decode cX10_lights 88 = .ok (.iadd, 1) := by decide +kernel
theorem dX10_lights_89 : decode cX10_lights 89 = .ok (.istore 5, 2) := by decide +kernel
theorem dX10_lights_91 : decode cX10_lights 91 = .ok (.aload_n 0, 1) := by decide +kernel
theorem dX10_lights_92 : decode cX10_lights 92 = .ok (.getfield 26, 3) := by decide +kernel
theorem dX10_lights_95 : decode cX10_lights 95 = .ok (.bipush 6, 2) := by decide +kernel
theorem dX10_lights_97 : decode cX10_lights 97 = .ok (.iload 4, 2) := by decide +kernel
theorem dX10_lights_99 : decode cX10_lights 99 = .ok (.iadd, 1) := by decide +kernel
theorem dX10_lights_100 : decode cX10_lights 100 = .ok (.aload_n 0, 1) := by decide +kernel
theorem dX10_lights_101 : decode cX10_lights 101 = .ok (.iload_n 1, 1) := by decide +kernel
theorem dX10_lights_102 : decode cX10_lights 102 = .ok (.iload 5, 2) := by decide +kernel
theorem dX10_lights_104 : decode cX10_lights 104 = .ok (.invokevirtual 69, 3) := by decide +kernel
theorem dX10_lights_107 : decode cX10_lights 107 = .ok (.aload_n 0, 1) := by decide +kernel
theorem dX10_lights_108 : decode cX10_lights 108 = .ok (.getfield 26, 3) := by decide +kernel
theorem dX10_lights_111 : decode cX10_lights 111 = .ok (.aload_n 0, 1) := by decide +kernel
theorem dX10_lights_112 : decode cX10_lights 112 = .ok (.iload_n 1, 1) := by decide +kernel
theorem dX10_lights_113 : decode cX10_lights 113 = .ok (.iload 5, 2) := by decide +kernel
theorem dX10_lights_115 : decode cX10_lights 115 = .ok (.iconst 1, 1) := by decide +kernel
theorem dX10_lights_116 : decode cX10_lights 116 = .ok (.iadd, 1) := by decide +kernel
theorem dX10_lights_117 : decode cX10_lights 117 = .ok (.invokevirtual 69, 3) := by decide +kernel
theorem dX10_lights_120 : decode cX10_lights 120 = .ok (.iaload, 1) := by decide +kernel
theorem dX10_lights_121 : decode cX10_lights 121 = .ok (.aload_n 0, 1) := by decide +kernel
theorem dX10_lights_122 : decode cX10_lights 122 = .ok (.getfield 26, 3) := by decide +kernel
theorem dX10_lights_125 : decode cX10_lights 125 = .ok (.aload_n 0, 1) := by decide +kernel
theorem dX10_lights_126 : decode cX10_lights 126 = .ok (.iload_n 1, 1) := by decide +kernel
theorem dX10_lights_127 : decode cX10_lights 127 = .ok (.iload 5, 2) := by decide +kernel
theorem dX10_lights_129 : decode cX10_lights 129 = .ok (.iconst 2, 1) := by decide +kernel
theorem dX10_lights_130 : decode cX10_lights 130 = .ok (.iadd, 1) := by decide +kernel
theorem dX10_lights_131 : decode cX10_lights 131 = .ok (.invokevirtual 69, 3) := by decide +kernel
theorem dX10_lights_134 : decode cX10_lights 134 = .ok (.iaload, 1) := by decide +kernel
theorem dX10_lights_135 : decode cX10_lights 135 = .ok (.invokestatic 86, 3) := by decide +kernel
theorem dX10_lights_138 : decode cX10_lights 138 = .ok (.iastore, 1) := by decide +kernel
theorem dX10_lights_139 : decode cX10_lights 139 = .ok (.iinc 4 1, 3) := by decide +kernel
theorem dX10_lights_142 : decode cX10_lights 142 = .ok (.goto (-71), 3) := by decide +kernel
theorem dX10_lights_145 : decode cX10_lights 145 = .ok (.return_, 1) := by decide +kernel
theorem dX10_out_0 : decode cX10_out 0 = .ok (.aload_n 0, 1) := by decide +kernel
theorem dX10_out_1 : decode cX10_out 1 = .ok (.iload_n 1, 1) := by decide +kernel
theorem dX10_out_2 : decode cX10_out 2 = .ok (.iload_n 2, 1) := by decide +kernel
theorem dX10_out_3 : decode cX10_out 3 = .ok (.iload_n 3, 1) := by decide +kernel
theorem dX10_out_4 : decode cX10_out 4 = .ok (.invokevirtual 90, 3) := by decide +kernel
theorem dX10_out_7 : decode cX10_out 7 = .ok (.aload_n 0, 1) := by decide +kernel
theorem dX10_out_8 : decode cX10_out 8 = .ok (.getfield 26, 3) := by decide +kernel
theorem dX10_out_11 : decode cX10_out 11 = .ok (.aload_n 0, 1) := by decide +kernel
theorem dX10_out_12 : decode cX10_out 12 = .ok (.iload_n 1, 1) := by decide +kernel
theorem dX10_out_13 : decode cX10_out 13 = .ok (.iconst 1, 1) := by decide +kernel
theorem dX10_out_14 : decode cX10_out 14 = .ok (.invokevirtual 69, 3) := by decide +kernel
theorem dX10_out_17 : decode cX10_out 17 = .ok (.iaload, 1) := by decide +kernel
theorem dX10_out_18 : decode cX10_out 18 = .ok (.ireturn, 1) := by decide +kernel
theorem dX10_then_0 : decode cX10_then 0 = .ok (.aload_n 0, 1) := by decide +kernel
theorem dX10_then_1 : decode cX10_then 1 = .ok (.iload_n 1, 1) := by decide +kernel
theorem dX10_then_2 : decode cX10_then 2 = .ok (.iload_n 2, 1) := by decide +kernel
theorem dX10_then_3 : decode cX10_then 3 = .ok (.iload_n 3, 1) := by decide +kernel
theorem dX10_then_4 : decode cX10_then 4 = .ok (.invokevirtual 90, 3) := by decide +kernel
theorem dX10_then_7 : decode cX10_then 7 = .ok (.iconst 0, 1) := by decide +kernel
theorem dX10_then_8 : decode cX10_then 8 = .ok (.istore 4, 2) := by decide +kernel
theorem dX10_then_10 : decode cX10_then 10 = .ok (.iconst 0, 1) := by decide +kernel
theorem dX10_then_11 : decode cX10_then 11 = .ok (.istore 5, 2) := by decide +kernel
theorem dX10_then_13 : decode cX10_then 13 = .ok (.iload 5, 2) := by decide +kernel
theorem dX10_then_15 : decode cX10_then 15 = .ok (.iconst 4, 1) := by decide +kernel
theorem dX10_then_16 : decode cX10_then 16 = .ok (.if_icmp .ge 31, 3) := by decide +kernel
theorem dX10_then_19 : decode cX10_then 19 = .ok (.iload 4, 2) := by decide +kernel
theorem dX10_then_21 : decode cX10_then 21 = .ok (.aload_n 0, 1) := by decide +kernel
theorem dX10_then_22 : decode cX10_then 22 = .ok (.getfield 26, 3) := by decide +kernel
theorem dX10_then_25 : decode cX10_then 25 = .ok (.aload_n 0, 1) := by decide +kernel
theorem dX10_then_26 : decode cX10_then 26 = .ok (.iload_n 1, 1) := by decide +kernel
theorem dX10_then_27 : decode cX10_then 27 = .ok (.iconst 2, 1) := by decide +kernel
theorem dX10_then_28 : decode cX10_then 28 = .ok (.iload 5, 2) := by decide +kernel
theorem dX10_then_30 : decode cX10_then 30 = .ok (.iadd, 1) := by decide +kernel
theorem dX10_then_31 : decode cX10_then 31 = .ok (.invokevirtual 69, 3) := by decide +kernel
theorem dX10_then_34 : decode cX10_then 34 = .ok (.iaload, 1) := by decide +kernel
theorem dX10_then_35 : decode cX10_then 35 = .ok (.iload 5, 2) := by decide +kernel
theorem dX10_then_37 : decode cX10_then 37 = .ok (.ishl, 1) := by decide +kernel
theorem dX10_then_38 : decode cX10_then 38 = .ok (.ior, 1) := by decide +kernel
theorem dX10_then_39 : decode cX10_then 39 = .ok (.istore 4, 2) := by decide +kernel
theorem dX10_then_41 : decode cX10_then 41 = .ok (.iinc 5 1, 3) := by decide +kernel
theorem dX10_then_44 : decode cX10_then 44 = .ok (.goto (-31), 3) := by decide +kernel
theorem dX10_then_47 : decode cX10_then 47 = .ok (.iload 4, 2) := by decide +kernel
theorem dX10_then_49 : decode cX10_then 49 = .ok (.ireturn, 1) := by decide +kernel
theorem dX10_first_0 : decode cX10_first 0 = .ok (.iconst 0, 1) := by decide +kernel
theorem dX10_first_1 : decode cX10_first 1 = .ok (.istore_n 2, 1) := by decide +kernel
theorem dX10_first_2 : decode cX10_first 2 = .ok (.iconst 0, 1) := by decide +kernel
theorem dX10_first_3 : decode cX10_first 3 = .ok (.istore_n 3, 1) := by decide +kernel
theorem dX10_first_4 : decode cX10_first 4 = .ok (.iload_n 3, 1) := by decide +kernel
theorem dX10_first_5 : decode cX10_first 5 = .ok (.iconst 4, 1) := by decide +kernel
theorem dX10_first_6 : decode cX10_first 6 = .ok (.if_icmp .ge 23, 3) := by decide +kernel
theorem dX10_first_9 : decode cX10_first 9 = .ok (.iload_n 2, 1) := by decide +kernel
theorem dX10_first_10 : decode cX10_first 10 = .ok (.aload_n 0, 1) := by decide +kernel
theorem dX10_first_11 : decode cX10_first 11 = .ok (.iload_n 1, 1) := by decide +kernel
theorem dX10_first_12 : decode cX10_first 12 = .ok (.bipush 6, 2) := by decide +kernel
theorem dX10_first_14 : decode cX10_first 14 = .ok (.iload_n 3, 1) := by decide +kernel
theorem dX10_first_15 : decode cX10_first 15 = .ok (.iadd, 1) := by decide +kernel
theorem dX10_first_16 : decode cX10_first 16 = .ok (.invokevirtual 69, 3) := by decide +kernel
theorem dX10_first_19 : decode cX10_first 19 = .ok (.iload_n 3, 1) := by decide +kernel
theorem dX10_first_20 : decode cX10_first 20 = .ok (.ishl, 1) := by decide +kernel
theorem dX10_first_21 : decode cX10_first 21 = .ok (.ior, 1) := by decide +kernel
theorem dX10_first_22 : decode cX10_first 22 = .ok (.istore_n 2, 1) := by decide +kernel
theorem dX10_first_23 : decode cX10_first 23 = .ok (.iinc 3 1, 3) := by decide +kernel
theorem dX10_first_26 : decode cX10_first 26 = .ok (.goto (-22), 3) := by decide +kernel
theorem dX10_first_29 : decode cX10_first 29 = .ok (.iload_n 2, 1) := by decide +kernel
theorem dX10_first_30 : decode cX10_first 30 = .ok (.ireturn, 1) := by decide +kernel
theorem dX10_bit_0 : decode cX10_bit 0 = .ok (.iload_n 1, 1) := by decide +kernel
theorem dX10_bit_1 : decode cX10_bit 1 = .ok (.iconst 0, 1) := by decide +kernel
theorem dX10_bit_2 : decode cX10_bit 2 = .ok (.iconst 1, 1) := by decide +kernel
theorem dX10_bit_3 : decode cX10_bit 3 = .ok (.invokestatic 65, 3) := by decide +kernel
theorem dX10_bit_6 : decode cX10_bit 6 = .ok (.ifCond .eq 33, 3) := by decide +kernel
theorem dX10_bit_9 : decode cX10_bit 9 = .ok (.iload_n 2, 1) := by decide +kernel
theorem dX10_bit_10 : decode cX10_bit 10 = .ok (.iconst 0, 1) := by decide +kernel
theorem dX10_bit_11 : decode cX10_bit 11 = .ok (.bipush 15, 2) := by decide +kernel
theorem dX10_bit_13 : decode cX10_bit 13 = .ok (.invokestatic 65, 3) := by decide +kernel
theorem dX10_bit_16 : decode cX10_bit 16 = .ok (.ifCond .eq 23, 3) := by decide +kernel
theorem dX10_bit_19 : decode cX10_bit 19 = .ok (.iload_n 3, 1) := by decide +kernel
theorem dX10_bit_20 : decode cX10_bit 20 = .ok (.iconst 0, 1) := by decide +kernel
theorem dX10_bit_21 : decode cX10_bit 21 = .ok (.iconst 3, 1) := by decide +kernel
theorem dX10_bit_22 : decode cX10_bit 22 = .ok (.invokestatic 65, 3) := by decide +kernel
theorem dX10_bit_25 : decode cX10_bit 25 = .ok (.ifCond .eq 14, 3) := by decide +kernel
theorem dX10_bit_28 : decode cX10_bit 28 = .ok (.iload 4, 2) := by decide +kernel
theorem dX10_bit_30 : decode cX10_bit 30 = .ok (.iconst 0, 1) := by decide +kernel
theorem dX10_bit_31 : decode cX10_bit 31 = .ok (.bipush 15, 2) := by decide +kernel
theorem dX10_bit_33 : decode cX10_bit 33 = .ok (.invokestatic 65, 3) := by decide +kernel
theorem dX10_bit_36 : decode cX10_bit 36 = .ok (.ifCond .ne 6, 3) := by decide +kernel
theorem dX10_bit_39 : decode cX10_bit 39 = .ok (.ldc 60, 2) := by decide +kernel
theorem dX10_bit_41 : decode cX10_bit 41 = .ok (.ireturn, 1) := by decide +kernel
theorem dX10_bit_42 : decode cX10_bit 42 = .ok (.aload_n 0, 1) := by decide +kernel
theorem dX10_bit_43 : decode cX10_bit 43 = .ok (.iload_n 1, 1) := by decide +kernel
theorem dX10_bit_44 : decode cX10_bit 44 = .ok (.iload_n 2, 1) := by decide +kernel
theorem dX10_bit_45 : decode cX10_bit 45 = .ok (.iload_n 3, 1) := by decide +kernel
theorem dX10_bit_46 : decode cX10_bit 46 = .ok (.invokevirtual 90, 3) := by decide +kernel
theorem dX10_bit_49 : decode cX10_bit 49 = .ok (.aload_n 0, 1) := by decide +kernel
theorem dX10_bit_50 : decode cX10_bit 50 = .ok (.getfield 26, 3) := by decide +kernel
theorem dX10_bit_53 : decode cX10_bit 53 = .ok (.iload 4, 2) := by decide +kernel
theorem dX10_bit_55 : decode cX10_bit 55 = .ok (.iaload, 1) := by decide +kernel
theorem dX10_bit_56 : decode cX10_bit 56 = .ok (.ireturn, 1) := by decide +kernel
theorem dX10_behind_0 : decode cX10_behind 0 = .ok (.iload_n 1, 1) := by decide +kernel
theorem dX10_behind_1 : decode cX10_behind 1 = .ok (.iconst 0, 1) := by decide +kernel
theorem dX10_behind_2 : decode cX10_behind 2 = .ok (.iconst 1, 1) := by decide +kernel
theorem dX10_behind_3 : decode cX10_behind 3 = .ok (.invokestatic 65, 3) := by decide +kernel
theorem dX10_behind_6 : decode cX10_behind 6 = .ok (.ifCond .eq 32, 3) := by decide +kernel
theorem dX10_behind_9 : decode cX10_behind 9 = .ok (.iload_n 2, 1) := by decide +kernel
theorem dX10_behind_10 : decode cX10_behind 10 = .ok (.iconst 0, 1) := by decide +kernel
theorem dX10_behind_11 : decode cX10_behind 11 = .ok (.bipush 15, 2) := by decide +kernel
theorem dX10_behind_13 : decode cX10_behind 13 = .ok (.invokestatic 65, 3) := by decide +kernel
theorem dX10_behind_16 : decode cX10_behind 16 = .ok (.ifCond .eq 22, 3) := by decide +kernel
theorem dX10_behind_19 : decode cX10_behind 19 = .ok (.iload_n 3, 1) := by decide +kernel
theorem dX10_behind_20 : decode cX10_behind 20 = .ok (.iconst 0, 1) := by decide +kernel
theorem dX10_behind_21 : decode cX10_behind 21 = .ok (.iconst 3, 1) := by decide +kernel
theorem dX10_behind_22 : decode cX10_behind 22 = .ok (.invokestatic 65, 3) := by decide +kernel
theorem dX10_behind_25 : decode cX10_behind 25 = .ok (.ifCond .eq 13, 3) := by decide +kernel
theorem dX10_behind_28 : decode cX10_behind 28 = .ok (.aload_n 0, 1) := by decide +kernel
theorem dX10_behind_29 : decode cX10_behind 29 = .ok (.iload_n 1, 1) := by decide +kernel
theorem dX10_behind_30 : decode cX10_behind 30 = .ok (.iload_n 2, 1) := by decide +kernel
theorem dX10_behind_31 : decode cX10_behind 31 = .ok (.iload_n 3, 1) := by decide +kernel
theorem dX10_behind_32 : decode cX10_behind 32 = .ok (.invokevirtual 94, 3) := by decide +kernel
theorem dX10_behind_35 : decode cX10_behind 35 = .ok (.goto 5, 3) := by decide +kernel
theorem dX10_behind_38 : decode cX10_behind 38 = .ok (.ldc 60, 2) := by decide +kernel
theorem dX10_behind_40 : decode cX10_behind 40 = .ok (.ireturn, 1) := by decide +kernel
theorem dX10_run_0 : decode cX10_run 0 = .ok (.iload_n 1, 1) := by decide +kernel
theorem dX10_run_1 : decode cX10_run 1 = .ok (.iconst 0, 1) := by decide +kernel
theorem dX10_run_2 : decode cX10_run 2 = .ok (.iconst 1, 1) := by decide +kernel
theorem dX10_run_3 : decode cX10_run 3 = .ok (.invokestatic 65, 3) := by decide +kernel
theorem dX10_run_6 : decode cX10_run 6 = .ok (.ifCond .eq 23, 3) := by decide +kernel
theorem dX10_run_9 : decode cX10_run 9 = .ok (.iload_n 3, 1) := by decide +kernel
theorem dX10_run_10 : decode cX10_run 10 = .ok (.iconst 0, 1) := by decide +kernel
theorem dX10_run_11 : decode cX10_run 11 = .ok (.bipush 16, 2) := by decide +kernel
theorem dX10_run_13 : decode cX10_run 13 = .ok (.invokestatic 65, 3) := by decide +kernel
theorem dX10_run_16 : decode cX10_run 16 = .ok (.ifCond .eq 13, 3) := by decide +kernel
theorem dX10_run_19 : decode cX10_run 19 = .ok (.iload 4, 2) := by decide +kernel
theorem dX10_run_21 : decode cX10_run 21 = .ok (.iconst 0, 1) := by decide +kernel
theorem dX10_run_22 : decode cX10_run 22 = .ok (.iconst 1, 1) := by decide +kernel
theorem dX10_run_23 : decode cX10_run 23 = .ok (.invokestatic 65, 3) := by decide +kernel
theorem dX10_run_26 : decode cX10_run 26 = .ok (.ifCond .ne 6, 3) := by decide +kernel
theorem dX10_run_29 : decode cX10_run 29 = .ok (.ldc 60, 2) := by decide +kernel
theorem dX10_run_31 : decode cX10_run 31 = .ok (.ireturn, 1) := by decide +kernel
theorem dX10_run_32 : decode cX10_run 32 = .ok (.aload_n 0, 1) := by decide +kernel
theorem dX10_run_33 : decode cX10_run 33 = .ok (.iload_n 1, 1) := by decide +kernel
theorem dX10_run_34 : decode cX10_run 34 = .ok (.invokevirtual 97, 3) := by decide +kernel
theorem dX10_run_37 : decode cX10_run 37 = .ok (.istore 5, 2) := by decide +kernel
theorem dX10_run_39 : decode cX10_run 39 = .ok (.iconst 0, 1) := by decide +kernel
theorem dX10_run_40 : decode cX10_run 40 = .ok (.istore 6, 2) := by decide +kernel
theorem dX10_run_42 : decode cX10_run 42 = .ok (.iconst 0, 1) := by decide +kernel
theorem dX10_run_43 : decode cX10_run 43 = .ok (.istore 7, 2) := by decide +kernel
theorem dX10_run_45 : decode cX10_run 45 = .ok (.iload 7, 2) := by decide +kernel
theorem dX10_run_47 : decode cX10_run 47 = .ok (.iload_n 3, 1) := by decide +kernel
theorem dX10_run_48 : decode cX10_run 48 = .ok (.if_icmp .ge 47, 3) := by decide +kernel
theorem dX10_run_51 : decode cX10_run 51 = .ok (.iload_n 2, 1) := by decide +kernel
theorem dX10_run_52 : decode cX10_run 52 = .ok (.iconst 2, 1) := by decide +kernel
theorem dX10_run_53 : decode cX10_run 53 = .ok (.iload 7, 2) := by decide +kernel
theorem dX10_run_55 : decode cX10_run 55 = .ok (.imul, 1) := by decide +kernel
theorem dX10_run_56 : decode cX10_run 56 = .ok (.ishr, 1) := by decide +kernel
theorem dX10_run_57 : decode cX10_run 57 = .ok (.iconst 3, 1) := by decide +kernel
theorem dX10_run_58 : decode cX10_run 58 = .ok (.iand, 1) := by decide +kernel
theorem dX10_run_59 : decode cX10_run 59 = .ok (.istore 8, 2) := by decide +kernel
theorem dX10_run_61 : decode cX10_run 61 = .ok (.iload 6, 2) := by decide +kernel
theorem dX10_run_63 : decode cX10_run 63 = .ok (.aload_n 0, 1) := by decide +kernel
theorem dX10_run_64 : decode cX10_run 64 = .ok (.iload_n 1, 1) := by decide +kernel
theorem dX10_run_65 : decode cX10_run 65 = .ok (.iload 5, 2) := by decide +kernel
theorem dX10_run_67 : decode cX10_run 67 = .ok (.iload 8, 2) := by decide +kernel
theorem dX10_run_69 : decode cX10_run 69 = .ok (.invokevirtual 100, 3) := by decide +kernel
theorem dX10_run_72 : decode cX10_run 72 = .ok (.iload 7, 2) := by decide +kernel
theorem dX10_run_74 : decode cX10_run 74 = .ok (.ishl, 1) := by decide +kernel
theorem dX10_run_75 : decode cX10_run 75 = .ok (.ior, 1) := by decide +kernel
theorem dX10_run_76 : decode cX10_run 76 = .ok (.istore 6, 2) := by decide +kernel
theorem dX10_run_78 : decode cX10_run 78 = .ok (.aload_n 0, 1) := by decide +kernel
theorem dX10_run_79 : decode cX10_run 79 = .ok (.iload_n 1, 1) := by decide +kernel
theorem dX10_run_80 : decode cX10_run 80 = .ok (.iload 5, 2) := by decide +kernel
theorem dX10_run_82 : decode cX10_run 82 = .ok (.iload 8, 2) := by decide +kernel
theorem dX10_run_84 : decode cX10_run 84 = .ok (.invokevirtual 94, 3) := by decide +kernel
theorem dX10_run_87 : decode cX10_run 87 = .ok (.istore 5, 2) := by decide +kernel
theorem dX10_run_89 : decode cX10_run 89 = .ok (.iinc 7 1, 3) := by decide +kernel
theorem dX10_run_92 : decode cX10_run 92 = .ok (.goto (-47), 3) := by decide +kernel
theorem dX10_run_95 : decode cX10_run 95 = .ok (.iload 4, 2) := by decide +kernel
theorem dX10_run_97 : decode cX10_run 97 = .ok (.ifCond .ne 8, 3) := by decide +kernel
theorem dX10_run_100 : decode cX10_run 100 = .ok (.iload 5, 2) := by decide +kernel
theorem dX10_run_102 : decode cX10_run 102 = .ok (.goto 5, 3) := by decide +kernel
theorem dX10_run_105 : decode cX10_run 105 = .ok (.iload 6, 2) := by decide +kernel
theorem dX10_run_107 : decode cX10_run 107 = .ok (.ireturn, 1) := by decide +kernel
theorem dX10_sixteenths_0 : decode cX10_sixteenths 0 = .ok (.iconst 0, 1) := by decide +kernel
theorem dX10_sixteenths_1 : decode cX10_sixteenths 1 = .ok (.istore_n 1, 1) := by decide +kernel
theorem dX10_sixteenths_2 : decode cX10_sixteenths 2 = .ok (.iload_n 0, 1) := by decide +kernel
theorem dX10_sixteenths_3 : decode cX10_sixteenths 3 = .ok (.iload_n 1, 1) := by decide +kernel
theorem dX10_sixteenths_4 : decode cX10_sixteenths 4 = .ok (.ishr, 1) := by decide +kernel
theorem dX10_sixteenths_5 : decode cX10_sixteenths 5 = .ok (.iconst 1, 1) := by decide +kernel
theorem dX10_sixteenths_6 : decode cX10_sixteenths 6 = .ok (.if_icmp .le 9, 3) := by decide +kernel
theorem dX10_sixteenths_9 : decode cX10_sixteenths 9 = .ok (.iinc 1 1, 3) := by decide +kernel
theorem dX10_sixteenths_12 : decode cX10_sixteenths 12 = .ok (.goto (-10), 3) := by decide +kernel
theorem dX10_sixteenths_15 : decode cX10_sixteenths 15 = .ok (.iload_n 0, 1) := by decide +kernel
theorem dX10_sixteenths_16 : decode cX10_sixteenths 16 = .ok (.ifCond .ne 7, 3) := by decide +kernel
theorem dX10_sixteenths_19 : decode cX10_sixteenths 19 = .ok (.iconst 0, 1) := by decide +kernel
theorem dX10_sixteenths_20 : decode cX10_sixteenths 20 = .ok (.goto 21, 3) := by decide +kernel
theorem dX10_sixteenths_23 : decode cX10_sixteenths 23 = .ok (.bipush 123, 2) := by decide +kernel
theorem dX10_sixteenths_25 : decode cX10_sixteenths 25 = .ok (.iload_n 1, 1) := by decide +kernel
theorem dX10_sixteenths_26 : decode cX10_sixteenths 26 = .ok (.iadd, 1) := by decide +kernel
theorem dX10_sixteenths_27 : decode cX10_sixteenths 27 = .ok (.bipush 23, 2) := by decide +kernel
theorem dX10_sixteenths_29 : decode cX10_sixteenths 29 = .ok (.ishl, 1) := by decide +kernel
theorem dX10_sixteenths_30 : decode cX10_sixteenths 30 = .ok (.iload_n 0, 1) := by decide +kernel
theorem dX10_sixteenths_31 : decode cX10_sixteenths 31 = .ok (.iconst 1, 1) := by decide +kernel
theorem dX10_sixteenths_32 : decode cX10_sixteenths 32 = .ok (.iload_n 1, 1) := by decide +kernel
theorem dX10_sixteenths_33 : decode cX10_sixteenths 33 = .ok (.ishl, 1) := by decide +kernel
theorem dX10_sixteenths_34 : decode cX10_sixteenths 34 = .ok (.isub, 1) := by decide +kernel
theorem dX10_sixteenths_35 : decode cX10_sixteenths 35 = .ok (.bipush 23, 2) := by decide +kernel
theorem dX10_sixteenths_37 : decode cX10_sixteenths 37 = .ok (.iload_n 1, 1) := by decide +kernel
theorem dX10_sixteenths_38 : decode cX10_sixteenths 38 = .ok (.isub, 1) := by decide +kernel
theorem dX10_sixteenths_39 : decode cX10_sixteenths 39 = .ok (.ishl, 1) := by decide +kernel
theorem dX10_sixteenths_40 : decode cX10_sixteenths 40 = .ok (.iadd, 1) := by decide +kernel
theorem dX10_sixteenths_41 : decode cX10_sixteenths 41 = .ok (.ireturn, 1) := by decide +kernel
theorem dX10_share_0 : decode cX10_share 0 = .ok (.iload_n 1, 1) := by decide +kernel
theorem dX10_share_1 : decode cX10_share 1 = .ok (.iconst 0, 1) := by decide +kernel
theorem dX10_share_2 : decode cX10_share 2 = .ok (.iconst 1, 1) := by decide +kernel
theorem dX10_share_3 : decode cX10_share 3 = .ok (.invokestatic 65, 3) := by decide +kernel
theorem dX10_share_6 : decode cX10_share 6 = .ok (.ifCond .eq 12, 3) := by decide +kernel
theorem dX10_share_9 : decode cX10_share 9 = .ok (.iload_n 2, 1) := by decide +kernel
theorem dX10_share_10 : decode cX10_share 10 = .ok (.iconst 0, 1) := by decide +kernel
theorem dX10_share_11 : decode cX10_share 11 = .ok (.iconst 3, 1) := by decide +kernel
theorem dX10_share_12 : decode cX10_share 12 = .ok (.invokestatic 65, 3) := by decide +kernel
theorem dX10_share_15 : decode cX10_share 15 = .ok (.ifCond .ne 6, 3) := by decide +kernel
theorem dX10_share_18 : decode cX10_share 18 = .ok (.ldc 60, 2) := by decide +kernel
theorem dX10_share_20 : decode cX10_share 20 = .ok (.ireturn, 1) := by decide +kernel
theorem dX10_share_21 : decode cX10_share 21 = .ok (.iconst 0, 1) := by decide +kernel
theorem dX10_share_22 : decode cX10_share 22 = .ok (.istore_n 3, 1) := by decide +kernel
theorem dX10_share_23 : decode cX10_share 23 = .ok (.iconst 0, 1) := by decide +kernel
theorem dX10_share_24 : decode cX10_share 24 = .ok (.istore 4, 2) := by decide +kernel
theorem dX10_share_26 : decode cX10_share 26 = .ok (.iload 4, 2) := by decide +kernel
theorem dX10_share_28 : decode cX10_share 28 = .ok (.bipush 16, 2) := by decide +kernel
theorem dX10_share_30 : decode cX10_share 30 = .ok (.if_icmp .ge 20, 3) := by decide +kernel
theorem dX10_share_33 : decode cX10_share 33 = .ok (.iload_n 3, 1) := by decide +kernel
theorem dX10_share_34 : decode cX10_share 34 = .ok (.aload_n 0, 1) := by decide +kernel
theorem dX10_share_35 : decode cX10_share 35 = .ok (.iload_n 1, 1) := by decide +kernel
theorem dX10_share_36 : decode cX10_share 36 = .ok (.iload 4, 2) := by decide +kernel
theorem dX10_share_38 : decode cX10_share 38 = .ok (.iload_n 2, 1) := by decide +kernel
theorem dX10_share_39 : decode cX10_share 39 = .ok (.invokevirtual 100, 3) := by decide +kernel
theorem dX10_share_42 : decode cX10_share 42 = .ok (.iadd, 1) := by decide +kernel
theorem dX10_share_43 : decode cX10_share 43 = .ok (.istore_n 3, 1) := by decide +kernel
theorem dX10_share_44 : decode cX10_share 44 = .ok (.iinc 4 1, 3) := by decide +kernel
theorem dX10_share_47 : decode cX10_share 47 = .ok (.goto (-21), 3) := by decide +kernel
theorem dX10_share_50 : decode cX10_share 50 = .ok (.iload_n 3, 1) := by decide +kernel
theorem dX10_share_51 : decode cX10_share 51 = .ok (.invokestatic 103, 3) := by decide +kernel
theorem dX10_share_54 : decode cX10_share 54 = .ok (.ireturn, 1) := by decide +kernel
theorem dX10_comesTo_0 : decode cX10_comesTo 0 = .ok (.iconst 1, 1) := by decide +kernel
theorem dX10_comesTo_1 : decode cX10_comesTo 1 = .ok (.aload_n 0, 1) := by decide +kernel
theorem dX10_comesTo_2 : decode cX10_comesTo 2 = .ok (.iload_n 1, 1) := by decide +kernel
theorem dX10_comesTo_3 : decode cX10_comesTo 3 = .ok (.invokevirtual 97, 3) := by decide +kernel
theorem dX10_comesTo_6 : decode cX10_comesTo 6 = .ok (.ishl, 1) := by decide +kernel
theorem dX10_comesTo_7 : decode cX10_comesTo 7 = .ok (.istore_n 2, 1) := by decide +kernel
theorem dX10_comesTo_8 : decode cX10_comesTo 8 = .ok (.iconst 0, 1) := by decide +kernel
theorem dX10_comesTo_9 : decode cX10_comesTo 9 = .ok (.istore_n 3, 1) := by decide +kernel
theorem dX10_comesTo_10 : decode cX10_comesTo 10 = .ok (.iload_n 2, 1) := by decide +kernel
theorem dX10_comesTo_11 : decode cX10_comesTo 11 = .ok (.iload_n 3, 1) := by decide +kernel
theorem dX10_comesTo_12 : decode cX10_comesTo 12 = .ok (.if_icmp .eq 63, 3) := by decide +kernel
theorem dX10_comesTo_15 : decode cX10_comesTo 15 = .ok (.iload_n 2, 1) := by decide +kernel
theorem dX10_comesTo_16 : decode cX10_comesTo 16 = .ok (.istore_n 3, 1) := by decide +kernel
theorem dX10_comesTo_17 : decode cX10_comesTo 17 = .ok (.iconst 0, 1) := by decide +kernel
theorem dX10_comesTo_18 : decode cX10_comesTo 18 = .ok (.istore 4, 2) := by decide +kernel
theorem dX10_comesTo_20 : decode cX10_comesTo 20 = .ok (.iload 4, 2) := by decide +kernel
theorem dX10_comesTo_22 : decode cX10_comesTo 22 = .ok (.bipush 16, 2) := by decide +kernel
theorem dX10_comesTo_24 : decode cX10_comesTo 24 = .ok (.if_icmp .ge 48, 3) := by decide +kernel
theorem dX10_comesTo_27 : decode cX10_comesTo 27 = .ok (.iconst 0, 1) := by decide +kernel
theorem dX10_comesTo_28 : decode cX10_comesTo 28 = .ok (.istore 5, 2) := by decide +kernel
theorem dX10_comesTo_30 : decode cX10_comesTo 30 = .ok (.iload 5, 2) := by decide +kernel
theorem dX10_comesTo_32 : decode cX10_comesTo 32 = .ok (.iconst 4, 1) := by decide +kernel
theorem dX10_comesTo_33 : decode cX10_comesTo 33 = .ok (.if_icmp .ge 33, 3) := by decide +kernel
theorem dX10_comesTo_36 : decode cX10_comesTo 36 = .ok (.iload_n 3, 1) := by decide +kernel
theorem dX10_comesTo_37 : decode cX10_comesTo 37 = .ok (.iload 4, 2) := by decide +kernel
theorem dX10_comesTo_39 : decode cX10_comesTo 39 = .ok (.ishr, 1) := by decide +kernel
theorem dX10_comesTo_40 : decode cX10_comesTo 40 = .ok (.iconst 1, 1) := by decide +kernel
theorem dX10_comesTo_41 : decode cX10_comesTo 41 = .ok (.iand, 1) := by decide +kernel
theorem dX10_comesTo_42 : decode cX10_comesTo 42 = .ok (.iconst 1, 1) := by decide +kernel
theorem dX10_comesTo_43 : decode cX10_comesTo 43 = .ok (.if_icmp .ne 23, 3) := by decide +kernel
theorem dX10_comesTo_46 : decode cX10_comesTo 46 = .ok (.iload_n 2, 1) := by decide +kernel
theorem dX10_comesTo_47 : decode cX10_comesTo 47 = .ok (.iconst 1, 1) := by decide +kernel
theorem dX10_comesTo_48 : decode cX10_comesTo 48 = .ok (.aload_n 0, 1) := by decide +kernel
theorem dX10_comesTo_49 : decode cX10_comesTo 49 = .ok (.iload_n 1, 1) := by decide +kernel
theorem dX10_comesTo_50 : decode cX10_comesTo 50 = .ok (.iload 4, 2) := by decide +kernel
theorem dX10_comesTo_52 : decode cX10_comesTo 52 = .ok (.iload 5, 2) := by decide +kernel
theorem dX10_comesTo_54 : decode cX10_comesTo 54 = .ok (.invokevirtual 94, 3) := by decide +kernel
theorem dX10_comesTo_57 : decode cX10_comesTo 57 = .ok (.ishl, 1) := by decide +kernel
theorem dX10_comesTo_58 : decode cX10_comesTo 58 = .ok (.ior, 1) := by decide +kernel
theorem dX10_comesTo_59 : decode cX10_comesTo 59 = .ok (.istore_n 2, 1) := by decide +kernel
theorem dX10_comesTo_60 : decode cX10_comesTo 60 = .ok (.iinc 5 1, 3) := by decide +kernel
theorem dX10_comesTo_63 : decode cX10_comesTo 63 = .ok (.goto (-33), 3) := by decide +kernel
theorem dX10_comesTo_66 : decode cX10_comesTo 66 = .ok (.iinc 4 1, 3) := by decide +kernel
theorem dX10_comesTo_69 : decode cX10_comesTo 69 = .ok (.goto (-49), 3) := by decide +kernel
theorem dX10_comesTo_72 : decode cX10_comesTo 72 = .ok (.goto (-62), 3) := by decide +kernel
theorem dX10_comesTo_75 : decode cX10_comesTo 75 = .ok (.iload_n 2, 1) := by decide +kernel
theorem dX10_comesTo_76 : decode cX10_comesTo 76 = .ok (.ireturn, 1) := by decide +kernel
theorem dX10_steady_0 : decode cX10_steady 0 = .ok (.bipush 15, 2) := by decide +kernel
theorem dX10_steady_2 : decode cX10_steady 2 = .ok (.istore_n 2, 1) := by decide +kernel
theorem dX10_steady_3 : decode cX10_steady 3 = .ok (.aload_n 0, 1) := by decide +kernel
theorem dX10_steady_4 : decode cX10_steady 4 = .ok (.iload_n 1, 1) := by decide +kernel
theorem dX10_steady_5 : decode cX10_steady 5 = .ok (.invokevirtual 106, 3) := by decide +kernel
theorem dX10_steady_8 : decode cX10_steady 8 = .ok (.istore_n 3, 1) := by decide +kernel
theorem dX10_steady_9 : decode cX10_steady 9 = .ok (.iconst 0, 1) := by decide +kernel
theorem dX10_steady_10 : decode cX10_steady 10 = .ok (.istore 4, 2) := by decide +kernel
theorem dX10_steady_12 : decode cX10_steady 12 = .ok (.iload 4, 2) := by decide +kernel
theorem dX10_steady_14 : decode cX10_steady 14 = .ok (.bipush 16, 2) := by decide +kernel
theorem dX10_steady_16 : decode cX10_steady 16 = .ok (.if_icmp .ge 68, 3) := by decide +kernel
theorem dX10_steady_19 : decode cX10_steady 19 = .ok (.iconst 0, 1) := by decide +kernel
theorem dX10_steady_20 : decode cX10_steady 20 = .ok (.istore 5, 2) := by decide +kernel
theorem dX10_steady_22 : decode cX10_steady 22 = .ok (.iload 5, 2) := by decide +kernel
theorem dX10_steady_24 : decode cX10_steady 24 = .ok (.iconst 4, 1) := by decide +kernel
theorem dX10_steady_25 : decode cX10_steady 25 = .ok (.if_icmp .ge 53, 3) := by decide +kernel
theorem dX10_steady_28 : decode cX10_steady 28 = .ok (.iload_n 3, 1) := by decide +kernel
theorem dX10_steady_29 : decode cX10_steady 29 = .ok (.iload 4, 2) := by decide +kernel
theorem dX10_steady_31 : decode cX10_steady 31 = .ok (.ishr, 1) := by decide +kernel
theorem dX10_steady_32 : decode cX10_steady 32 = .ok (.iconst 1, 1) := by decide +kernel
theorem dX10_steady_33 : decode cX10_steady 33 = .ok (.iand, 1) := by decide +kernel
theorem dX10_steady_34 : decode cX10_steady 34 = .ok (.iconst 1, 1) := by decide +kernel
theorem dX10_steady_35 : decode cX10_steady 35 = .ok (.if_icmp .ne 43, 3) := by decide +kernel
theorem dX10_steady_38 : decode cX10_steady 38 = .ok (.iload_n 2, 1) := by decide +kernel
theorem dX10_steady_39 : decode cX10_steady 39 = .ok (.iload 4, 2) := by decide +kernel
theorem dX10_steady_41 : decode cX10_steady 41 = .ok (.iload 5, 2) := by decide +kernel
theorem dX10_steady_43 : decode cX10_steady 43 = .ok (.ishr, 1) := by decide +kernel
theorem dX10_steady_44 : decode cX10_steady 44 = .ok (.iconst 1, 1) := by decide +kernel
theorem dX10_steady_45 : decode cX10_steady 45 = .ok (.iand, 1) := by decide +kernel
theorem dX10_steady_46 : decode cX10_steady 46 = .ok (.aload_n 0, 1) := by decide +kernel
theorem dX10_steady_47 : decode cX10_steady 47 = .ok (.iload_n 1, 1) := by decide +kernel
theorem dX10_steady_48 : decode cX10_steady 48 = .ok (.bipush 6, 2) := by decide +kernel
theorem dX10_steady_50 : decode cX10_steady 50 = .ok (.iload 5, 2) := by decide +kernel
theorem dX10_steady_52 : decode cX10_steady 52 = .ok (.iadd, 1) := by decide +kernel
theorem dX10_steady_53 : decode cX10_steady 53 = .ok (.invokevirtual 69, 3) := by decide +kernel
theorem dX10_steady_56 : decode cX10_steady 56 = .ok (.if_icmp .ne 8, 3) := by decide +kernel
theorem dX10_steady_59 : decode cX10_steady 59 = .ok (.bipush 15, 2) := by decide +kernel
theorem dX10_steady_61 : decode cX10_steady 61 = .ok (.goto 9, 3) := by decide +kernel
theorem dX10_steady_64 : decode cX10_steady 64 = .ok (.iconst 1, 1) := by decide +kernel
theorem dX10_steady_65 : decode cX10_steady 65 = .ok (.iload 5, 2) := by decide +kernel
theorem dX10_steady_67 : decode cX10_steady 67 = .ok (.ishl, 1) := by decide +kernel
theorem dX10_steady_68 : decode cX10_steady 68 = .ok (.iconst (-1), 1) := by decide +kernel
theorem dX10_steady_69 : decode cX10_steady 69 = .ok (.ixor, 1) := by decide +kernel
theorem dX10_steady_70 : decode cX10_steady 70 = .ok (.iand, 1) := by decide +kernel
theorem dX10_steady_71 : decode cX10_steady 71 = .ok (.istore_n 2, 1) := by decide +kernel
theorem dX10_steady_72 : decode cX10_steady 72 = .ok (.iinc 5 1, 3) := by decide +kernel
theorem dX10_steady_75 : decode cX10_steady 75 = .ok (.goto (-53), 3) := by decide +kernel
theorem dX10_steady_78 : decode cX10_steady 78 = .ok (.iinc 4 1, 3) := by decide +kernel
theorem dX10_steady_81 : decode cX10_steady 81 = .ok (.goto (-69), 3) := by decide +kernel
theorem dX10_steady_84 : decode cX10_steady 84 = .ok (.iload_n 2, 1) := by decide +kernel
theorem dX10_steady_85 : decode cX10_steady 85 = .ok (.ireturn, 1) := by decide +kernel
theorem dX10_isAlike_0 : decode cX10_isAlike 0 = .ok (.iload 4, 2) := by decide +kernel
theorem dX10_isAlike_2 : decode cX10_isAlike 2 = .ok (.ifCond .ne 18, 3) := by decide +kernel
theorem dX10_isAlike_5 : decode cX10_isAlike 5 = .ok (.aload_n 0, 1) := by decide +kernel
theorem dX10_isAlike_6 : decode cX10_isAlike 6 = .ok (.getfield 50, 3) := by decide +kernel
theorem dX10_isAlike_9 : decode cX10_isAlike 9 = .ok (.iload_n 2, 1) := by decide +kernel
theorem dX10_isAlike_10 : decode cX10_isAlike 10 = .ok (.iaload, 1) := by decide +kernel
theorem dX10_isAlike_11 : decode cX10_isAlike 11 = .ok (.aload_n 0, 1) := by decide +kernel
theorem dX10_isAlike_12 : decode cX10_isAlike 12 = .ok (.getfield 50, 3) := by decide +kernel
theorem dX10_isAlike_15 : decode cX10_isAlike 15 = .ok (.iload_n 3, 1) := by decide +kernel
theorem dX10_isAlike_16 : decode cX10_isAlike 16 = .ok (.iaload, 1) := by decide +kernel
theorem dX10_isAlike_17 : decode cX10_isAlike 17 = .ok (.if_icmp .ne 7, 3) := by decide +kernel
theorem dX10_isAlike_20 : decode cX10_isAlike 20 = .ok (.iconst 1, 1) := by decide +kernel
theorem dX10_isAlike_21 : decode cX10_isAlike 21 = .ok (.goto 4, 3) := by decide +kernel
theorem dX10_isAlike_24 : decode cX10_isAlike 24 = .ok (.iconst 0, 1) := by decide +kernel
theorem dX10_isAlike_25 : decode cX10_isAlike 25 = .ok (.istore 5, 2) := by decide +kernel
theorem dX10_isAlike_27 : decode cX10_isAlike 27 = .ok (.iconst 0, 1) := by decide +kernel
theorem dX10_isAlike_28 : decode cX10_isAlike 28 = .ok (.istore 6, 2) := by decide +kernel
theorem dX10_isAlike_30 : decode cX10_isAlike 30 = .ok (.iload 6, 2) := by decide +kernel
theorem dX10_isAlike_32 : decode cX10_isAlike 32 = .ok (.iconst 4, 1) := by decide +kernel
theorem dX10_isAlike_33 : decode cX10_isAlike 33 = .ok (.if_icmp .ge 82, 3) := by decide +kernel
theorem dX10_isAlike_36 : decode cX10_isAlike 36 = .ok (.iload 5, 2) := by decide +kernel
theorem dX10_isAlike_38 : decode cX10_isAlike 38 = .ok (.ifCond .eq 77, 3) := by decide +kernel
theorem dX10_isAlike_41 : decode cX10_isAlike 41 = .ok (.iload 4, 2) := by decide +kernel
theorem dX10_isAlike_43 : decode cX10_isAlike 43 = .ok (.ifCond .eq 30, 3) := by decide +kernel
theorem dX10_isAlike_46 : decode cX10_isAlike 46 = .ok (.aload_n 0, 1) := by decide +kernel
theorem dX10_isAlike_47 : decode cX10_isAlike 47 = .ok (.iload_n 1, 1) := by decide +kernel
theorem dX10_isAlike_48 : decode cX10_isAlike 48 = .ok (.iload_n 2, 1) := by decide +kernel
theorem dX10_isAlike_49 : decode cX10_isAlike 49 = .ok (.iload 6, 2) := by decide +kernel
theorem dX10_isAlike_51 : decode cX10_isAlike 51 = .ok (.invokevirtual 100, 3) := by decide +kernel
theorem dX10_isAlike_54 : decode cX10_isAlike 54 = .ok (.aload_n 0, 1) := by decide +kernel
theorem dX10_isAlike_55 : decode cX10_isAlike 55 = .ok (.iload_n 1, 1) := by decide +kernel
theorem dX10_isAlike_56 : decode cX10_isAlike 56 = .ok (.iload_n 3, 1) := by decide +kernel
theorem dX10_isAlike_57 : decode cX10_isAlike 57 = .ok (.iload 6, 2) := by decide +kernel
theorem dX10_isAlike_59 : decode cX10_isAlike 59 = .ok (.invokevirtual 100, 3) := by decide +kernel
theorem dX10_isAlike_62 : decode cX10_isAlike 62 = .ok (.if_icmp .ne 7, 3) := by decide +kernel
theorem dX10_isAlike_65 : decode cX10_isAlike 65 = .ok (.iconst 1, 1) := by decide +kernel
theorem dX10_isAlike_66 : decode cX10_isAlike 66 = .ok (.goto 41, 3) := by decide +kernel
theorem dX10_isAlike_69 : decode cX10_isAlike 69 = .ok (.iconst 0, 1) := by decide +kernel
theorem dX10_isAlike_70 : decode cX10_isAlike 70 = .ok (.goto 37, 3) := by decide +kernel
theorem dX10_isAlike_73 : decode cX10_isAlike 73 = .ok (.aload_n 0, 1) := by decide +kernel
theorem dX10_isAlike_74 : decode cX10_isAlike 74 = .ok (.getfield 50, 3) := by decide +kernel
theorem dX10_isAlike_77 : decode cX10_isAlike 77 = .ok (.aload_n 0, 1) := by decide +kernel
theorem dX10_isAlike_78 : decode cX10_isAlike 78 = .ok (.iload_n 1, 1) := by decide +kernel
theorem dX10_isAlike_79 : decode cX10_isAlike 79 = .ok (.iload_n 2, 1) := by decide +kernel
theorem dX10_isAlike_80 : decode cX10_isAlike 80 = .ok (.iload 6, 2) := by decide +kernel
theorem dX10_isAlike_82 : decode cX10_isAlike 82 = .ok (.invokevirtual 94, 3) := by decide +kernel
theorem dX10_isAlike_85 : decode cX10_isAlike 85 = .ok (.iaload, 1) := by decide +kernel
theorem dX10_isAlike_86 : decode cX10_isAlike 86 = .ok (.aload_n 0, 1) := by decide +kernel
theorem dX10_isAlike_87 : decode cX10_isAlike 87 = .ok (.getfield 50, 3) := by decide +kernel
theorem dX10_isAlike_90 : decode cX10_isAlike 90 = .ok (.aload_n 0, 1) := by decide +kernel
theorem dX10_isAlike_91 : decode cX10_isAlike 91 = .ok (.iload_n 1, 1) := by decide +kernel
theorem dX10_isAlike_92 : decode cX10_isAlike 92 = .ok (.iload_n 3, 1) := by decide +kernel
theorem dX10_isAlike_93 : decode cX10_isAlike 93 = .ok (.iload 6, 2) := by decide +kernel
theorem dX10_isAlike_95 : decode cX10_isAlike 95 = .ok (.invokevirtual 94, 3) := by decide +kernel
theorem dX10_isAlike_98 : decode cX10_isAlike 98 = .ok (.iaload, 1) := by decide +kernel
theorem dX10_isAlike_99 : decode cX10_isAlike 99 = .ok (.if_icmp .ne 7, 3) := by decide +kernel
theorem dX10_isAlike_102 : decode cX10_isAlike 102 = .ok (.iconst 1, 1) := by decide +kernel
theorem dX10_isAlike_103 : decode cX10_isAlike 103 = .ok (.goto 4, 3) := by decide +kernel
theorem dX10_isAlike_106 : decode cX10_isAlike 106 = .ok (.iconst 0, 1) := by decide +kernel
theorem dX10_isAlike_107 : decode cX10_isAlike 107 = .ok (.istore 5, 2) := by decide +kernel
theorem dX10_isAlike_109 : decode cX10_isAlike 109 = .ok (.iinc 6 1, 3) := by decide +kernel
theorem dX10_isAlike_112 : decode cX10_isAlike 112 = .ok (.goto (-82), 3) := by decide +kernel
theorem dX10_isAlike_115 : decode cX10_isAlike 115 = .ok (.iload 5, 2) := by decide +kernel
theorem dX10_isAlike_117 : decode cX10_isAlike 117 = .ok (.ireturn, 1) := by decide +kernel
theorem dX10_refines_0 : decode cX10_refines 0 = .ok (.iconst 0, 1) := by decide +kernel
theorem dX10_refines_1 : decode cX10_refines 1 = .ok (.istore_n 3, 1) := by decide +kernel
theorem dX10_refines_2 : decode cX10_refines 2 = .ok (.iload_n 3, 1) := by decide +kernel
theorem dX10_refines_3 : decode cX10_refines 3 = .ok (.bipush 16, 2) := by decide +kernel
theorem dX10_refines_5 : decode cX10_refines 5 = .ok (.if_icmp .ge 61, 3) := by decide +kernel
theorem dX10_refines_8 : decode cX10_refines 8 = .ok (.aload_n 0, 1) := by decide +kernel
theorem dX10_refines_9 : decode cX10_refines 9 = .ok (.getfield 53, 3) := by decide +kernel
theorem dX10_refines_12 : decode cX10_refines 12 = .ok (.iload_n 3, 1) := by decide +kernel
theorem dX10_refines_13 : decode cX10_refines 13 = .ok (.iload_n 3, 1) := by decide +kernel
theorem dX10_refines_14 : decode cX10_refines 14 = .ok (.iastore, 1) := by decide +kernel
theorem dX10_refines_15 : decode cX10_refines 15 = .ok (.iload_n 3, 1) := by decide +kernel
theorem dX10_refines_16 : decode cX10_refines 16 = .ok (.iconst 1, 1) := by decide +kernel
theorem dX10_refines_17 : decode cX10_refines 17 = .ok (.isub, 1) := by decide +kernel
theorem dX10_refines_18 : decode cX10_refines 18 = .ok (.istore 4, 2) := by decide +kernel
theorem dX10_refines_20 : decode cX10_refines 20 = .ok (.iload 4, 2) := by decide +kernel
theorem dX10_refines_22 : decode cX10_refines 22 = .ok (.ifCond .lt 38, 3) := by decide +kernel
theorem dX10_refines_25 : decode cX10_refines 25 = .ok (.aload_n 0, 1) := by decide +kernel
theorem dX10_refines_26 : decode cX10_refines 26 = .ok (.getfield 53, 3) := by decide +kernel
theorem dX10_refines_29 : decode cX10_refines 29 = .ok (.iload_n 3, 1) := by decide +kernel
theorem dX10_refines_30 : decode cX10_refines 30 = .ok (.aload_n 0, 1) := by decide +kernel
theorem dX10_refines_31 : decode cX10_refines 31 = .ok (.iload_n 1, 1) := by decide +kernel
theorem dX10_refines_32 : decode cX10_refines 32 = .ok (.iload_n 3, 1) := by decide +kernel
theorem dX10_refines_33 : decode cX10_refines 33 = .ok (.iload 4, 2) := by decide +kernel
theorem dX10_refines_35 : decode cX10_refines 35 = .ok (.iload_n 2, 1) := by decide +kernel
theorem dX10_refines_36 : decode cX10_refines 36 = .ok (.invokevirtual 109, 3) := by decide +kernel
theorem dX10_refines_39 : decode cX10_refines 39 = .ok (.ifCond .eq 8, 3) := by decide +kernel
theorem dX10_refines_42 : decode cX10_refines 42 = .ok (.iload 4, 2) := by decide +kernel
theorem dX10_refines_44 : decode cX10_refines 44 = .ok (.goto 9, 3) := by decide +kernel
theorem dX10_refines_47 : decode cX10_refines 47 = .ok (.aload_n 0, 1) := by decide +kernel
theorem dX10_refines_48 : decode cX10_refines 48 = .ok (.getfield 53, 3) := by decide +kernel
theorem dX10_refines_51 : decode cX10_refines 51 = .ok (.iload_n 3, 1) := by decide +kernel
theorem dX10_refines_52 : decode cX10_refines 52 = .ok (.iaload, 1) := by decide +kernel
theorem dX10_refines_53 : decode cX10_refines 53 = .ok (.iastore, 1) := by decide +kernel
theorem dX10_refines_54 : decode cX10_refines 54 = .ok (.iinc 4 (-1), 3) := by decide +kernel
theorem dX10_refines_57 : decode cX10_refines 57 = .ok (.goto (-37), 3) := by decide +kernel
theorem dX10_refines_60 : decode cX10_refines 60 = .ok (.iinc 3 1, 3) := by decide +kernel
theorem dX10_refines_63 : decode cX10_refines 63 = .ok (.goto (-61), 3) := by decide +kernel
theorem dX10_refines_66 : decode cX10_refines 66 = .ok (.iconst 0, 1) := by decide +kernel
theorem dX10_refines_67 : decode cX10_refines 67 = .ok (.istore_n 3, 1) := by decide +kernel
theorem dX10_refines_68 : decode cX10_refines 68 = .ok (.iload_n 3, 1) := by decide +kernel
theorem dX10_refines_69 : decode cX10_refines 69 = .ok (.bipush 16, 2) := by decide +kernel
theorem dX10_refines_71 : decode cX10_refines 71 = .ok (.if_icmp .ge 21, 3) := by decide +kernel
theorem dX10_refines_74 : decode cX10_refines 74 = .ok (.aload_n 0, 1) := by decide +kernel
theorem dX10_refines_75 : decode cX10_refines 75 = .ok (.getfield 50, 3) := by decide +kernel
theorem dX10_refines_78 : decode cX10_refines 78 = .ok (.iload_n 3, 1) := by decide +kernel
theorem dX10_refines_79 : decode cX10_refines 79 = .ok (.aload_n 0, 1) := by decide +kernel
theorem dX10_refines_80 : decode cX10_refines 80 = .ok (.getfield 53, 3) := by decide +kernel
theorem dX10_refines_83 : decode cX10_refines 83 = .ok (.iload_n 3, 1) := by decide +kernel
theorem dX10_refines_84 : decode cX10_refines 84 = .ok (.iaload, 1) := by decide +kernel
theorem dX10_refines_85 : decode cX10_refines 85 = .ok (.iastore, 1) := by decide +kernel
theorem dX10_refines_86 : decode cX10_refines 86 = .ok (.iinc 3 1, 3) := by decide +kernel
theorem dX10_refines_89 : decode cX10_refines 89 = .ok (.goto (-21), 3) := by decide +kernel
theorem dX10_refines_92 : decode cX10_refines 92 = .ok (.return_, 1) := by decide +kernel
theorem dX10_classes_0 : decode cX10_classes 0 = .ok (.aload_n 0, 1) := by decide +kernel
theorem dX10_classes_1 : decode cX10_classes 1 = .ok (.iload_n 1, 1) := by decide +kernel
theorem dX10_classes_2 : decode cX10_classes 2 = .ok (.iconst 1, 1) := by decide +kernel
theorem dX10_classes_3 : decode cX10_classes 3 = .ok (.invokevirtual 113, 3) := by decide +kernel
theorem dX10_classes_6 : decode cX10_classes 6 = .ok (.iconst 0, 1) := by decide +kernel
theorem dX10_classes_7 : decode cX10_classes 7 = .ok (.istore_n 2, 1) := by decide +kernel
theorem dX10_classes_8 : decode cX10_classes 8 = .ok (.iload_n 2, 1) := by decide +kernel
theorem dX10_classes_9 : decode cX10_classes 9 = .ok (.bipush 16, 2) := by decide +kernel
theorem dX10_classes_11 : decode cX10_classes 11 = .ok (.if_icmp .ge 15, 3) := by decide +kernel
theorem dX10_classes_14 : decode cX10_classes 14 = .ok (.aload_n 0, 1) := by decide +kernel
theorem dX10_classes_15 : decode cX10_classes 15 = .ok (.iload_n 1, 1) := by decide +kernel
theorem dX10_classes_16 : decode cX10_classes 16 = .ok (.iconst 0, 1) := by decide +kernel
theorem dX10_classes_17 : decode cX10_classes 17 = .ok (.invokevirtual 113, 3) := by decide +kernel
theorem dX10_classes_20 : decode cX10_classes 20 = .ok (.iinc 2 1, 3) := by decide +kernel
theorem dX10_classes_23 : decode cX10_classes 23 = .ok (.goto (-15), 3) := by decide +kernel
theorem dX10_classes_26 : decode cX10_classes 26 = .ok (.aload_n 0, 1) := by decide +kernel
theorem dX10_classes_27 : decode cX10_classes 27 = .ok (.iload_n 1, 1) := by decide +kernel
theorem dX10_classes_28 : decode cX10_classes 28 = .ok (.invokevirtual 106, 3) := by decide +kernel
theorem dX10_classes_31 : decode cX10_classes 31 = .ok (.istore_n 2, 1) := by decide +kernel
theorem dX10_classes_32 : decode cX10_classes 32 = .ok (.iconst 0, 1) := by decide +kernel
theorem dX10_classes_33 : decode cX10_classes 33 = .ok (.istore_n 3, 1) := by decide +kernel
theorem dX10_classes_34 : decode cX10_classes 34 = .ok (.iconst 0, 1) := by decide +kernel
theorem dX10_classes_35 : decode cX10_classes 35 = .ok (.istore 4, 2) := by decide +kernel
theorem dX10_classes_37 : decode cX10_classes 37 = .ok (.iload 4, 2) := by decide +kernel
theorem dX10_classes_39 : decode cX10_classes 39 = .ok (.bipush 16, 2) := by decide +kernel
theorem dX10_classes_41 : decode cX10_classes 41 = .ok (.if_icmp .ge 35, 3) := by decide +kernel
theorem dX10_classes_44 : decode cX10_classes 44 = .ok (.iload_n 3, 1) := by decide +kernel
theorem dX10_classes_45 : decode cX10_classes 45 = .ok (.iload_n 2, 1) := by decide +kernel
theorem dX10_classes_46 : decode cX10_classes 46 = .ok (.iload 4, 2) := by decide +kernel
theorem dX10_classes_48 : decode cX10_classes 48 = .ok (.ishr, 1) := by decide +kernel
theorem dX10_classes_49 : decode cX10_classes 49 = .ok (.iconst 1, 1) := by decide +kernel
theorem dX10_classes_50 : decode cX10_classes 50 = .ok (.iand, 1) := by decide +kernel
theorem dX10_classes_51 : decode cX10_classes 51 = .ok (.iconst 1, 1) := by decide +kernel
theorem dX10_classes_52 : decode cX10_classes 52 = .ok (.if_icmp .ne 15, 3) := by decide +kernel
theorem dX10_classes_55 : decode cX10_classes 55 = .ok (.iconst 1, 1) := by decide +kernel
theorem dX10_classes_56 : decode cX10_classes 56 = .ok (.aload_n 0, 1) := by decide +kernel
theorem dX10_classes_57 : decode cX10_classes 57 = .ok (.getfield 50, 3) := by decide +kernel
theorem dX10_classes_60 : decode cX10_classes 60 = .ok (.iload 4, 2) := by decide +kernel
theorem dX10_classes_62 : decode cX10_classes 62 = .ok (.iaload, 1) := by decide +kernel
theorem dX10_classes_63 : decode cX10_classes 63 = .ok (.ishl, 1) := by decide +kernel
theorem dX10_classes_64 : decode cX10_classes 64 = .ok (.goto 4, 3) := by decide +kernel
theorem dX10_classes_67 : decode cX10_classes 67 = .ok (.iconst 0, 1) := by decide +kernel
theorem dX10_classes_68 : decode cX10_classes 68 = .ok (.ior, 1) := by decide +kernel
theorem dX10_classes_69 : decode cX10_classes 69 = .ok (.istore_n 3, 1) := by decide +kernel
theorem dX10_classes_70 : decode cX10_classes 70 = .ok (.iinc 4 1, 3) := by decide +kernel
theorem dX10_classes_73 : decode cX10_classes 73 = .ok (.goto (-36), 3) := by decide +kernel
theorem dX10_classes_76 : decode cX10_classes 76 = .ok (.iconst 0, 1) := by decide +kernel
theorem dX10_classes_77 : decode cX10_classes 77 = .ok (.istore 4, 2) := by decide +kernel
theorem dX10_classes_79 : decode cX10_classes 79 = .ok (.iconst 0, 1) := by decide +kernel
theorem dX10_classes_80 : decode cX10_classes 80 = .ok (.istore 5, 2) := by decide +kernel
theorem dX10_classes_82 : decode cX10_classes 82 = .ok (.iload 5, 2) := by decide +kernel
theorem dX10_classes_84 : decode cX10_classes 84 = .ok (.bipush 16, 2) := by decide +kernel
theorem dX10_classes_86 : decode cX10_classes 86 = .ok (.if_icmp .ge 20, 3) := by decide +kernel
theorem dX10_classes_89 : decode cX10_classes 89 = .ok (.iload 4, 2) := by decide +kernel
theorem dX10_classes_91 : decode cX10_classes 91 = .ok (.iload_n 3, 1) := by decide +kernel
theorem dX10_classes_92 : decode cX10_classes 92 = .ok (.iload 5, 2) := by decide +kernel
theorem dX10_classes_94 : decode cX10_classes 94 = .ok (.ishr, 1) := by decide +kernel
theorem dX10_classes_95 : decode cX10_classes 95 = .ok (.iconst 1, 1) := by decide +kernel
theorem dX10_classes_96 : decode cX10_classes 96 = .ok (.iand, 1) := by decide +kernel
theorem dX10_classes_97 : decode cX10_classes 97 = .ok (.iadd, 1) := by decide +kernel
theorem dX10_classes_98 : decode cX10_classes 98 = .ok (.istore 4, 2) := by decide +kernel
theorem dX10_classes_100 : decode cX10_classes 100 = .ok (.iinc 5 1, 3) := by decide +kernel
theorem dX10_classes_103 : decode cX10_classes 103 = .ok (.goto (-21), 3) := by decide +kernel
theorem dX10_classes_106 : decode cX10_classes 106 = .ok (.iload 4, 2) := by decide +kernel
theorem dX10_classes_108 : decode cX10_classes 108 = .ok (.ireturn, 1) := by decide +kernel
theorem dX10_depends_0 : decode cX10_depends 0 = .ok (.iconst 1, 1) := by decide +kernel
theorem dX10_depends_1 : decode cX10_depends 1 = .ok (.aload_n 0, 1) := by decide +kernel
theorem dX10_depends_2 : decode cX10_depends 2 = .ok (.iload_n 1, 1) := by decide +kernel
theorem dX10_depends_3 : decode cX10_depends 3 = .ok (.iconst 1, 1) := by decide +kernel
theorem dX10_depends_4 : decode cX10_depends 4 = .ok (.invokevirtual 69, 3) := by decide +kernel
theorem dX10_depends_7 : decode cX10_depends 7 = .ok (.ishl, 1) := by decide +kernel
theorem dX10_depends_8 : decode cX10_depends 8 = .ok (.istore_n 2, 1) := by decide +kernel
theorem dX10_depends_9 : decode cX10_depends 9 = .ok (.aload_n 0, 1) := by decide +kernel
theorem dX10_depends_10 : decode cX10_depends 10 = .ok (.iload_n 1, 1) := by decide +kernel
theorem dX10_depends_11 : decode cX10_depends 11 = .ok (.iconst 0, 1) := by decide +kernel
theorem dX10_depends_12 : decode cX10_depends 12 = .ok (.invokevirtual 69, 3) := by decide +kernel
theorem dX10_depends_15 : decode cX10_depends 15 = .ok (.iconst 1, 1) := by decide +kernel
theorem dX10_depends_16 : decode cX10_depends 16 = .ok (.isub, 1) := by decide +kernel
theorem dX10_depends_17 : decode cX10_depends 17 = .ok (.istore_n 3, 1) := by decide +kernel
theorem dX10_depends_18 : decode cX10_depends 18 = .ok (.iload_n 3, 1) := by decide +kernel
theorem dX10_depends_19 : decode cX10_depends 19 = .ok (.ifCond .lt 72, 3) := by decide +kernel
theorem dX10_depends_22 : decode cX10_depends 22 = .ok (.bipush 10, 2) := by decide +kernel
theorem dX10_depends_24 : decode cX10_depends 24 = .ok (.iconst 3, 1) := by decide +kernel
theorem dX10_depends_25 : decode cX10_depends 25 = .ok (.iload_n 3, 1) := by decide +kernel
theorem dX10_depends_26 : decode cX10_depends 26 = .ok (.imul, 1) := by decide +kernel
theorem dX10_depends_27 : decode cX10_depends 27 = .ok (.iadd, 1) := by decide +kernel
theorem dX10_depends_28 : decode cX10_depends 28 = .ok (.istore 4, 2) := by decide +kernel
theorem dX10_depends_30 : decode cX10_depends 30 = .ok (.iload_n 2, 1) := by decide +kernel
theorem dX10_depends_31 : decode cX10_depends 31 = .ok (.bipush 6, 2) := by decide +kernel
theorem dX10_depends_33 : decode cX10_depends 33 = .ok (.iload_n 3, 1) := by decide +kernel
theorem dX10_depends_34 : decode cX10_depends 34 = .ok (.iadd, 1) := by decide +kernel
theorem dX10_depends_35 : decode cX10_depends 35 = .ok (.ishr, 1) := by decide +kernel
theorem dX10_depends_36 : decode cX10_depends 36 = .ok (.iconst 1, 1) := by decide +kernel
theorem dX10_depends_37 : decode cX10_depends 37 = .ok (.iand, 1) := by decide +kernel
theorem dX10_depends_38 : decode cX10_depends 38 = .ok (.iconst 1, 1) := by decide +kernel
theorem dX10_depends_39 : decode cX10_depends 39 = .ok (.if_icmp .ne 46, 3) := by decide +kernel
theorem dX10_depends_42 : decode cX10_depends 42 = .ok (.iload_n 2, 1) := by decide +kernel
theorem dX10_depends_43 : decode cX10_depends 43 = .ok (.iconst 1, 1) := by decide +kernel
theorem dX10_depends_44 : decode cX10_depends 44 = .ok (.aload_n 0, 1) := by decide +kernel
theorem dX10_depends_45 : decode cX10_depends 45 = .ok (.iload_n 1, 1) := by decide +kernel
theorem dX10_depends_46 : decode cX10_depends 46 = .ok (.iload 4, 2) := by decide +kernel
theorem dX10_depends_48 : decode cX10_depends 48 = .ok (.iconst 1, 1) := by decide +kernel
theorem dX10_depends_49 : decode cX10_depends 49 = .ok (.iadd, 1) := by decide +kernel
theorem dX10_depends_50 : decode cX10_depends 50 = .ok (.invokevirtual 69, 3) := by decide +kernel
theorem dX10_depends_53 : decode cX10_depends 53 = .ok (.ishl, 1) := by decide +kernel
theorem dX10_depends_54 : decode cX10_depends 54 = .ok (.ior, 1) := by decide +kernel
theorem dX10_depends_55 : decode cX10_depends 55 = .ok (.istore_n 2, 1) := by decide +kernel
theorem dX10_depends_56 : decode cX10_depends 56 = .ok (.iload_n 2, 1) := by decide +kernel
theorem dX10_depends_57 : decode cX10_depends 57 = .ok (.aload_n 0, 1) := by decide +kernel
theorem dX10_depends_58 : decode cX10_depends 58 = .ok (.iload_n 1, 1) := by decide +kernel
theorem dX10_depends_59 : decode cX10_depends 59 = .ok (.iload 4, 2) := by decide +kernel
theorem dX10_depends_61 : decode cX10_depends 61 = .ok (.invokevirtual 69, 3) := by decide +kernel
theorem dX10_depends_64 : decode cX10_depends 64 = .ok (.iconst 4, 1) := by decide +kernel
theorem dX10_depends_65 : decode cX10_depends 65 = .ok (.if_icmp .ge 17, 3) := by decide +kernel
theorem dX10_depends_68 : decode cX10_depends 68 = .ok (.iconst 1, 1) := by decide +kernel
theorem dX10_depends_69 : decode cX10_depends 69 = .ok (.aload_n 0, 1) := by decide +kernel
theorem dX10_depends_70 : decode cX10_depends 70 = .ok (.iload_n 1, 1) := by decide +kernel
theorem dX10_depends_71 : decode cX10_depends 71 = .ok (.iload 4, 2) := by decide +kernel
theorem dX10_depends_73 : decode cX10_depends 73 = .ok (.iconst 2, 1) := by decide +kernel
theorem dX10_depends_74 : decode cX10_depends 74 = .ok (.iadd, 1) := by decide +kernel
theorem dX10_depends_75 : decode cX10_depends 75 = .ok (.invokevirtual 69, 3) := by decide +kernel
theorem dX10_depends_78 : decode cX10_depends 78 = .ok (.ishl, 1) := by decide +kernel
theorem dX10_depends_79 : decode cX10_depends 79 = .ok (.goto 4, 3) := by decide +kernel
theorem dX10_depends_82 : decode cX10_depends 82 = .ok (.iconst 0, 1) := by decide +kernel
theorem dX10_depends_83 : decode cX10_depends 83 = .ok (.ior, 1) := by decide +kernel
theorem dX10_depends_84 : decode cX10_depends 84 = .ok (.istore_n 2, 1) := by decide +kernel
theorem dX10_depends_85 : decode cX10_depends 85 = .ok (.iinc 3 (-1), 3) := by decide +kernel
theorem dX10_depends_88 : decode cX10_depends 88 = .ok (.goto (-70), 3) := by decide +kernel
theorem dX10_depends_91 : decode cX10_depends 91 = .ok (.iload_n 2, 1) := by decide +kernel
theorem dX10_depends_92 : decode cX10_depends 92 = .ok (.bipush 6, 2) := by decide +kernel
theorem dX10_depends_94 : decode cX10_depends 94 = .ok (.ishr, 1) := by decide +kernel
theorem dX10_depends_95 : decode cX10_depends 95 = .ok (.iconst 1, 1) := by decide +kernel
theorem dX10_depends_96 : decode cX10_depends 96 = .ok (.aload_n 0, 1) := by decide +kernel
theorem dX10_depends_97 : decode cX10_depends 97 = .ok (.iload_n 1, 1) := by decide +kernel
theorem dX10_depends_98 : decode cX10_depends 98 = .ok (.iconst 0, 1) := by decide +kernel
theorem dX10_depends_99 : decode cX10_depends 99 = .ok (.invokevirtual 69, 3) := by decide +kernel
theorem dX10_depends_102 : decode cX10_depends 102 = .ok (.ishl, 1) := by decide +kernel
theorem dX10_depends_103 : decode cX10_depends 103 = .ok (.iconst 1, 1) := by decide +kernel
theorem dX10_depends_104 : decode cX10_depends 104 = .ok (.isub, 1) := by decide +kernel
theorem dX10_depends_105 : decode cX10_depends 105 = .ok (.iand, 1) := by decide +kernel
theorem dX10_depends_106 : decode cX10_depends 106 = .ok (.ireturn, 1) := by decide +kernel
theorem dX10_circuitOf_0 : decode cX10_circuitOf 0 = .ok (.iload_n 2, 1) := by decide +kernel
theorem dX10_circuitOf_1 : decode cX10_circuitOf 1 = .ok (.bipush 10, 2) := by decide +kernel
theorem dX10_circuitOf_3 : decode cX10_circuitOf 3 = .ok (.bipush 17, 2) := by decide +kernel
theorem dX10_circuitOf_5 : decode cX10_circuitOf 5 = .ok (.invokestatic 65, 3) := by decide +kernel
theorem dX10_circuitOf_8 : decode cX10_circuitOf 8 = .ok (.ifCond .ne 25, 3) := by decide +kernel
theorem dX10_circuitOf_11 : decode cX10_circuitOf 11 = .ok (.iload_n 2, 1) := by decide +kernel
theorem dX10_circuitOf_12 : decode cX10_circuitOf 12 = .ok (.bipush 20, 2) := by decide +kernel
theorem dX10_circuitOf_14 : decode cX10_circuitOf 14 = .ok (.bipush 27, 2) := by decide +kernel
theorem dX10_circuitOf_16 : decode cX10_circuitOf 16 = .ok (.invokestatic 65, 3) := by decide +kernel
theorem dX10_circuitOf_19 : decode cX10_circuitOf 19 = .ok (.ifCond .ne 14, 3) := by decide +kernel
theorem dX10_circuitOf_22 : decode cX10_circuitOf 22 = .ok (.iload_n 2, 1) := by decide +kernel
theorem dX10_circuitOf_23 : decode cX10_circuitOf 23 = .ok (.bipush 30, 2) := by decide +kernel
theorem dX10_circuitOf_25 : decode cX10_circuitOf 25 = .ok (.bipush 37, 2) := by decide +kernel
theorem dX10_circuitOf_27 : decode cX10_circuitOf 27 = .ok (.invokestatic 65, 3) := by decide +kernel
theorem dX10_circuitOf_30 : decode cX10_circuitOf 30 = .ok (.ifCond .eq 7, 3) := by decide +kernel
theorem dX10_circuitOf_33 : decode cX10_circuitOf 33 = .ok (.iconst 1, 1) := by decide +kernel
theorem dX10_circuitOf_34 : decode cX10_circuitOf 34 = .ok (.goto 4, 3) := by decide +kernel
theorem dX10_circuitOf_37 : decode cX10_circuitOf 37 = .ok (.iconst 0, 1) := by decide +kernel
theorem dX10_circuitOf_38 : decode cX10_circuitOf 38 = .ok (.istore_n 3, 1) := by decide +kernel
theorem dX10_circuitOf_39 : decode cX10_circuitOf 39 = .ok (.iload_n 1, 1) := by decide +kernel
theorem dX10_circuitOf_40 : decode cX10_circuitOf 40 = .ok (.iconst 0, 1) := by decide +kernel
theorem dX10_circuitOf_41 : decode cX10_circuitOf 41 = .ok (.iconst 1, 1) := by decide +kernel
theorem dX10_circuitOf_42 : decode cX10_circuitOf 42 = .ok (.invokestatic 65, 3) := by decide +kernel
theorem dX10_circuitOf_45 : decode cX10_circuitOf 45 = .ok (.ifCond .eq 17, 3) := by decide +kernel
theorem dX10_circuitOf_48 : decode cX10_circuitOf 48 = .ok (.iload_n 2, 1) := by decide +kernel
theorem dX10_circuitOf_49 : decode cX10_circuitOf 49 = .ok (.iconst 0, 1) := by decide +kernel
theorem dX10_circuitOf_50 : decode cX10_circuitOf 50 = .ok (.bipush 6, 2) := by decide +kernel
theorem dX10_circuitOf_52 : decode cX10_circuitOf 52 = .ok (.invokestatic 65, 3) := by decide +kernel
theorem dX10_circuitOf_55 : decode cX10_circuitOf 55 = .ok (.ifCond .ne 10, 3) := by decide +kernel
theorem dX10_circuitOf_58 : decode cX10_circuitOf 58 = .ok (.iload_n 3, 1) := by decide +kernel
theorem dX10_circuitOf_59 : decode cX10_circuitOf 59 = .ok (.ifCond .ne 6, 3) := by decide +kernel
theorem dX10_circuitOf_62 : decode cX10_circuitOf 62 = .ok (.ldc 60, 2) := by decide +kernel
theorem dX10_circuitOf_64 : decode cX10_circuitOf 64 = .ok (.ireturn, 1) := by decide +kernel
theorem dX10_circuitOf_65 : decode cX10_circuitOf 65 = .ok (.iload_n 2, 1) := by decide +kernel
theorem dX10_circuitOf_66 : decode cX10_circuitOf 66 = .ok (.tableswitch 79 0 6 #[42, 42, 49, 55, 61, 67, 73], 42) := by decide +kernel
theorem dX10_circuitOf_108 : decode cX10_circuitOf 108 = .ok (.aload_n 0, 1) := by decide +kernel
theorem dX10_circuitOf_109 : decode cX10_circuitOf 109 = .ok (.iload_n 1, 1) := by decide +kernel
theorem dX10_circuitOf_110 : decode cX10_circuitOf 110 = .ok (.iload_n 2, 1) := by decide +kernel
theorem dX10_circuitOf_111 : decode cX10_circuitOf 111 = .ok (.invokevirtual 69, 3) := by decide +kernel
theorem dX10_circuitOf_114 : decode cX10_circuitOf 114 = .ok (.ireturn, 1) := by decide +kernel
theorem dX10_circuitOf_115 : decode cX10_circuitOf 115 = .ok (.aload_n 0, 1) := by decide +kernel
theorem dX10_circuitOf_116 : decode cX10_circuitOf 116 = .ok (.iload_n 1, 1) := by decide +kernel
theorem dX10_circuitOf_117 : decode cX10_circuitOf 117 = .ok (.invokevirtual 97, 3) := by decide +kernel
theorem dX10_circuitOf_120 : decode cX10_circuitOf 120 = .ok (.ireturn, 1) := by decide +kernel
theorem dX10_circuitOf_121 : decode cX10_circuitOf 121 = .ok (.aload_n 0, 1) := by decide +kernel
theorem dX10_circuitOf_122 : decode cX10_circuitOf 122 = .ok (.iload_n 1, 1) := by decide +kernel
theorem dX10_circuitOf_123 : decode cX10_circuitOf 123 = .ok (.invokevirtual 106, 3) := by decide +kernel
theorem dX10_circuitOf_126 : decode cX10_circuitOf 126 = .ok (.ireturn, 1) := by decide +kernel
theorem dX10_circuitOf_127 : decode cX10_circuitOf 127 = .ok (.aload_n 0, 1) := by decide +kernel
theorem dX10_circuitOf_128 : decode cX10_circuitOf 128 = .ok (.iload_n 1, 1) := by decide +kernel
theorem dX10_circuitOf_129 : decode cX10_circuitOf 129 = .ok (.invokevirtual 117, 3) := by decide +kernel
theorem dX10_circuitOf_132 : decode cX10_circuitOf 132 = .ok (.ireturn, 1) := by decide +kernel
theorem dX10_circuitOf_133 : decode cX10_circuitOf 133 = .ok (.aload_n 0, 1) := by decide +kernel
theorem dX10_circuitOf_134 : decode cX10_circuitOf 134 = .ok (.iload_n 1, 1) := by decide +kernel
theorem dX10_circuitOf_135 : decode cX10_circuitOf 135 = .ok (.invokevirtual 120, 3) := by decide +kernel
theorem dX10_circuitOf_138 : decode cX10_circuitOf 138 = .ok (.ireturn, 1) := by decide +kernel
theorem dX10_circuitOf_139 : decode cX10_circuitOf 139 = .ok (.aload_n 0, 1) := by decide +kernel
theorem dX10_circuitOf_140 : decode cX10_circuitOf 140 = .ok (.iload_n 1, 1) := by decide +kernel
theorem dX10_circuitOf_141 : decode cX10_circuitOf 141 = .ok (.invokevirtual 123, 3) := by decide +kernel
theorem dX10_circuitOf_144 : decode cX10_circuitOf 144 = .ok (.ireturn, 1) := by decide +kernel
theorem dX10_circuitOf_145 : decode cX10_circuitOf 145 = .ok (.iload_n 2, 1) := by decide +kernel
theorem dX10_circuitOf_146 : decode cX10_circuitOf 146 = .ok (.bipush 10, 2) := by decide +kernel
theorem dX10_circuitOf_148 : decode cX10_circuitOf 148 = .ok (.irem, 1) := by decide +kernel
theorem dX10_circuitOf_149 : decode cX10_circuitOf 149 = .ok (.aload_n 0, 1) := by decide +kernel
theorem dX10_circuitOf_150 : decode cX10_circuitOf 150 = .ok (.iload_n 1, 1) := by decide +kernel
theorem dX10_circuitOf_151 : decode cX10_circuitOf 151 = .ok (.iconst 0, 1) := by decide +kernel
theorem dX10_circuitOf_152 : decode cX10_circuitOf 152 = .ok (.invokevirtual 69, 3) := by decide +kernel
theorem dX10_circuitOf_155 : decode cX10_circuitOf 155 = .ok (.if_icmp .ge 27, 3) := by decide +kernel
theorem dX10_circuitOf_158 : decode cX10_circuitOf 158 = .ok (.aload_n 0, 1) := by decide +kernel
theorem dX10_circuitOf_159 : decode cX10_circuitOf 159 = .ok (.iload_n 1, 1) := by decide +kernel
theorem dX10_circuitOf_160 : decode cX10_circuitOf 160 = .ok (.bipush 10, 2) := by decide +kernel
theorem dX10_circuitOf_162 : decode cX10_circuitOf 162 = .ok (.iconst 3, 1) := by decide +kernel
theorem dX10_circuitOf_163 : decode cX10_circuitOf 163 = .ok (.iload_n 2, 1) := by decide +kernel
theorem dX10_circuitOf_164 : decode cX10_circuitOf 164 = .ok (.bipush 10, 2) := by decide +kernel
theorem dX10_circuitOf_166 : decode cX10_circuitOf 166 = .ok (.irem, 1) := by decide +kernel
theorem dX10_circuitOf_167 : decode cX10_circuitOf 167 = .ok (.imul, 1) := by decide +kernel
theorem dX10_circuitOf_168 : decode cX10_circuitOf 168 = .ok (.iadd, 1) := by decide +kernel
theorem dX10_circuitOf_169 : decode cX10_circuitOf 169 = .ok (.iload_n 2, 1) := by decide +kernel
theorem dX10_circuitOf_170 : decode cX10_circuitOf 170 = .ok (.bipush 10, 2) := by decide +kernel
theorem dX10_circuitOf_172 : decode cX10_circuitOf 172 = .ok (.idiv, 1) := by decide +kernel
theorem dX10_circuitOf_173 : decode cX10_circuitOf 173 = .ok (.iadd, 1) := by decide +kernel
theorem dX10_circuitOf_174 : decode cX10_circuitOf 174 = .ok (.iconst 1, 1) := by decide +kernel
theorem dX10_circuitOf_175 : decode cX10_circuitOf 175 = .ok (.isub, 1) := by decide +kernel
theorem dX10_circuitOf_176 : decode cX10_circuitOf 176 = .ok (.invokevirtual 69, 3) := by decide +kernel
theorem dX10_circuitOf_179 : decode cX10_circuitOf 179 = .ok (.goto 5, 3) := by decide +kernel
theorem dX10_circuitOf_182 : decode cX10_circuitOf 182 = .ok (.ldc 126, 2) := by decide +kernel
theorem dX10_circuitOf_184 : decode cX10_circuitOf 184 = .ok (.ireturn, 1) := by decide +kernel
theorem dX10_pairsUp_0 : decode cX10_pairsUp 0 = .ok (.iconst 0, 1) := by decide +kernel
theorem dX10_pairsUp_1 : decode cX10_pairsUp 1 = .ok (.istore_n 1, 1) := by decide +kernel
theorem dX10_pairsUp_2 : decode cX10_pairsUp 2 = .ok (.iload_n 1, 1) := by decide +kernel
theorem dX10_pairsUp_3 : decode cX10_pairsUp 3 = .ok (.sipush 256, 3) := by decide +kernel
theorem dX10_pairsUp_6 : decode cX10_pairsUp 6 = .ok (.if_icmp .ge 16, 3) := by decide +kernel
theorem dX10_pairsUp_9 : decode cX10_pairsUp 9 = .ok (.aload_n 0, 1) := by decide +kernel
theorem dX10_pairsUp_10 : decode cX10_pairsUp 10 = .ok (.getfield 41, 3) := by decide +kernel
theorem dX10_pairsUp_13 : decode cX10_pairsUp 13 = .ok (.iload_n 1, 1) := by decide +kernel
theorem dX10_pairsUp_14 : decode cX10_pairsUp 14 = .ok (.iconst 0, 1) := by decide +kernel
theorem dX10_pairsUp_15 : decode cX10_pairsUp 15 = .ok (.iastore, 1) := by decide +kernel
theorem dX10_pairsUp_16 : decode cX10_pairsUp 16 = .ok (.iinc 1 1, 3) := by decide +kernel
theorem dX10_pairsUp_19 : decode cX10_pairsUp 19 = .ok (.goto (-17), 3) := by decide +kernel
theorem dX10_pairsUp_22 : decode cX10_pairsUp 22 = .ok (.aload_n 0, 1) := by decide +kernel
theorem dX10_pairsUp_23 : decode cX10_pairsUp 23 = .ok (.getfield 29, 3) := by decide +kernel
theorem dX10_pairsUp_26 : decode cX10_pairsUp 26 = .ok (.iconst 0, 1) := by decide +kernel
theorem dX10_pairsUp_27 : decode cX10_pairsUp 27 = .ok (.bipush 16, 2) := by decide +kernel
theorem dX10_pairsUp_29 : decode cX10_pairsUp 29 = .ok (.aload_n 0, 1) := by decide +kernel
theorem dX10_pairsUp_30 : decode cX10_pairsUp 30 = .ok (.iconst 0, 1) := by decide +kernel
theorem dX10_pairsUp_31 : decode cX10_pairsUp 31 = .ok (.invokevirtual 97, 3) := by decide +kernel
theorem dX10_pairsUp_34 : decode cX10_pairsUp 34 = .ok (.imul, 1) := by decide +kernel
theorem dX10_pairsUp_35 : decode cX10_pairsUp 35 = .ok (.aload_n 0, 1) := by decide +kernel
theorem dX10_pairsUp_36 : decode cX10_pairsUp 36 = .ok (.iconst 1, 1) := by decide +kernel
theorem dX10_pairsUp_37 : decode cX10_pairsUp 37 = .ok (.invokevirtual 97, 3) := by decide +kernel
theorem dX10_pairsUp_40 : decode cX10_pairsUp 40 = .ok (.iadd, 1) := by decide +kernel
theorem dX10_pairsUp_41 : decode cX10_pairsUp 41 = .ok (.iastore, 1) := by decide +kernel
theorem dX10_pairsUp_42 : decode cX10_pairsUp 42 = .ok (.aload_n 0, 1) := by decide +kernel
theorem dX10_pairsUp_43 : decode cX10_pairsUp 43 = .ok (.getfield 41, 3) := by decide +kernel
theorem dX10_pairsUp_46 : decode cX10_pairsUp 46 = .ok (.aload_n 0, 1) := by decide +kernel
theorem dX10_pairsUp_47 : decode cX10_pairsUp 47 = .ok (.getfield 29, 3) := by decide +kernel
theorem dX10_pairsUp_50 : decode cX10_pairsUp 50 = .ok (.iconst 0, 1) := by decide +kernel
theorem dX10_pairsUp_51 : decode cX10_pairsUp 51 = .ok (.iaload, 1) := by decide +kernel
theorem dX10_pairsUp_52 : decode cX10_pairsUp 52 = .ok (.iconst 1, 1) := by decide +kernel
theorem dX10_pairsUp_53 : decode cX10_pairsUp 53 = .ok (.iastore, 1) := by decide +kernel
theorem dX10_pairsUp_54 : decode cX10_pairsUp 54 = .ok (.aload_n 0, 1) := by decide +kernel
theorem dX10_pairsUp_55 : decode cX10_pairsUp 55 = .ok (.getfield 32, 3) := by decide +kernel
theorem dX10_pairsUp_58 : decode cX10_pairsUp 58 = .ok (.iconst 0, 1) := by decide +kernel
theorem dX10_pairsUp_59 : decode cX10_pairsUp 59 = .ok (.iconst (-1), 1) := by decide +kernel
theorem dX10_pairsUp_60 : decode cX10_pairsUp 60 = .ok (.iastore, 1) := by decide +kernel
theorem dX10_pairsUp_61 : decode cX10_pairsUp 61 = .ok (.aload_n 0, 1) := by decide +kernel
theorem dX10_pairsUp_62 : decode cX10_pairsUp 62 = .ok (.getfield 38, 3) := by decide +kernel
theorem dX10_pairsUp_65 : decode cX10_pairsUp 65 = .ok (.iconst 0, 1) := by decide +kernel
theorem dX10_pairsUp_66 : decode cX10_pairsUp 66 = .ok (.iconst 0, 1) := by decide +kernel
theorem dX10_pairsUp_67 : decode cX10_pairsUp 67 = .ok (.iastore, 1) := by decide +kernel
theorem dX10_pairsUp_68 : decode cX10_pairsUp 68 = .ok (.aload_n 0, 1) := by decide +kernel
theorem dX10_pairsUp_69 : decode cX10_pairsUp 69 = .ok (.iconst 1, 1) := by decide +kernel
theorem dX10_pairsUp_70 : decode cX10_pairsUp 70 = .ok (.putfield 127, 3) := by decide +kernel
theorem dX10_pairsUp_73 : decode cX10_pairsUp 73 = .ok (.aload_n 0, 1) := by decide +kernel
theorem dX10_pairsUp_74 : decode cX10_pairsUp 74 = .ok (.iconst (-1), 1) := by decide +kernel
theorem dX10_pairsUp_75 : decode cX10_pairsUp 75 = .ok (.putfield 130, 3) := by decide +kernel
theorem dX10_pairsUp_78 : decode cX10_pairsUp 78 = .ok (.iconst 0, 1) := by decide +kernel
theorem dX10_pairsUp_79 : decode cX10_pairsUp 79 = .ok (.istore_n 1, 1) := by decide +kernel
theorem dX10_pairsUp_80 : decode cX10_pairsUp 80 = .ok (.iload_n 1, 1) := by decide +kernel
theorem dX10_pairsUp_81 : decode cX10_pairsUp 81 = .ok (.aload_n 0, 1) := by decide +kernel
theorem dX10_pairsUp_82 : decode cX10_pairsUp 82 = .ok (.getfield 127, 3) := by decide +kernel
theorem dX10_pairsUp_85 : decode cX10_pairsUp 85 = .ok (.if_icmp .ge 180, 3) := by decide +kernel
theorem dX10_pairsUp_88 : decode cX10_pairsUp 88 = .ok (.aload_n 0, 1) := by decide +kernel
theorem dX10_pairsUp_89 : decode cX10_pairsUp 89 = .ok (.getfield 29, 3) := by decide +kernel
theorem dX10_pairsUp_92 : decode cX10_pairsUp 92 = .ok (.iload_n 1, 1) := by decide +kernel
theorem dX10_pairsUp_93 : decode cX10_pairsUp 93 = .ok (.iaload, 1) := by decide +kernel
theorem dX10_pairsUp_94 : decode cX10_pairsUp 94 = .ok (.bipush 16, 2) := by decide +kernel
theorem dX10_pairsUp_96 : decode cX10_pairsUp 96 = .ok (.idiv, 1) := by decide +kernel
theorem dX10_pairsUp_97 : decode cX10_pairsUp 97 = .ok (.istore_n 2, 1) := by decide +kernel
theorem dX10_pairsUp_98 : decode cX10_pairsUp 98 = .ok (.aload_n 0, 1) := by decide +kernel
theorem dX10_pairsUp_99 : decode cX10_pairsUp 99 = .ok (.getfield 29, 3) := by decide +kernel
theorem dX10_pairsUp_102 : decode cX10_pairsUp 102 = .ok (.iload_n 1, 1) := by decide +kernel
theorem dX10_pairsUp_103 : decode cX10_pairsUp 103 = .ok (.iaload, 1) := by decide +kernel
theorem dX10_pairsUp_104 : decode cX10_pairsUp 104 = .ok (.bipush 16, 2) := by decide +kernel
theorem dX10_pairsUp_106 : decode cX10_pairsUp 106 = .ok (.irem, 1) := by decide +kernel
theorem dX10_pairsUp_107 : decode cX10_pairsUp 107 = .ok (.istore_n 3, 1) := by decide +kernel
theorem dX10_pairsUp_108 : decode cX10_pairsUp 108 = .ok (.iconst 0, 1) := by decide +kernel
theorem dX10_pairsUp_109 : decode cX10_pairsUp 109 = .ok (.istore 4, 2) := by decide +kernel
theorem dX10_pairsUp_111 : decode cX10_pairsUp 111 = .ok (.iload 4, 2) := by decide +kernel
theorem dX10_pairsUp_113 : decode cX10_pairsUp 113 = .ok (.iconst 4, 1) := by decide +kernel
theorem dX10_pairsUp_114 : decode cX10_pairsUp 114 = .ok (.if_icmp .ge 145, 3) := by decide +kernel
theorem dX10_pairsUp_117 : decode cX10_pairsUp 117 = .ok (.aload_n 0, 1) := by decide +kernel
theorem dX10_pairsUp_118 : decode cX10_pairsUp 118 = .ok (.getfield 130, 3) := by decide +kernel
theorem dX10_pairsUp_121 : decode cX10_pairsUp 121 = .ok (.ifCond .ge 33, 3) := by decide +kernel
theorem dX10_pairsUp_124 : decode cX10_pairsUp 124 = .ok (.aload_n 0, 1) := by decide +kernel
theorem dX10_pairsUp_125 : decode cX10_pairsUp 125 = .ok (.iconst 0, 1) := by decide +kernel
theorem dX10_pairsUp_126 : decode cX10_pairsUp 126 = .ok (.iload_n 2, 1) := by decide +kernel
theorem dX10_pairsUp_127 : decode cX10_pairsUp 127 = .ok (.iload 4, 2) := by decide +kernel
theorem dX10_pairsUp_129 : decode cX10_pairsUp 129 = .ok (.invokevirtual 100, 3) := by decide +kernel
theorem dX10_pairsUp_132 : decode cX10_pairsUp 132 = .ok (.aload_n 0, 1) := by decide +kernel
theorem dX10_pairsUp_133 : decode cX10_pairsUp 133 = .ok (.iconst 1, 1) := by decide +kernel
theorem dX10_pairsUp_134 : decode cX10_pairsUp 134 = .ok (.iload_n 3, 1) := by decide +kernel
theorem dX10_pairsUp_135 : decode cX10_pairsUp 135 = .ok (.iload 4, 2) := by decide +kernel
theorem dX10_pairsUp_137 : decode cX10_pairsUp 137 = .ok (.invokevirtual 100, 3) := by decide +kernel
theorem dX10_pairsUp_140 : decode cX10_pairsUp 140 = .ok (.if_icmp .eq 14, 3) := by decide +kernel
theorem dX10_pairsUp_143 : decode cX10_pairsUp 143 = .ok (.aload_n 0, 1) := by decide +kernel
theorem dX10_pairsUp_144 : decode cX10_pairsUp 144 = .ok (.iload_n 1, 1) := by decide +kernel
theorem dX10_pairsUp_145 : decode cX10_pairsUp 145 = .ok (.putfield 130, 3) := by decide +kernel
theorem dX10_pairsUp_148 : decode cX10_pairsUp 148 = .ok (.aload_n 0, 1) := by decide +kernel
theorem dX10_pairsUp_149 : decode cX10_pairsUp 149 = .ok (.iload 4, 2) := by decide +kernel
theorem dX10_pairsUp_151 : decode cX10_pairsUp 151 = .ok (.putfield 133, 3) := by decide +kernel
theorem dX10_pairsUp_154 : decode cX10_pairsUp 154 = .ok (.bipush 16, 2) := by decide +kernel
theorem dX10_pairsUp_156 : decode cX10_pairsUp 156 = .ok (.aload_n 0, 1) := by decide +kernel
theorem dX10_pairsUp_157 : decode cX10_pairsUp 157 = .ok (.iconst 0, 1) := by decide +kernel
theorem dX10_pairsUp_158 : decode cX10_pairsUp 158 = .ok (.iload_n 2, 1) := by decide +kernel
theorem dX10_pairsUp_159 : decode cX10_pairsUp 159 = .ok (.iload 4, 2) := by decide +kernel
theorem dX10_pairsUp_161 : decode cX10_pairsUp 161 = .ok (.invokevirtual 94, 3) := by decide +kernel
theorem dX10_pairsUp_164 : decode cX10_pairsUp 164 = .ok (.imul, 1) := by decide +kernel
theorem dX10_pairsUp_165 : decode cX10_pairsUp 165 = .ok (.aload_n 0, 1) := by decide +kernel
theorem dX10_pairsUp_166 : decode cX10_pairsUp 166 = .ok (.iconst 1, 1) := by decide +kernel
theorem dX10_pairsUp_167 : decode cX10_pairsUp 167 = .ok (.iload_n 3, 1) := by decide +kernel
theorem dX10_pairsUp_168 : decode cX10_pairsUp 168 = .ok (.iload 4, 2) := by decide +kernel
theorem dX10_pairsUp_170 : decode cX10_pairsUp 170 = .ok (.invokevirtual 94, 3) := by decide +kernel
theorem dX10_pairsUp_173 : decode cX10_pairsUp 173 = .ok (.iadd, 1) := by decide +kernel
theorem dX10_pairsUp_174 : decode cX10_pairsUp 174 = .ok (.istore 5, 2) := by decide +kernel
theorem dX10_pairsUp_176 : decode cX10_pairsUp 176 = .ok (.aload_n 0, 1) := by decide +kernel
theorem dX10_pairsUp_177 : decode cX10_pairsUp 177 = .ok (.getfield 41, 3) := by decide +kernel
theorem dX10_pairsUp_180 : decode cX10_pairsUp 180 = .ok (.iload 5, 2) := by decide +kernel
theorem dX10_pairsUp_182 : decode cX10_pairsUp 182 = .ok (.iaload, 1) := by decide +kernel
theorem dX10_pairsUp_183 : decode cX10_pairsUp 183 = .ok (.ifCond .ne 70, 3) := by decide +kernel
theorem dX10_pairsUp_186 : decode cX10_pairsUp 186 = .ok (.aload_n 0, 1) := by decide +kernel
theorem dX10_pairsUp_187 : decode cX10_pairsUp 187 = .ok (.getfield 41, 3) := by decide +kernel
theorem dX10_pairsUp_190 : decode cX10_pairsUp 190 = .ok (.iload 5, 2) := by decide +kernel
theorem dX10_pairsUp_192 : decode cX10_pairsUp 192 = .ok (.iconst 1, 1) := by decide +kernel
theorem dX10_pairsUp_193 : decode cX10_pairsUp 193 = .ok (.iastore, 1) := by decide +kernel
theorem dX10_pairsUp_194 : decode cX10_pairsUp 194 = .ok (.aload_n 0, 1) := by decide +kernel
theorem dX10_pairsUp_195 : decode cX10_pairsUp 195 = .ok (.getfield 29, 3) := by decide +kernel
theorem dX10_pairsUp_198 : decode cX10_pairsUp 198 = .ok (.aload_n 0, 1) := by decide +kernel
theorem dX10_pairsUp_199 : decode cX10_pairsUp 199 = .ok (.getfield 127, 3) := by decide +kernel
theorem dX10_pairsUp_202 : decode cX10_pairsUp 202 = .ok (.iload 5, 2) := by decide +kernel
theorem dX10_pairsUp_204 : decode cX10_pairsUp 204 = .ok (.iastore, 1) := by decide +kernel
theorem dX10_pairsUp_205 : decode cX10_pairsUp 205 = .ok (.aload_n 0, 1) := by decide +kernel
theorem dX10_pairsUp_206 : decode cX10_pairsUp 206 = .ok (.getfield 32, 3) := by decide +kernel
theorem dX10_pairsUp_209 : decode cX10_pairsUp 209 = .ok (.aload_n 0, 1) := by decide +kernel
theorem dX10_pairsUp_210 : decode cX10_pairsUp 210 = .ok (.getfield 127, 3) := by decide +kernel
theorem dX10_pairsUp_213 : decode cX10_pairsUp 213 = .ok (.iload_n 1, 1) := by decide +kernel
theorem dX10_pairsUp_214 : decode cX10_pairsUp 214 = .ok (.iastore, 1) := by decide +kernel
theorem dX10_pairsUp_215 : decode cX10_pairsUp 215 = .ok (.aload_n 0, 1) := by decide +kernel
theorem dX10_pairsUp_216 : decode cX10_pairsUp 216 = .ok (.getfield 35, 3) := by decide +kernel
theorem dX10_pairsUp_219 : decode cX10_pairsUp 219 = .ok (.aload_n 0, 1) := by decide +kernel
theorem dX10_pairsUp_220 : decode cX10_pairsUp 220 = .ok (.getfield 127, 3) := by decide +kernel
theorem dX10_pairsUp_223 : decode cX10_pairsUp 223 = .ok (.iload 4, 2) := by decide +kernel
theorem dX10_pairsUp_225 : decode cX10_pairsUp 225 = .ok (.iastore, 1) := by decide +kernel
theorem dX10_pairsUp_226 : decode cX10_pairsUp 226 = .ok (.aload_n 0, 1) := by decide +kernel
theorem dX10_pairsUp_227 : decode cX10_pairsUp 227 = .ok (.getfield 38, 3) := by decide +kernel
theorem dX10_pairsUp_230 : decode cX10_pairsUp 230 = .ok (.aload_n 0, 1) := by decide +kernel
theorem dX10_pairsUp_231 : decode cX10_pairsUp 231 = .ok (.getfield 127, 3) := by decide +kernel
theorem dX10_pairsUp_234 : decode cX10_pairsUp 234 = .ok (.aload_n 0, 1) := by decide +kernel
theorem dX10_pairsUp_235 : decode cX10_pairsUp 235 = .ok (.getfield 38, 3) := by decide +kernel
theorem dX10_pairsUp_238 : decode cX10_pairsUp 238 = .ok (.iload_n 1, 1) := by decide +kernel
theorem dX10_pairsUp_239 : decode cX10_pairsUp 239 = .ok (.iaload, 1) := by decide +kernel
theorem dX10_pairsUp_240 : decode cX10_pairsUp 240 = .ok (.iconst 1, 1) := by decide +kernel
theorem dX10_pairsUp_241 : decode cX10_pairsUp 241 = .ok (.iadd, 1) := by decide +kernel
theorem dX10_pairsUp_242 : decode cX10_pairsUp 242 = .ok (.iastore, 1) := by decide +kernel
theorem dX10_pairsUp_243 : decode cX10_pairsUp 243 = .ok (.aload_n 0, 1) := by decide +kernel
theorem dX10_pairsUp_244 : decode cX10_pairsUp 244 = .ok (.dup, 1) := by decide +kernel
theorem dX10_pairsUp_245 : decode cX10_pairsUp 245 = .ok (.getfield 127, 3) := by decide +kernel
theorem dX10_pairsUp_248 : decode cX10_pairsUp 248 = .ok (.iconst 1, 1) := by decide +kernel
theorem dX10_pairsUp_249 : decode cX10_pairsUp 249 = .ok (.iadd, 1) := by decide +kernel
theorem dX10_pairsUp_250 : decode cX10_pairsUp 250 = .ok (.putfield 127, 3) := by decide +kernel
theorem dX10_pairsUp_253 : decode cX10_pairsUp 253 = .ok (.iinc 4 1, 3) := by decide +kernel
theorem dX10_pairsUp_256 : decode cX10_pairsUp 256 = .ok (.goto (-145), 3) := by decide +kernel
theorem dX10_pairsUp_259 : decode cX10_pairsUp 259 = .ok (.iinc 1 1, 3) := by decide +kernel
theorem dX10_pairsUp_262 : decode cX10_pairsUp 262 = .ok (.goto (-182), 3) := by decide +kernel
theorem dX10_pairsUp_265 : decode cX10_pairsUp 265 = .ok (.return_, 1) := by decide +kernel
theorem dX10_rowAt_0 : decode cX10_rowAt 0 = .ok (.iload_n 1, 1) := by decide +kernel
theorem dX10_rowAt_1 : decode cX10_rowAt 1 = .ok (.istore_n 3, 1) := by decide +kernel
theorem dX10_rowAt_2 : decode cX10_rowAt 2 = .ok (.aload_n 0, 1) := by decide +kernel
theorem dX10_rowAt_3 : decode cX10_rowAt 3 = .ok (.getfield 38, 3) := by decide +kernel
theorem dX10_rowAt_6 : decode cX10_rowAt 6 = .ok (.iload_n 3, 1) := by decide +kernel
theorem dX10_rowAt_7 : decode cX10_rowAt 7 = .ok (.iaload, 1) := by decide +kernel
theorem dX10_rowAt_8 : decode cX10_rowAt 8 = .ok (.iload_n 2, 1) := by decide +kernel
theorem dX10_rowAt_9 : decode cX10_rowAt 9 = .ok (.iconst 1, 1) := by decide +kernel
theorem dX10_rowAt_10 : decode cX10_rowAt 10 = .ok (.iadd, 1) := by decide +kernel
theorem dX10_rowAt_11 : decode cX10_rowAt 11 = .ok (.if_icmp .le 13, 3) := by decide +kernel
theorem dX10_rowAt_14 : decode cX10_rowAt 14 = .ok (.aload_n 0, 1) := by decide +kernel
theorem dX10_rowAt_15 : decode cX10_rowAt 15 = .ok (.getfield 32, 3) := by decide +kernel
theorem dX10_rowAt_18 : decode cX10_rowAt 18 = .ok (.iload_n 3, 1) := by decide +kernel
theorem dX10_rowAt_19 : decode cX10_rowAt 19 = .ok (.iaload, 1) := by decide +kernel
theorem dX10_rowAt_20 : decode cX10_rowAt 20 = .ok (.istore_n 3, 1) := by decide +kernel
theorem dX10_rowAt_21 : decode cX10_rowAt 21 = .ok (.goto (-19), 3) := by decide +kernel
theorem dX10_rowAt_24 : decode cX10_rowAt 24 = .ok (.aload_n 0, 1) := by decide +kernel
theorem dX10_rowAt_25 : decode cX10_rowAt 25 = .ok (.getfield 35, 3) := by decide +kernel
theorem dX10_rowAt_28 : decode cX10_rowAt 28 = .ok (.iload_n 3, 1) := by decide +kernel
theorem dX10_rowAt_29 : decode cX10_rowAt 29 = .ok (.iaload, 1) := by decide +kernel
theorem dX10_rowAt_30 : decode cX10_rowAt 30 = .ok (.ireturn, 1) := by decide +kernel
theorem dX10_differs_0 : decode cX10_differs 0 = .ok (.iconst 0, 1) := by decide +kernel
theorem dX10_differs_1 : decode cX10_differs 1 = .ok (.istore_n 2, 1) := by decide +kernel
theorem dX10_differs_2 : decode cX10_differs 2 = .ok (.iconst 0, 1) := by decide +kernel
theorem dX10_differs_3 : decode cX10_differs 3 = .ok (.istore_n 3, 1) := by decide +kernel
theorem dX10_differs_4 : decode cX10_differs 4 = .ok (.iload_n 3, 1) := by decide +kernel
theorem dX10_differs_5 : decode cX10_differs 5 = .ok (.iconst 4, 1) := by decide +kernel
theorem dX10_differs_6 : decode cX10_differs 6 = .ok (.if_icmp .ge 52, 3) := by decide +kernel
theorem dX10_differs_9 : decode cX10_differs 9 = .ok (.iload_n 2, 1) := by decide +kernel
theorem dX10_differs_10 : decode cX10_differs 10 = .ok (.aload_n 0, 1) := by decide +kernel
theorem dX10_differs_11 : decode cX10_differs 11 = .ok (.iconst 0, 1) := by decide +kernel
theorem dX10_differs_12 : decode cX10_differs 12 = .ok (.aload_n 0, 1) := by decide +kernel
theorem dX10_differs_13 : decode cX10_differs 13 = .ok (.getfield 29, 3) := by decide +kernel
theorem dX10_differs_16 : decode cX10_differs 16 = .ok (.iload_n 1, 1) := by decide +kernel
theorem dX10_differs_17 : decode cX10_differs 17 = .ok (.iaload, 1) := by decide +kernel
theorem dX10_differs_18 : decode cX10_differs 18 = .ok (.bipush 16, 2) := by decide +kernel
theorem dX10_differs_20 : decode cX10_differs 20 = .ok (.idiv, 1) := by decide +kernel
theorem dX10_differs_21 : decode cX10_differs 21 = .ok (.iload_n 3, 1) := by decide +kernel
theorem dX10_differs_22 : decode cX10_differs 22 = .ok (.invokevirtual 100, 3) := by decide +kernel
theorem dX10_differs_25 : decode cX10_differs 25 = .ok (.aload_n 0, 1) := by decide +kernel
theorem dX10_differs_26 : decode cX10_differs 26 = .ok (.iconst 1, 1) := by decide +kernel
theorem dX10_differs_27 : decode cX10_differs 27 = .ok (.aload_n 0, 1) := by decide +kernel
theorem dX10_differs_28 : decode cX10_differs 28 = .ok (.getfield 29, 3) := by decide +kernel
theorem dX10_differs_31 : decode cX10_differs 31 = .ok (.iload_n 1, 1) := by decide +kernel
theorem dX10_differs_32 : decode cX10_differs 32 = .ok (.iaload, 1) := by decide +kernel
theorem dX10_differs_33 : decode cX10_differs 33 = .ok (.bipush 16, 2) := by decide +kernel
theorem dX10_differs_35 : decode cX10_differs 35 = .ok (.irem, 1) := by decide +kernel
theorem dX10_differs_36 : decode cX10_differs 36 = .ok (.iload_n 3, 1) := by decide +kernel
theorem dX10_differs_37 : decode cX10_differs 37 = .ok (.invokevirtual 100, 3) := by decide +kernel
theorem dX10_differs_40 : decode cX10_differs 40 = .ok (.if_icmp .eq 9, 3) := by decide +kernel
theorem dX10_differs_43 : decode cX10_differs 43 = .ok (.iconst 1, 1) := by decide +kernel
theorem dX10_differs_44 : decode cX10_differs 44 = .ok (.iload_n 3, 1) := by decide +kernel
theorem dX10_differs_45 : decode cX10_differs 45 = .ok (.ishl, 1) := by decide +kernel
theorem dX10_differs_46 : decode cX10_differs 46 = .ok (.goto 4, 3) := by decide +kernel
theorem dX10_differs_49 : decode cX10_differs 49 = .ok (.iconst 0, 1) := by decide +kernel
theorem dX10_differs_50 : decode cX10_differs 50 = .ok (.ior, 1) := by decide +kernel
theorem dX10_differs_51 : decode cX10_differs 51 = .ok (.istore_n 2, 1) := by decide +kernel
theorem dX10_differs_52 : decode cX10_differs 52 = .ok (.iinc 3 1, 3) := by decide +kernel
theorem dX10_differs_55 : decode cX10_differs 55 = .ok (.goto (-51), 3) := by decide +kernel
theorem dX10_differs_58 : decode cX10_differs 58 = .ok (.iload_n 2, 1) := by decide +kernel
theorem dX10_differs_59 : decode cX10_differs 59 = .ok (.ireturn, 1) := by decide +kernel
theorem dX10_pairOf_0 : decode cX10_pairOf 0 = .ok (.iload_n 1, 1) := by decide +kernel
theorem dX10_pairOf_1 : decode cX10_pairOf 1 = .ok (.ifCond .lt 24, 3) := by decide +kernel
theorem dX10_pairOf_4 : decode cX10_pairOf 4 = .ok (.iload_n 2, 1) := by decide +kernel
theorem dX10_pairOf_5 : decode cX10_pairOf 5 = .ok (.iconst 0, 1) := by decide +kernel
theorem dX10_pairOf_6 : decode cX10_pairOf 6 = .ok (.iconst 3, 1) := by decide +kernel
theorem dX10_pairOf_7 : decode cX10_pairOf 7 = .ok (.invokestatic 65, 3) := by decide +kernel
theorem dX10_pairOf_10 : decode cX10_pairOf 10 = .ok (.ifCond .ne 18, 3) := by decide +kernel
theorem dX10_pairOf_13 : decode cX10_pairOf 13 = .ok (.iload_n 2, 1) := by decide +kernel
theorem dX10_pairOf_14 : decode cX10_pairOf 14 = .ok (.bipush 10, 2) := by decide +kernel
theorem dX10_pairOf_16 : decode cX10_pairOf 16 = .ok (.sipush 265, 3) := by decide +kernel
theorem dX10_pairOf_19 : decode cX10_pairOf 19 = .ok (.invokestatic 65, 3) := by decide +kernel
theorem dX10_pairOf_22 : decode cX10_pairOf 22 = .ok (.ifCond .ne 6, 3) := by decide +kernel
theorem dX10_pairOf_25 : decode cX10_pairOf 25 = .ok (.ldc 60, 2) := by decide +kernel
theorem dX10_pairOf_27 : decode cX10_pairOf 27 = .ok (.ireturn, 1) := by decide +kernel
theorem dX10_pairOf_28 : decode cX10_pairOf 28 = .ok (.aload_n 0, 1) := by decide +kernel
theorem dX10_pairOf_29 : decode cX10_pairOf 29 = .ok (.invokevirtual 136, 3) := by decide +kernel
theorem dX10_pairOf_32 : decode cX10_pairOf 32 = .ok (.iload_n 1, 1) := by decide +kernel
theorem dX10_pairOf_33 : decode cX10_pairOf 33 = .ok (.aload_n 0, 1) := by decide +kernel
theorem dX10_pairOf_34 : decode cX10_pairOf 34 = .ok (.getfield 127, 3) := by decide +kernel
theorem dX10_pairOf_37 : decode cX10_pairOf 37 = .ok (.if_icmp .ge 16, 3) := by decide +kernel
theorem dX10_pairOf_40 : decode cX10_pairOf 40 = .ok (.iload_n 2, 1) := by decide +kernel
theorem dX10_pairOf_41 : decode cX10_pairOf 41 = .ok (.bipush 10, 2) := by decide +kernel
theorem dX10_pairOf_43 : decode cX10_pairOf 43 = .ok (.isub, 1) := by decide +kernel
theorem dX10_pairOf_44 : decode cX10_pairOf 44 = .ok (.aload_n 0, 1) := by decide +kernel
theorem dX10_pairOf_45 : decode cX10_pairOf 45 = .ok (.getfield 38, 3) := by decide +kernel
theorem dX10_pairOf_48 : decode cX10_pairOf 48 = .ok (.iload_n 1, 1) := by decide +kernel
theorem dX10_pairOf_49 : decode cX10_pairOf 49 = .ok (.iaload, 1) := by decide +kernel
theorem dX10_pairOf_50 : decode cX10_pairOf 50 = .ok (.if_icmp .lt 6, 3) := by decide +kernel
theorem dX10_pairOf_53 : decode cX10_pairOf 53 = .ok (.ldc 126, 2) := by decide +kernel
theorem dX10_pairOf_55 : decode cX10_pairOf 55 = .ok (.ireturn, 1) := by decide +kernel
theorem dX10_pairOf_56 : decode cX10_pairOf 56 = .ok (.iload_n 2, 1) := by decide +kernel
theorem dX10_pairOf_57 : decode cX10_pairOf 57 = .ok (.tableswitch 64 0 3 #[31, 41, 51, 58], 31) := by decide +kernel
theorem dX10_pairOf_88 : decode cX10_pairOf 88 = .ok (.aload_n 0, 1) := by decide +kernel
theorem dX10_pairOf_89 : decode cX10_pairOf 89 = .ok (.getfield 29, 3) := by decide +kernel
theorem dX10_pairOf_92 : decode cX10_pairOf 92 = .ok (.iload_n 1, 1) := by decide +kernel
theorem dX10_pairOf_93 : decode cX10_pairOf 93 = .ok (.iaload, 1) := by decide +kernel
theorem dX10_pairOf_94 : decode cX10_pairOf 94 = .ok (.bipush 16, 2) := by decide +kernel
theorem dX10_pairOf_96 : decode cX10_pairOf 96 = .ok (.idiv, 1) := by decide +kernel
theorem dX10_pairOf_97 : decode cX10_pairOf 97 = .ok (.ireturn, 1) := by decide +kernel
theorem dX10_pairOf_98 : decode cX10_pairOf 98 = .ok (.aload_n 0, 1) := by decide +kernel
theorem dX10_pairOf_99 : decode cX10_pairOf 99 = .ok (.getfield 29, 3) := by decide +kernel
theorem dX10_pairOf_102 : decode cX10_pairOf 102 = .ok (.iload_n 1, 1) := by decide +kernel
theorem dX10_pairOf_103 : decode cX10_pairOf 103 = .ok (.iaload, 1) := by decide +kernel
theorem dX10_pairOf_104 : decode cX10_pairOf 104 = .ok (.bipush 16, 2) := by decide +kernel
theorem dX10_pairOf_106 : decode cX10_pairOf 106 = .ok (.irem, 1) := by decide +kernel
theorem dX10_pairOf_107 : decode cX10_pairOf 107 = .ok (.ireturn, 1) := by decide +kernel
theorem dX10_pairOf_108 : decode cX10_pairOf 108 = .ok (.aload_n 0, 1) := by decide +kernel
theorem dX10_pairOf_109 : decode cX10_pairOf 109 = .ok (.getfield 38, 3) := by decide +kernel
theorem dX10_pairOf_112 : decode cX10_pairOf 112 = .ok (.iload_n 1, 1) := by decide +kernel
theorem dX10_pairOf_113 : decode cX10_pairOf 113 = .ok (.iaload, 1) := by decide +kernel
theorem dX10_pairOf_114 : decode cX10_pairOf 114 = .ok (.ireturn, 1) := by decide +kernel
theorem dX10_pairOf_115 : decode cX10_pairOf 115 = .ok (.aload_n 0, 1) := by decide +kernel
theorem dX10_pairOf_116 : decode cX10_pairOf 116 = .ok (.iload_n 1, 1) := by decide +kernel
theorem dX10_pairOf_117 : decode cX10_pairOf 117 = .ok (.invokevirtual 139, 3) := by decide +kernel
theorem dX10_pairOf_120 : decode cX10_pairOf 120 = .ok (.ireturn, 1) := by decide +kernel
theorem dX10_pairOf_121 : decode cX10_pairOf 121 = .ok (.aload_n 0, 1) := by decide +kernel
theorem dX10_pairOf_122 : decode cX10_pairOf 122 = .ok (.iload_n 1, 1) := by decide +kernel
theorem dX10_pairOf_123 : decode cX10_pairOf 123 = .ok (.iload_n 2, 1) := by decide +kernel
theorem dX10_pairOf_124 : decode cX10_pairOf 124 = .ok (.bipush 10, 2) := by decide +kernel
theorem dX10_pairOf_126 : decode cX10_pairOf 126 = .ok (.isub, 1) := by decide +kernel
theorem dX10_pairOf_127 : decode cX10_pairOf 127 = .ok (.invokevirtual 142, 3) := by decide +kernel
theorem dX10_pairOf_130 : decode cX10_pairOf 130 = .ok (.ireturn, 1) := by decide +kernel
theorem dX10_pairs_0 : decode cX10_pairs 0 = .ok (.aload_n 0, 1) := by decide +kernel
theorem dX10_pairs_1 : decode cX10_pairs 1 = .ok (.invokevirtual 136, 3) := by decide +kernel
theorem dX10_pairs_4 : decode cX10_pairs 4 = .ok (.aload_n 0, 1) := by decide +kernel
theorem dX10_pairs_5 : decode cX10_pairs 5 = .ok (.getfield 127, 3) := by decide +kernel
theorem dX10_pairs_8 : decode cX10_pairs 8 = .ok (.ireturn, 1) := by decide +kernel
theorem dX10_apart_0 : decode cX10_apart 0 = .ok (.iload_n 1, 1) := by decide +kernel
theorem dX10_apart_1 : decode cX10_apart 1 = .ok (.iconst (-1), 1) := by decide +kernel
theorem dX10_apart_2 : decode cX10_apart 2 = .ok (.if_icmp .ge 6, 3) := by decide +kernel
theorem dX10_apart_5 : decode cX10_apart 5 = .ok (.ldc 60, 2) := by decide +kernel
theorem dX10_apart_7 : decode cX10_apart 7 = .ok (.ireturn, 1) := by decide +kernel
theorem dX10_apart_8 : decode cX10_apart 8 = .ok (.aload_n 0, 1) := by decide +kernel
theorem dX10_apart_9 : decode cX10_apart 9 = .ok (.invokevirtual 136, 3) := by decide +kernel
theorem dX10_apart_12 : decode cX10_apart 12 = .ok (.aload_n 0, 1) := by decide +kernel
theorem dX10_apart_13 : decode cX10_apart 13 = .ok (.getfield 130, 3) := by decide +kernel
theorem dX10_apart_16 : decode cX10_apart 16 = .ok (.ifCond .lt 16, 3) := by decide +kernel
theorem dX10_apart_19 : decode cX10_apart 19 = .ok (.iload_n 1, 1) := by decide +kernel
theorem dX10_apart_20 : decode cX10_apart 20 = .ok (.aload_n 0, 1) := by decide +kernel
theorem dX10_apart_21 : decode cX10_apart 21 = .ok (.getfield 38, 3) := by decide +kernel
theorem dX10_apart_24 : decode cX10_apart 24 = .ok (.aload_n 0, 1) := by decide +kernel
theorem dX10_apart_25 : decode cX10_apart 25 = .ok (.getfield 130, 3) := by decide +kernel
theorem dX10_apart_28 : decode cX10_apart 28 = .ok (.iaload, 1) := by decide +kernel
theorem dX10_apart_29 : decode cX10_apart 29 = .ok (.if_icmp .le 6, 3) := by decide +kernel
theorem dX10_apart_32 : decode cX10_apart 32 = .ok (.ldc 126, 2) := by decide +kernel
theorem dX10_apart_34 : decode cX10_apart 34 = .ok (.ireturn, 1) := by decide +kernel
theorem dX10_apart_35 : decode cX10_apart 35 = .ok (.iload_n 1, 1) := by decide +kernel
theorem dX10_apart_36 : decode cX10_apart 36 = .ok (.ifCond .ge 17, 3) := by decide +kernel
theorem dX10_apart_39 : decode cX10_apart 39 = .ok (.aload_n 0, 1) := by decide +kernel
theorem dX10_apart_40 : decode cX10_apart 40 = .ok (.getfield 38, 3) := by decide +kernel
theorem dX10_apart_43 : decode cX10_apart 43 = .ok (.aload_n 0, 1) := by decide +kernel
theorem dX10_apart_44 : decode cX10_apart 44 = .ok (.getfield 130, 3) := by decide +kernel
theorem dX10_apart_47 : decode cX10_apart 47 = .ok (.iaload, 1) := by decide +kernel
theorem dX10_apart_48 : decode cX10_apart 48 = .ok (.iconst 1, 1) := by decide +kernel
theorem dX10_apart_49 : decode cX10_apart 49 = .ok (.iadd, 1) := by decide +kernel
theorem dX10_apart_50 : decode cX10_apart 50 = .ok (.goto 32, 3) := by decide +kernel
theorem dX10_apart_53 : decode cX10_apart 53 = .ok (.iload_n 1, 1) := by decide +kernel
theorem dX10_apart_54 : decode cX10_apart 54 = .ok (.aload_n 0, 1) := by decide +kernel
theorem dX10_apart_55 : decode cX10_apart 55 = .ok (.getfield 38, 3) := by decide +kernel
theorem dX10_apart_58 : decode cX10_apart 58 = .ok (.aload_n 0, 1) := by decide +kernel
theorem dX10_apart_59 : decode cX10_apart 59 = .ok (.getfield 130, 3) := by decide +kernel
theorem dX10_apart_62 : decode cX10_apart 62 = .ok (.iaload, 1) := by decide +kernel
theorem dX10_apart_63 : decode cX10_apart 63 = .ok (.if_icmp .ne 10, 3) := by decide +kernel
theorem dX10_apart_66 : decode cX10_apart 66 = .ok (.aload_n 0, 1) := by decide +kernel
theorem dX10_apart_67 : decode cX10_apart 67 = .ok (.getfield 133, 3) := by decide +kernel
theorem dX10_apart_70 : decode cX10_apart 70 = .ok (.goto 12, 3) := by decide +kernel
theorem dX10_apart_73 : decode cX10_apart 73 = .ok (.aload_n 0, 1) := by decide +kernel
theorem dX10_apart_74 : decode cX10_apart 74 = .ok (.aload_n 0, 1) := by decide +kernel
theorem dX10_apart_75 : decode cX10_apart 75 = .ok (.getfield 130, 3) := by decide +kernel
theorem dX10_apart_78 : decode cX10_apart 78 = .ok (.iload_n 1, 1) := by decide +kernel
theorem dX10_apart_79 : decode cX10_apart 79 = .ok (.invokevirtual 142, 3) := by decide +kernel
theorem dX10_apart_82 : decode cX10_apart 82 = .ok (.ireturn, 1) := by decide +kernel
theorem dX10_isLate_0 : decode cX10_isLate 0 = .ok (.iconst 0, 1) := by decide +kernel
theorem dX10_isLate_1 : decode cX10_isLate 1 = .ok (.istore_n 2, 1) := by decide +kernel
theorem dX10_isLate_2 : decode cX10_isLate 2 = .ok (.iload_n 2, 1) := by decide +kernel
theorem dX10_isLate_3 : decode cX10_isLate 3 = .ok (.sipush 20480, 3) := by decide +kernel
theorem dX10_isLate_6 : decode cX10_isLate 6 = .ok (.if_icmp .ge 16, 3) := by decide +kernel
theorem dX10_isLate_9 : decode cX10_isLate 9 = .ok (.aload_n 0, 1) := by decide +kernel
theorem dX10_isLate_10 : decode cX10_isLate 10 = .ok (.getfield 47, 3) := by decide +kernel
theorem dX10_isLate_13 : decode cX10_isLate 13 = .ok (.iload_n 2, 1) := by decide +kernel
theorem dX10_isLate_14 : decode cX10_isLate 14 = .ok (.iconst 0, 1) := by decide +kernel
theorem dX10_isLate_15 : decode cX10_isLate 15 = .ok (.iastore, 1) := by decide +kernel
theorem dX10_isLate_16 : decode cX10_isLate 16 = .ok (.iinc 2 1, 3) := by decide +kernel
theorem dX10_isLate_19 : decode cX10_isLate 19 = .ok (.goto (-17), 3) := by decide +kernel
theorem dX10_isLate_22 : decode cX10_isLate 22 = .ok (.iconst 1, 1) := by decide +kernel
theorem dX10_isLate_23 : decode cX10_isLate 23 = .ok (.iload_n 1, 1) := by decide +kernel
theorem dX10_isLate_24 : decode cX10_isLate 24 = .ok (.ishl, 1) := by decide +kernel
theorem dX10_isLate_25 : decode cX10_isLate 25 = .ok (.iconst 1, 1) := by decide +kernel
theorem dX10_isLate_26 : decode cX10_isLate 26 = .ok (.isub, 1) := by decide +kernel
theorem dX10_isLate_27 : decode cX10_isLate 27 = .ok (.istore_n 2, 1) := by decide +kernel
theorem dX10_isLate_28 : decode cX10_isLate 28 = .ok (.iconst 1, 1) := by decide +kernel
theorem dX10_isLate_29 : decode cX10_isLate 29 = .ok (.istore_n 3, 1) := by decide +kernel
theorem dX10_isLate_30 : decode cX10_isLate 30 = .ok (.aload_n 0, 1) := by decide +kernel
theorem dX10_isLate_31 : decode cX10_isLate 31 = .ok (.getfield 44, 3) := by decide +kernel
theorem dX10_isLate_34 : decode cX10_isLate 34 = .ok (.iconst 0, 1) := by decide +kernel
theorem dX10_isLate_35 : decode cX10_isLate 35 = .ok (.bipush 16, 2) := by decide +kernel
theorem dX10_isLate_37 : decode cX10_isLate 37 = .ok (.aload_n 0, 1) := by decide +kernel
theorem dX10_isLate_38 : decode cX10_isLate 38 = .ok (.iconst 0, 1) := by decide +kernel
theorem dX10_isLate_39 : decode cX10_isLate 39 = .ok (.invokevirtual 97, 3) := by decide +kernel
theorem dX10_isLate_42 : decode cX10_isLate 42 = .ok (.imul, 1) := by decide +kernel
theorem dX10_isLate_43 : decode cX10_isLate 43 = .ok (.aload_n 0, 1) := by decide +kernel
theorem dX10_isLate_44 : decode cX10_isLate 44 = .ok (.iconst 1, 1) := by decide +kernel
theorem dX10_isLate_45 : decode cX10_isLate 45 = .ok (.invokevirtual 97, 3) := by decide +kernel
theorem dX10_isLate_48 : decode cX10_isLate 48 = .ok (.iadd, 1) := by decide +kernel
theorem dX10_isLate_49 : decode cX10_isLate 49 = .ok (.iastore, 1) := by decide +kernel
theorem dX10_isLate_50 : decode cX10_isLate 50 = .ok (.aload_n 0, 1) := by decide +kernel
theorem dX10_isLate_51 : decode cX10_isLate 51 = .ok (.getfield 47, 3) := by decide +kernel
theorem dX10_isLate_54 : decode cX10_isLate 54 = .ok (.aload_n 0, 1) := by decide +kernel
theorem dX10_isLate_55 : decode cX10_isLate 55 = .ok (.getfield 44, 3) := by decide +kernel
theorem dX10_isLate_58 : decode cX10_isLate 58 = .ok (.iconst 0, 1) := by decide +kernel
theorem dX10_isLate_59 : decode cX10_isLate 59 = .ok (.iaload, 1) := by decide +kernel
theorem dX10_isLate_60 : decode cX10_isLate 60 = .ok (.iconst 1, 1) := by decide +kernel
theorem dX10_isLate_61 : decode cX10_isLate 61 = .ok (.iastore, 1) := by decide +kernel
theorem dX10_isLate_62 : decode cX10_isLate 62 = .ok (.iconst 0, 1) := by decide +kernel
theorem dX10_isLate_63 : decode cX10_isLate 63 = .ok (.istore 4, 2) := by decide +kernel
theorem dX10_isLate_65 : decode cX10_isLate 65 = .ok (.iload 4, 2) := by decide +kernel
theorem dX10_isLate_67 : decode cX10_isLate 67 = .ok (.iload_n 3, 1) := by decide +kernel
theorem dX10_isLate_68 : decode cX10_isLate 68 = .ok (.if_icmp .ge 218, 3) := by decide +kernel
theorem dX10_isLate_71 : decode cX10_isLate 71 = .ok (.aload_n 0, 1) := by decide +kernel
theorem dX10_isLate_72 : decode cX10_isLate 72 = .ok (.getfield 44, 3) := by decide +kernel
theorem dX10_isLate_75 : decode cX10_isLate 75 = .ok (.iload 4, 2) := by decide +kernel
theorem dX10_isLate_77 : decode cX10_isLate 77 = .ok (.iaload, 1) := by decide +kernel
theorem dX10_isLate_78 : decode cX10_isLate 78 = .ok (.sipush 4096, 3) := by decide +kernel
theorem dX10_isLate_81 : decode cX10_isLate 81 = .ok (.idiv, 1) := by decide +kernel
theorem dX10_isLate_82 : decode cX10_isLate 82 = .ok (.istore 5, 2) := by decide +kernel
theorem dX10_isLate_84 : decode cX10_isLate 84 = .ok (.aload_n 0, 1) := by decide +kernel
theorem dX10_isLate_85 : decode cX10_isLate 85 = .ok (.getfield 44, 3) := by decide +kernel
theorem dX10_isLate_88 : decode cX10_isLate 88 = .ok (.iload 4, 2) := by decide +kernel
theorem dX10_isLate_90 : decode cX10_isLate 90 = .ok (.iaload, 1) := by decide +kernel
theorem dX10_isLate_91 : decode cX10_isLate 91 = .ok (.sipush 256, 3) := by decide +kernel
theorem dX10_isLate_94 : decode cX10_isLate 94 = .ok (.idiv, 1) := by decide +kernel
theorem dX10_isLate_95 : decode cX10_isLate 95 = .ok (.bipush 16, 2) := by decide +kernel
theorem dX10_isLate_97 : decode cX10_isLate 97 = .ok (.irem, 1) := by decide +kernel
theorem dX10_isLate_98 : decode cX10_isLate 98 = .ok (.istore 6, 2) := by decide +kernel
theorem dX10_isLate_100 : decode cX10_isLate 100 = .ok (.aload_n 0, 1) := by decide +kernel
theorem dX10_isLate_101 : decode cX10_isLate 101 = .ok (.getfield 44, 3) := by decide +kernel
theorem dX10_isLate_104 : decode cX10_isLate 104 = .ok (.iload 4, 2) := by decide +kernel
theorem dX10_isLate_106 : decode cX10_isLate 106 = .ok (.iaload, 1) := by decide +kernel
theorem dX10_isLate_107 : decode cX10_isLate 107 = .ok (.bipush 16, 2) := by decide +kernel
theorem dX10_isLate_109 : decode cX10_isLate 109 = .ok (.idiv, 1) := by decide +kernel
theorem dX10_isLate_110 : decode cX10_isLate 110 = .ok (.bipush 16, 2) := by decide +kernel
theorem dX10_isLate_112 : decode cX10_isLate 112 = .ok (.irem, 1) := by decide +kernel
theorem dX10_isLate_113 : decode cX10_isLate 113 = .ok (.istore 7, 2) := by decide +kernel
theorem dX10_isLate_115 : decode cX10_isLate 115 = .ok (.aload_n 0, 1) := by decide +kernel
theorem dX10_isLate_116 : decode cX10_isLate 116 = .ok (.getfield 44, 3) := by decide +kernel
theorem dX10_isLate_119 : decode cX10_isLate 119 = .ok (.iload 4, 2) := by decide +kernel
theorem dX10_isLate_121 : decode cX10_isLate 121 = .ok (.iaload, 1) := by decide +kernel
theorem dX10_isLate_122 : decode cX10_isLate 122 = .ok (.bipush 16, 2) := by decide +kernel
theorem dX10_isLate_124 : decode cX10_isLate 124 = .ok (.irem, 1) := by decide +kernel
theorem dX10_isLate_125 : decode cX10_isLate 125 = .ok (.istore 8, 2) := by decide +kernel
theorem dX10_isLate_127 : decode cX10_isLate 127 = .ok (.iconst 0, 1) := by decide +kernel
theorem dX10_isLate_128 : decode cX10_isLate 128 = .ok (.istore 9, 2) := by decide +kernel
theorem dX10_isLate_130 : decode cX10_isLate 130 = .ok (.iload 9, 2) := by decide +kernel
theorem dX10_isLate_132 : decode cX10_isLate 132 = .ok (.iconst 4, 1) := by decide +kernel
theorem dX10_isLate_133 : decode cX10_isLate 133 = .ok (.if_icmp .ge 147, 3) := by decide +kernel
theorem dX10_isLate_136 : decode cX10_isLate 136 = .ok (.aload_n 0, 1) := by decide +kernel
theorem dX10_isLate_137 : decode cX10_isLate 137 = .ok (.iconst 0, 1) := by decide +kernel
theorem dX10_isLate_138 : decode cX10_isLate 138 = .ok (.iload 7, 2) := by decide +kernel
theorem dX10_isLate_140 : decode cX10_isLate 140 = .ok (.iload 9, 2) := by decide +kernel
theorem dX10_isLate_142 : decode cX10_isLate 142 = .ok (.invokevirtual 100, 3) := by decide +kernel
theorem dX10_isLate_145 : decode cX10_isLate 145 = .ok (.istore 10, 2) := by decide +kernel
theorem dX10_isLate_147 : decode cX10_isLate 147 = .ok (.iload_n 1, 1) := by decide +kernel
theorem dX10_isLate_148 : decode cX10_isLate 148 = .ok (.ifCond .ne 8, 3) := by decide +kernel
theorem dX10_isLate_151 : decode cX10_isLate 151 = .ok (.iload 10, 2) := by decide +kernel
theorem dX10_isLate_153 : decode cX10_isLate 153 = .ok (.goto 11, 3) := by decide +kernel
theorem dX10_isLate_156 : decode cX10_isLate 156 = .ok (.iload 6, 2) := by decide +kernel
theorem dX10_isLate_158 : decode cX10_isLate 158 = .ok (.iload_n 1, 1) := by decide +kernel
theorem dX10_isLate_159 : decode cX10_isLate 159 = .ok (.iconst 1, 1) := by decide +kernel
theorem dX10_isLate_160 : decode cX10_isLate 160 = .ok (.isub, 1) := by decide +kernel
theorem dX10_isLate_161 : decode cX10_isLate 161 = .ok (.ishr, 1) := by decide +kernel
theorem dX10_isLate_162 : decode cX10_isLate 162 = .ok (.iconst 1, 1) := by decide +kernel
theorem dX10_isLate_163 : decode cX10_isLate 163 = .ok (.iand, 1) := by decide +kernel
theorem dX10_isLate_164 : decode cX10_isLate 164 = .ok (.istore 11, 2) := by decide +kernel
theorem dX10_isLate_166 : decode cX10_isLate 166 = .ok (.iload 5, 2) := by decide +kernel
theorem dX10_isLate_168 : decode cX10_isLate 168 = .ok (.iload_n 1, 1) := by decide +kernel
theorem dX10_isLate_169 : decode cX10_isLate 169 = .ok (.if_icmp .ne 19, 3) := by decide +kernel
theorem dX10_isLate_172 : decode cX10_isLate 172 = .ok (.aload_n 0, 1) := by decide +kernel
theorem dX10_isLate_173 : decode cX10_isLate 173 = .ok (.iconst 1, 1) := by decide +kernel
theorem dX10_isLate_174 : decode cX10_isLate 174 = .ok (.iload 8, 2) := by decide +kernel
theorem dX10_isLate_176 : decode cX10_isLate 176 = .ok (.iload 9, 2) := by decide +kernel
theorem dX10_isLate_178 : decode cX10_isLate 178 = .ok (.invokevirtual 100, 3) := by decide +kernel
theorem dX10_isLate_181 : decode cX10_isLate 181 = .ok (.iload 11, 2) := by decide +kernel
theorem dX10_isLate_183 : decode cX10_isLate 183 = .ok (.if_icmp .eq 5, 3) := by decide +kernel
theorem dX10_isLate_186 : decode cX10_isLate 186 = .ok (.iconst 0, 1) := by decide +kernel
theorem dX10_isLate_187 : decode cX10_isLate 187 = .ok (.ireturn, 1) := by decide +kernel
theorem dX10_isLate_188 : decode cX10_isLate 188 = .ok (.sipush 4096, 3) := by decide +kernel
theorem dX10_isLate_191 : decode cX10_isLate 191 = .ok (.iload 5, 2) := by decide +kernel
theorem dX10_isLate_193 : decode cX10_isLate 193 = .ok (.iload_n 1, 1) := by decide +kernel
theorem dX10_isLate_194 : decode cX10_isLate 194 = .ok (.if_icmp .ge 10, 3) := by decide +kernel
theorem dX10_isLate_197 : decode cX10_isLate 197 = .ok (.iload 5, 2) := by decide +kernel
theorem dX10_isLate_199 : decode cX10_isLate 199 = .ok (.iconst 1, 1) := by decide +kernel
theorem dX10_isLate_200 : decode cX10_isLate 200 = .ok (.iadd, 1) := by decide +kernel
theorem dX10_isLate_201 : decode cX10_isLate 201 = .ok (.goto 4, 3) := by decide +kernel
theorem dX10_isLate_204 : decode cX10_isLate 204 = .ok (.iload_n 1, 1) := by decide +kernel
theorem dX10_isLate_205 : decode cX10_isLate 205 = .ok (.imul, 1) := by decide +kernel
theorem dX10_isLate_206 : decode cX10_isLate 206 = .ok (.sipush 256, 3) := by decide +kernel
theorem dX10_isLate_209 : decode cX10_isLate 209 = .ok (.iconst 2, 1) := by decide +kernel
theorem dX10_isLate_210 : decode cX10_isLate 210 = .ok (.iload 6, 2) := by decide +kernel
theorem dX10_isLate_212 : decode cX10_isLate 212 = .ok (.imul, 1) := by decide +kernel
theorem dX10_isLate_213 : decode cX10_isLate 213 = .ok (.iload 10, 2) := by decide +kernel
theorem dX10_isLate_215 : decode cX10_isLate 215 = .ok (.iadd, 1) := by decide +kernel
theorem dX10_isLate_216 : decode cX10_isLate 216 = .ok (.iload_n 2, 1) := by decide +kernel
theorem dX10_isLate_217 : decode cX10_isLate 217 = .ok (.iand, 1) := by decide +kernel
theorem dX10_isLate_218 : decode cX10_isLate 218 = .ok (.imul, 1) := by decide +kernel
theorem dX10_isLate_219 : decode cX10_isLate 219 = .ok (.iadd, 1) := by decide +kernel
theorem dX10_isLate_220 : decode cX10_isLate 220 = .ok (.bipush 16, 2) := by decide +kernel
theorem dX10_isLate_222 : decode cX10_isLate 222 = .ok (.aload_n 0, 1) := by decide +kernel
theorem dX10_isLate_223 : decode cX10_isLate 223 = .ok (.iconst 0, 1) := by decide +kernel
theorem dX10_isLate_224 : decode cX10_isLate 224 = .ok (.iload 7, 2) := by decide +kernel
theorem dX10_isLate_226 : decode cX10_isLate 226 = .ok (.iload 9, 2) := by decide +kernel
theorem dX10_isLate_228 : decode cX10_isLate 228 = .ok (.invokevirtual 94, 3) := by decide +kernel
theorem dX10_isLate_231 : decode cX10_isLate 231 = .ok (.imul, 1) := by decide +kernel
theorem dX10_isLate_232 : decode cX10_isLate 232 = .ok (.iadd, 1) := by decide +kernel
theorem dX10_isLate_233 : decode cX10_isLate 233 = .ok (.aload_n 0, 1) := by decide +kernel
theorem dX10_isLate_234 : decode cX10_isLate 234 = .ok (.iconst 1, 1) := by decide +kernel
theorem dX10_isLate_235 : decode cX10_isLate 235 = .ok (.iload 8, 2) := by decide +kernel
theorem dX10_isLate_237 : decode cX10_isLate 237 = .ok (.iload 9, 2) := by decide +kernel
theorem dX10_isLate_239 : decode cX10_isLate 239 = .ok (.invokevirtual 94, 3) := by decide +kernel
theorem dX10_isLate_242 : decode cX10_isLate 242 = .ok (.iadd, 1) := by decide +kernel
theorem dX10_isLate_243 : decode cX10_isLate 243 = .ok (.istore 12, 2) := by decide +kernel
theorem dX10_isLate_245 : decode cX10_isLate 245 = .ok (.aload_n 0, 1) := by decide +kernel
theorem dX10_isLate_246 : decode cX10_isLate 246 = .ok (.getfield 47, 3) := by decide +kernel
theorem dX10_isLate_249 : decode cX10_isLate 249 = .ok (.iload 12, 2) := by decide +kernel
theorem dX10_isLate_251 : decode cX10_isLate 251 = .ok (.iaload, 1) := by decide +kernel
theorem dX10_isLate_252 : decode cX10_isLate 252 = .ok (.ifCond .ne 22, 3) := by decide +kernel
theorem dX10_isLate_255 : decode cX10_isLate 255 = .ok (.aload_n 0, 1) := by decide +kernel
theorem dX10_isLate_256 : decode cX10_isLate 256 = .ok (.getfield 47, 3) := by decide +kernel
theorem dX10_isLate_259 : decode cX10_isLate 259 = .ok (.iload 12, 2) := by decide +kernel
theorem dX10_isLate_261 : decode cX10_isLate 261 = .ok (.iconst 1, 1) := by decide +kernel
theorem dX10_isLate_262 : decode cX10_isLate 262 = .ok (.iastore, 1) := by decide +kernel
theorem dX10_isLate_263 : decode cX10_isLate 263 = .ok (.aload_n 0, 1) := by decide +kernel
theorem dX10_isLate_264 : decode cX10_isLate 264 = .ok (.getfield 44, 3) := by decide +kernel
theorem dX10_isLate_267 : decode cX10_isLate 267 = .ok (.iload_n 3, 1) := by decide +kernel
theorem dX10_isLate_268 : decode cX10_isLate 268 = .ok (.iload 12, 2) := by decide +kernel
theorem dX10_isLate_270 : decode cX10_isLate 270 = .ok (.iastore, 1) := by decide +kernel
theorem dX10_isLate_271 : decode cX10_isLate 271 = .ok (.iinc 3 1, 3) := by decide +kernel
theorem dX10_isLate_274 : decode cX10_isLate 274 = .ok (.iinc 9 1, 3) := by decide +kernel
theorem dX10_isLate_277 : decode cX10_isLate 277 = .ok (.goto (-147), 3) := by decide +kernel
theorem dX10_isLate_280 : decode cX10_isLate 280 = .ok (.iinc 4 1, 3) := by decide +kernel
theorem dX10_isLate_283 : decode cX10_isLate 283 = .ok (.goto (-218), 3) := by decide +kernel
theorem dX10_isLate_286 : decode cX10_isLate 286 = .ok (.iconst 1, 1) := by decide +kernel
theorem dX10_isLate_287 : decode cX10_isLate 287 = .ok (.ireturn, 1) := by decide +kernel
theorem dX10_late_0 : decode cX10_late 0 = .ok (.iconst 0, 1) := by decide +kernel
theorem dX10_late_1 : decode cX10_late 1 = .ok (.istore_n 1, 1) := by decide +kernel
theorem dX10_late_2 : decode cX10_late 2 = .ok (.iload_n 1, 1) := by decide +kernel
theorem dX10_late_3 : decode cX10_late 3 = .ok (.iconst 5, 1) := by decide +kernel
theorem dX10_late_4 : decode cX10_late 4 = .ok (.if_icmp .ge 19, 3) := by decide +kernel
theorem dX10_late_7 : decode cX10_late 7 = .ok (.aload_n 0, 1) := by decide +kernel
theorem dX10_late_8 : decode cX10_late 8 = .ok (.iload_n 1, 1) := by decide +kernel
theorem dX10_late_9 : decode cX10_late 9 = .ok (.invokevirtual 145, 3) := by decide +kernel
theorem dX10_late_12 : decode cX10_late 12 = .ok (.ifCond .eq 5, 3) := by decide +kernel
theorem dX10_late_15 : decode cX10_late 15 = .ok (.iload_n 1, 1) := by decide +kernel
theorem dX10_late_16 : decode cX10_late 16 = .ok (.ireturn, 1) := by decide +kernel
theorem dX10_late_17 : decode cX10_late 17 = .ok (.iinc 1 1, 3) := by decide +kernel
theorem dX10_late_20 : decode cX10_late 20 = .ok (.goto (-18), 3) := by decide +kernel
theorem dX10_late_23 : decode cX10_late 23 = .ok (.ldc 126, 2) := by decide +kernel
theorem dX10_late_25 : decode cX10_late 25 = .ok (.ireturn, 1) := by decide +kernel
theorem dX10_same_0 : decode cX10_same 0 = .ok (.iload_n 1, 1) := by decide +kernel
theorem dX10_same_1 : decode cX10_same 1 = .ok (.iconst 0, 1) := by decide +kernel
theorem dX10_same_2 : decode cX10_same 2 = .ok (.iconst 3, 1) := by decide +kernel
theorem dX10_same_3 : decode cX10_same 3 = .ok (.invokestatic 65, 3) := by decide +kernel
theorem dX10_same_6 : decode cX10_same 6 = .ok (.ifCond .ne 6, 3) := by decide +kernel
theorem dX10_same_9 : decode cX10_same 9 = .ok (.ldc 60, 2) := by decide +kernel
theorem dX10_same_11 : decode cX10_same 11 = .ok (.ireturn, 1) := by decide +kernel
theorem dX10_same_12 : decode cX10_same 12 = .ok (.aload_n 0, 1) := by decide +kernel
theorem dX10_same_13 : decode cX10_same 13 = .ok (.invokevirtual 136, 3) := by decide +kernel
theorem dX10_same_16 : decode cX10_same 16 = .ok (.bipush 15, 2) := by decide +kernel
theorem dX10_same_18 : decode cX10_same 18 = .ok (.istore_n 2, 1) := by decide +kernel
theorem dX10_same_19 : decode cX10_same 19 = .ok (.iconst 0, 1) := by decide +kernel
theorem dX10_same_20 : decode cX10_same 20 = .ok (.istore_n 3, 1) := by decide +kernel
theorem dX10_same_21 : decode cX10_same 21 = .ok (.iload_n 3, 1) := by decide +kernel
theorem dX10_same_22 : decode cX10_same 22 = .ok (.aload_n 0, 1) := by decide +kernel
theorem dX10_same_23 : decode cX10_same 23 = .ok (.getfield 127, 3) := by decide +kernel
theorem dX10_same_26 : decode cX10_same 26 = .ok (.if_icmp .ge 57, 3) := by decide +kernel
theorem dX10_same_29 : decode cX10_same 29 = .ok (.aload_n 0, 1) := by decide +kernel
theorem dX10_same_30 : decode cX10_same 30 = .ok (.getfield 29, 3) := by decide +kernel
theorem dX10_same_33 : decode cX10_same 33 = .ok (.iload_n 3, 1) := by decide +kernel
theorem dX10_same_34 : decode cX10_same 34 = .ok (.iaload, 1) := by decide +kernel
theorem dX10_same_35 : decode cX10_same 35 = .ok (.bipush 16, 2) := by decide +kernel
theorem dX10_same_37 : decode cX10_same 37 = .ok (.idiv, 1) := by decide +kernel
theorem dX10_same_38 : decode cX10_same 38 = .ok (.iload_n 1, 1) := by decide +kernel
theorem dX10_same_39 : decode cX10_same 39 = .ok (.ishr, 1) := by decide +kernel
theorem dX10_same_40 : decode cX10_same 40 = .ok (.iconst 1, 1) := by decide +kernel
theorem dX10_same_41 : decode cX10_same 41 = .ok (.iand, 1) := by decide +kernel
theorem dX10_same_42 : decode cX10_same 42 = .ok (.istore 4, 2) := by decide +kernel
theorem dX10_same_44 : decode cX10_same 44 = .ok (.iload_n 2, 1) := by decide +kernel
theorem dX10_same_45 : decode cX10_same 45 = .ok (.iload 4, 2) := by decide +kernel
theorem dX10_same_47 : decode cX10_same 47 = .ok (.iconst 1, 1) := by decide +kernel
theorem dX10_same_48 : decode cX10_same 48 = .ok (.if_icmp .ne 15, 3) := by decide +kernel
theorem dX10_same_51 : decode cX10_same 51 = .ok (.aload_n 0, 1) := by decide +kernel
theorem dX10_same_52 : decode cX10_same 52 = .ok (.getfield 29, 3) := by decide +kernel
theorem dX10_same_55 : decode cX10_same 55 = .ok (.iload_n 3, 1) := by decide +kernel
theorem dX10_same_56 : decode cX10_same 56 = .ok (.iaload, 1) := by decide +kernel
theorem dX10_same_57 : decode cX10_same 57 = .ok (.bipush 16, 2) := by decide +kernel
theorem dX10_same_59 : decode cX10_same 59 = .ok (.irem, 1) := by decide +kernel
theorem dX10_same_60 : decode cX10_same 60 = .ok (.goto 15, 3) := by decide +kernel
theorem dX10_same_63 : decode cX10_same 63 = .ok (.bipush 15, 2) := by decide +kernel
theorem dX10_same_65 : decode cX10_same 65 = .ok (.aload_n 0, 1) := by decide +kernel
theorem dX10_same_66 : decode cX10_same 66 = .ok (.getfield 29, 3) := by decide +kernel
theorem dX10_same_69 : decode cX10_same 69 = .ok (.iload_n 3, 1) := by decide +kernel
theorem dX10_same_70 : decode cX10_same 70 = .ok (.iaload, 1) := by decide +kernel
theorem dX10_same_71 : decode cX10_same 71 = .ok (.bipush 16, 2) := by decide +kernel
theorem dX10_same_73 : decode cX10_same 73 = .ok (.irem, 1) := by decide +kernel
theorem dX10_same_74 : decode cX10_same 74 = .ok (.isub, 1) := by decide +kernel
theorem dX10_same_75 : decode cX10_same 75 = .ok (.iand, 1) := by decide +kernel
theorem dX10_same_76 : decode cX10_same 76 = .ok (.istore_n 2, 1) := by decide +kernel
theorem dX10_same_77 : decode cX10_same 77 = .ok (.iinc 3 1, 3) := by decide +kernel
theorem dX10_same_80 : decode cX10_same 80 = .ok (.goto (-59), 3) := by decide +kernel
theorem dX10_same_83 : decode cX10_same 83 = .ok (.iload_n 2, 1) := by decide +kernel
theorem dX10_same_84 : decode cX10_same 84 = .ok (.ireturn, 1) := by decide +kernel
theorem dX10_kinds_0 : decode cX10_kinds 0 = .ok (.iload_n 1, 1) := by decide +kernel
theorem dX10_kinds_1 : decode cX10_kinds 1 = .ok (.iconst 0, 1) := by decide +kernel
theorem dX10_kinds_2 : decode cX10_kinds 2 = .ok (.bipush 7, 2) := by decide +kernel
theorem dX10_kinds_4 : decode cX10_kinds 4 = .ok (.invokestatic 65, 3) := by decide +kernel
theorem dX10_kinds_7 : decode cX10_kinds 7 = .ok (.ifCond .ne 6, 3) := by decide +kernel
theorem dX10_kinds_10 : decode cX10_kinds 10 = .ok (.ldc 60, 2) := by decide +kernel
theorem dX10_kinds_12 : decode cX10_kinds 12 = .ok (.ireturn, 1) := by decide +kernel
theorem dX10_kinds_13 : decode cX10_kinds 13 = .ok (.iload_n 1, 1) := by decide +kernel
theorem dX10_kinds_14 : decode cX10_kinds 14 = .ok (.aload_n 0, 1) := by decide +kernel
theorem dX10_kinds_15 : decode cX10_kinds 15 = .ok (.getfield 7, 3) := by decide +kernel
theorem dX10_kinds_18 : decode cX10_kinds 18 = .ok (.iconst 0, 1) := by decide +kernel
theorem dX10_kinds_19 : decode cX10_kinds 19 = .ok (.iaload, 1) := by decide +kernel
theorem dX10_kinds_20 : decode cX10_kinds 20 = .ok (.if_icmp .lt 6, 3) := by decide +kernel
theorem dX10_kinds_23 : decode cX10_kinds 23 = .ok (.ldc 126, 2) := by decide +kernel
theorem dX10_kinds_25 : decode cX10_kinds 25 = .ok (.ireturn, 1) := by decide +kernel
theorem dX10_kinds_26 : decode cX10_kinds 26 = .ok (.aload_n 0, 1) := by decide +kernel
theorem dX10_kinds_27 : decode cX10_kinds 27 = .ok (.getfield 7, 3) := by decide +kernel
theorem dX10_kinds_30 : decode cX10_kinds 30 = .ok (.bipush 10, 2) := by decide +kernel
theorem dX10_kinds_32 : decode cX10_kinds 32 = .ok (.iconst 3, 1) := by decide +kernel
theorem dX10_kinds_33 : decode cX10_kinds 33 = .ok (.iload_n 1, 1) := by decide +kernel
theorem dX10_kinds_34 : decode cX10_kinds 34 = .ok (.imul, 1) := by decide +kernel
theorem dX10_kinds_35 : decode cX10_kinds 35 = .ok (.iadd, 1) := by decide +kernel
theorem dX10_kinds_36 : decode cX10_kinds 36 = .ok (.iaload, 1) := by decide +kernel
theorem dX10_kinds_37 : decode cX10_kinds 37 = .ok (.istore_n 2, 1) := by decide +kernel
theorem dX10_kinds_38 : decode cX10_kinds 38 = .ok (.iconst 0, 1) := by decide +kernel
theorem dX10_kinds_39 : decode cX10_kinds 39 = .ok (.istore_n 3, 1) := by decide +kernel
theorem dX10_kinds_40 : decode cX10_kinds 40 = .ok (.iconst 0, 1) := by decide +kernel
theorem dX10_kinds_41 : decode cX10_kinds 41 = .ok (.istore 4, 2) := by decide +kernel
theorem dX10_kinds_43 : decode cX10_kinds 43 = .ok (.iload 4, 2) := by decide +kernel
theorem dX10_kinds_45 : decode cX10_kinds 45 = .ok (.bipush 6, 2) := by decide +kernel
theorem dX10_kinds_47 : decode cX10_kinds 47 = .ok (.if_icmp .ge 44, 3) := by decide +kernel
theorem dX10_kinds_50 : decode cX10_kinds 50 = .ok (.aload_n 0, 1) := by decide +kernel
theorem dX10_kinds_51 : decode cX10_kinds 51 = .ok (.getfield 7, 3) := by decide +kernel
theorem dX10_kinds_54 : decode cX10_kinds 54 = .ok (.bipush 10, 2) := by decide +kernel
theorem dX10_kinds_56 : decode cX10_kinds 56 = .ok (.iconst 3, 1) := by decide +kernel
theorem dX10_kinds_57 : decode cX10_kinds 57 = .ok (.iload_n 1, 1) := by decide +kernel
theorem dX10_kinds_58 : decode cX10_kinds 58 = .ok (.imul, 1) := by decide +kernel
theorem dX10_kinds_59 : decode cX10_kinds 59 = .ok (.iadd, 1) := by decide +kernel
theorem dX10_kinds_60 : decode cX10_kinds 60 = .ok (.iload 4, 2) := by decide +kernel
theorem dX10_kinds_62 : decode cX10_kinds 62 = .ok (.iastore, 1) := by decide +kernel
theorem dX10_kinds_63 : decode cX10_kinds 63 = .ok (.aload_n 0, 1) := by decide +kernel
theorem dX10_kinds_64 : decode cX10_kinds 64 = .ok (.invokevirtual 136, 3) := by decide +kernel
theorem dX10_kinds_67 : decode cX10_kinds 67 = .ok (.iload_n 3, 1) := by decide +kernel
theorem dX10_kinds_68 : decode cX10_kinds 68 = .ok (.aload_n 0, 1) := by decide +kernel
theorem dX10_kinds_69 : decode cX10_kinds 69 = .ok (.getfield 130, 3) := by decide +kernel
theorem dX10_kinds_72 : decode cX10_kinds 72 = .ok (.ifCond .ge 10, 3) := by decide +kernel
theorem dX10_kinds_75 : decode cX10_kinds 75 = .ok (.iconst 1, 1) := by decide +kernel
theorem dX10_kinds_76 : decode cX10_kinds 76 = .ok (.iload 4, 2) := by decide +kernel
theorem dX10_kinds_78 : decode cX10_kinds 78 = .ok (.ishl, 1) := by decide +kernel
theorem dX10_kinds_79 : decode cX10_kinds 79 = .ok (.goto 4, 3) := by decide +kernel
theorem dX10_kinds_82 : decode cX10_kinds 82 = .ok (.iconst 0, 1) := by decide +kernel
theorem dX10_kinds_83 : decode cX10_kinds 83 = .ok (.ior, 1) := by decide +kernel
theorem dX10_kinds_84 : decode cX10_kinds 84 = .ok (.istore_n 3, 1) := by decide +kernel
theorem dX10_kinds_85 : decode cX10_kinds 85 = .ok (.iinc 4 1, 3) := by decide +kernel
theorem dX10_kinds_88 : decode cX10_kinds 88 = .ok (.goto (-45), 3) := by decide +kernel
theorem dX10_kinds_91 : decode cX10_kinds 91 = .ok (.aload_n 0, 1) := by decide +kernel
theorem dX10_kinds_92 : decode cX10_kinds 92 = .ok (.getfield 7, 3) := by decide +kernel
theorem dX10_kinds_95 : decode cX10_kinds 95 = .ok (.bipush 10, 2) := by decide +kernel
theorem dX10_kinds_97 : decode cX10_kinds 97 = .ok (.iconst 3, 1) := by decide +kernel
theorem dX10_kinds_98 : decode cX10_kinds 98 = .ok (.iload_n 1, 1) := by decide +kernel
theorem dX10_kinds_99 : decode cX10_kinds 99 = .ok (.imul, 1) := by decide +kernel
theorem dX10_kinds_100 : decode cX10_kinds 100 = .ok (.iadd, 1) := by decide +kernel
theorem dX10_kinds_101 : decode cX10_kinds 101 = .ok (.iload_n 2, 1) := by decide +kernel
theorem dX10_kinds_102 : decode cX10_kinds 102 = .ok (.iastore, 1) := by decide +kernel
theorem dX10_kinds_103 : decode cX10_kinds 103 = .ok (.iload_n 3, 1) := by decide +kernel
theorem dX10_kinds_104 : decode cX10_kinds 104 = .ok (.ireturn, 1) := by decide +kernel
theorem dX10_count_0 : decode cX10_count 0 = .ok (.aload_n 0, 1) := by decide +kernel
theorem dX10_count_1 : decode cX10_count 1 = .ok (.invokevirtual 136, 3) := by decide +kernel
theorem dX10_count_4 : decode cX10_count 4 = .ok (.iload_n 1, 1) := by decide +kernel
theorem dX10_count_5 : decode cX10_count 5 = .ok (.tableswitch 68 0 3 #[31, 45, 58, 63], 31) := by decide +kernel
theorem dX10_count_36 : decode cX10_count 36 = .ok (.aload_n 0, 1) := by decide +kernel
theorem dX10_count_37 : decode cX10_count 37 = .ok (.iconst 0, 1) := by decide +kernel
theorem dX10_count_38 : decode cX10_count 38 = .ok (.iconst 0, 1) := by decide +kernel
theorem dX10_count_39 : decode cX10_count 39 = .ok (.invokevirtual 69, 3) := by decide +kernel
theorem dX10_count_42 : decode cX10_count 42 = .ok (.aload_n 0, 1) := by decide +kernel
theorem dX10_count_43 : decode cX10_count 43 = .ok (.iconst 1, 1) := by decide +kernel
theorem dX10_count_44 : decode cX10_count 44 = .ok (.iconst 0, 1) := by decide +kernel
theorem dX10_count_45 : decode cX10_count 45 = .ok (.invokevirtual 69, 3) := by decide +kernel
theorem dX10_count_48 : decode cX10_count 48 = .ok (.iadd, 1) := by decide +kernel
theorem dX10_count_49 : decode cX10_count 49 = .ok (.ireturn, 1) := by decide +kernel
theorem dX10_count_50 : decode cX10_count 50 = .ok (.aload_n 0, 1) := by decide +kernel
theorem dX10_count_51 : decode cX10_count 51 = .ok (.getfield 130, 3) := by decide +kernel
theorem dX10_count_54 : decode cX10_count 54 = .ok (.ifCond .ge 7, 3) := by decide +kernel
theorem dX10_count_57 : decode cX10_count 57 = .ok (.iconst 1, 1) := by decide +kernel
theorem dX10_count_58 : decode cX10_count 58 = .ok (.goto 4, 3) := by decide +kernel
theorem dX10_count_61 : decode cX10_count 61 = .ok (.iconst 0, 1) := by decide +kernel
theorem dX10_count_62 : decode cX10_count 62 = .ok (.ireturn, 1) := by decide +kernel
theorem dX10_count_63 : decode cX10_count 63 = .ok (.aload_n 0, 1) := by decide +kernel
theorem dX10_count_64 : decode cX10_count 64 = .ok (.getfield 61, 3) := by decide +kernel
theorem dX10_count_67 : decode cX10_count 67 = .ok (.ireturn, 1) := by decide +kernel
theorem dX10_count_68 : decode cX10_count 68 = .ok (.aload_n 0, 1) := by decide +kernel
theorem dX10_count_69 : decode cX10_count 69 = .ok (.getfield 149, 3) := by decide +kernel
theorem dX10_count_72 : decode cX10_count 72 = .ok (.ireturn, 1) := by decide +kernel
theorem dX10_count_73 : decode cX10_count 73 = .ok (.ldc 60, 2) := by decide +kernel
theorem dX10_count_75 : decode cX10_count 75 = .ok (.ireturn, 1) := by decide +kernel
theorem dX10_undo_0 : decode cX10_undo 0 = .ok (.aload_n 0, 1) := by decide +kernel
theorem dX10_undo_1 : decode cX10_undo 1 = .ok (.getfield 61, 3) := by decide +kernel
theorem dX10_undo_4 : decode cX10_undo 4 = .ok (.ifCond .ne 6, 3) := by decide +kernel
theorem dX10_undo_7 : decode cX10_undo 7 = .ok (.ldc 85, 2) := by decide +kernel
theorem dX10_undo_9 : decode cX10_undo 9 = .ok (.ireturn, 1) := by decide +kernel
theorem dX10_undo_10 : decode cX10_undo 10 = .ok (.aload_n 0, 1) := by decide +kernel
theorem dX10_undo_11 : decode cX10_undo 11 = .ok (.dup, 1) := by decide +kernel
theorem dX10_undo_12 : decode cX10_undo 12 = .ok (.getfield 61, 3) := by decide +kernel
theorem dX10_undo_15 : decode cX10_undo 15 = .ok (.iconst 1, 1) := by decide +kernel
theorem dX10_undo_16 : decode cX10_undo 16 = .ok (.isub, 1) := by decide +kernel
theorem dX10_undo_17 : decode cX10_undo 17 = .ok (.putfield 61, 3) := by decide +kernel
theorem dX10_undo_20 : decode cX10_undo 20 = .ok (.iconst 0, 1) := by decide +kernel
theorem dX10_undo_21 : decode cX10_undo 21 = .ok (.istore_n 1, 1) := by decide +kernel
theorem dX10_undo_22 : decode cX10_undo 22 = .ok (.iload_n 1, 1) := by decide +kernel
theorem dX10_undo_23 : decode cX10_undo 23 = .ok (.bipush 68, 2) := by decide +kernel
theorem dX10_undo_25 : decode cX10_undo 25 = .ok (.if_icmp .ge 29, 3) := by decide +kernel
theorem dX10_undo_28 : decode cX10_undo 28 = .ok (.aload_n 0, 1) := by decide +kernel
theorem dX10_undo_29 : decode cX10_undo 29 = .ok (.getfield 7, 3) := by decide +kernel
theorem dX10_undo_32 : decode cX10_undo 32 = .ok (.iload_n 1, 1) := by decide +kernel
theorem dX10_undo_33 : decode cX10_undo 33 = .ok (.aload_n 0, 1) := by decide +kernel
theorem dX10_undo_34 : decode cX10_undo 34 = .ok (.getfield 13, 3) := by decide +kernel
theorem dX10_undo_37 : decode cX10_undo 37 = .ok (.bipush 68, 2) := by decide +kernel
theorem dX10_undo_39 : decode cX10_undo 39 = .ok (.aload_n 0, 1) := by decide +kernel
theorem dX10_undo_40 : decode cX10_undo 40 = .ok (.getfield 61, 3) := by decide +kernel
theorem dX10_undo_43 : decode cX10_undo 43 = .ok (.imul, 1) := by decide +kernel
theorem dX10_undo_44 : decode cX10_undo 44 = .ok (.iload_n 1, 1) := by decide +kernel
theorem dX10_undo_45 : decode cX10_undo 45 = .ok (.iadd, 1) := by decide +kernel
theorem dX10_undo_46 : decode cX10_undo 46 = .ok (.iaload, 1) := by decide +kernel
theorem dX10_undo_47 : decode cX10_undo 47 = .ok (.iastore, 1) := by decide +kernel
theorem dX10_undo_48 : decode cX10_undo 48 = .ok (.iinc 1 1, 3) := by decide +kernel
theorem dX10_undo_51 : decode cX10_undo 51 = .ok (.goto (-29), 3) := by decide +kernel
theorem dX10_undo_54 : decode cX10_undo 54 = .ok (.aload_n 0, 1) := by decide +kernel
theorem dX10_undo_55 : decode cX10_undo 55 = .ok (.getfield 61, 3) := by decide +kernel
theorem dX10_undo_58 : decode cX10_undo 58 = .ok (.ireturn, 1) := by decide +kernel
theorem dX10_type_0 : decode cX10_type 0 = .ok (.iload_n 1, 1) := by decide +kernel
theorem dX10_type_1 : decode cX10_type 1 = .ok (.bipush 32, 2) := by decide +kernel
theorem dX10_type_3 : decode cX10_type 3 = .ok (.bipush 126, 2) := by decide +kernel
theorem dX10_type_5 : decode cX10_type 5 = .ok (.invokestatic 65, 3) := by decide +kernel
theorem dX10_type_8 : decode cX10_type 8 = .ok (.ifCond .ne 6, 3) := by decide +kernel
theorem dX10_type_11 : decode cX10_type 11 = .ok (.ldc 60, 2) := by decide +kernel
theorem dX10_type_13 : decode cX10_type 13 = .ok (.ireturn, 1) := by decide +kernel
theorem dX10_type_14 : decode cX10_type 14 = .ok (.aload_n 0, 1) := by decide +kernel
theorem dX10_type_15 : decode cX10_type 15 = .ok (.getfield 149, 3) := by decide +kernel
theorem dX10_type_18 : decode cX10_type 18 = .ok (.bipush 80, 2) := by decide +kernel
theorem dX10_type_20 : decode cX10_type 20 = .ok (.if_icmp .ne 6, 3) := by decide +kernel
theorem dX10_type_23 : decode cX10_type 23 = .ok (.ldc 77, 2) := by decide +kernel
theorem dX10_type_25 : decode cX10_type 25 = .ok (.ireturn, 1) := by decide +kernel
theorem dX10_type_26 : decode cX10_type 26 = .ok (.aload_n 0, 1) := by decide +kernel
theorem dX10_type_27 : decode cX10_type 27 = .ok (.getfield 19, 3) := by decide +kernel
theorem dX10_type_30 : decode cX10_type 30 = .ok (.aload_n 0, 1) := by decide +kernel
theorem dX10_type_31 : decode cX10_type 31 = .ok (.getfield 149, 3) := by decide +kernel
theorem dX10_type_34 : decode cX10_type 34 = .ok (.iload_n 1, 1) := by decide +kernel
theorem dX10_type_35 : decode cX10_type 35 = .ok (.i2c, 1) := by decide +kernel
theorem dX10_type_36 : decode cX10_type 36 = .ok (.castore, 1) := by decide +kernel
theorem dX10_type_37 : decode cX10_type 37 = .ok (.aload_n 0, 1) := by decide +kernel
theorem dX10_type_38 : decode cX10_type 38 = .ok (.dup, 1) := by decide +kernel
theorem dX10_type_39 : decode cX10_type 39 = .ok (.getfield 149, 3) := by decide +kernel
theorem dX10_type_42 : decode cX10_type 42 = .ok (.iconst 1, 1) := by decide +kernel
theorem dX10_type_43 : decode cX10_type 43 = .ok (.iadd, 1) := by decide +kernel
theorem dX10_type_44 : decode cX10_type 44 = .ok (.putfield 149, 3) := by decide +kernel
theorem dX10_type_47 : decode cX10_type 47 = .ok (.aload_n 0, 1) := by decide +kernel
theorem dX10_type_48 : decode cX10_type 48 = .ok (.getfield 149, 3) := by decide +kernel
theorem dX10_type_51 : decode cX10_type 51 = .ok (.ireturn, 1) := by decide +kernel
theorem dX10_clearText_0 : decode cX10_clearText 0 = .ok (.aload_n 0, 1) := by decide +kernel
theorem dX10_clearText_1 : decode cX10_clearText 1 = .ok (.getfield 149, 3) := by decide +kernel
theorem dX10_clearText_4 : decode cX10_clearText 4 = .ok (.istore_n 1, 1) := by decide +kernel
theorem dX10_clearText_5 : decode cX10_clearText 5 = .ok (.aload_n 0, 1) := by decide +kernel
theorem dX10_clearText_6 : decode cX10_clearText 6 = .ok (.iconst 0, 1) := by decide +kernel
theorem dX10_clearText_7 : decode cX10_clearText 7 = .ok (.putfield 149, 3) := by decide +kernel
theorem dX10_clearText_10 : decode cX10_clearText 10 = .ok (.iload_n 1, 1) := by decide +kernel
theorem dX10_clearText_11 : decode cX10_clearText 11 = .ok (.ireturn, 1) := by decide +kernel
theorem dX10_sign_0 : decode cX10_sign 0 = .ok (.iload_n 1, 1) := by decide +kernel
theorem dX10_sign_1 : decode cX10_sign 1 = .ok (.aload_n 0, 1) := by decide +kernel
theorem dX10_sign_2 : decode cX10_sign 2 = .ok (.getfield 149, 3) := by decide +kernel
theorem dX10_sign_5 : decode cX10_sign 5 = .ok (.if_icmp .ge 12, 3) := by decide +kernel
theorem dX10_sign_8 : decode cX10_sign 8 = .ok (.aload_n 0, 1) := by decide +kernel
theorem dX10_sign_9 : decode cX10_sign 9 = .ok (.getfield 19, 3) := by decide +kernel
theorem dX10_sign_12 : decode cX10_sign 12 = .ok (.iload_n 1, 1) := by decide +kernel
theorem dX10_sign_13 : decode cX10_sign 13 = .ok (.caload, 1) := by decide +kernel
theorem dX10_sign_14 : decode cX10_sign 14 = .ok (.goto 4, 3) := by decide +kernel
theorem dX10_sign_17 : decode cX10_sign 17 = .ok (.iconst (-1), 1) := by decide +kernel
theorem dX10_sign_18 : decode cX10_sign 18 = .ok (.ireturn, 1) := by decide +kernel
theorem dX10_wireAt_0 : decode cX10_wireAt 0 = .ok (.aload_n 0, 1) := by decide +kernel
theorem dX10_wireAt_1 : decode cX10_wireAt 1 = .ok (.iload_n 1, 1) := by decide +kernel
theorem dX10_wireAt_2 : decode cX10_wireAt 2 = .ok (.invokevirtual 152, 3) := by decide +kernel
theorem dX10_wireAt_5 : decode cX10_wireAt 5 = .ok (.istore_n 2, 1) := by decide +kernel
theorem dX10_wireAt_6 : decode cX10_wireAt 6 = .ok (.iload_n 2, 1) := by decide +kernel
theorem dX10_wireAt_7 : decode cX10_wireAt 7 = .ok (.bipush 48, 2) := by decide +kernel
theorem dX10_wireAt_9 : decode cX10_wireAt 9 = .ok (.bipush 57, 2) := by decide +kernel
theorem dX10_wireAt_11 : decode cX10_wireAt 11 = .ok (.invokestatic 65, 3) := by decide +kernel
theorem dX10_wireAt_14 : decode cX10_wireAt 14 = .ok (.ifCond .eq 10, 3) := by decide +kernel
theorem dX10_wireAt_17 : decode cX10_wireAt 17 = .ok (.iload_n 2, 1) := by decide +kernel
theorem dX10_wireAt_18 : decode cX10_wireAt 18 = .ok (.bipush 48, 2) := by decide +kernel
theorem dX10_wireAt_20 : decode cX10_wireAt 20 = .ok (.isub, 1) := by decide +kernel
theorem dX10_wireAt_21 : decode cX10_wireAt 21 = .ok (.goto 25, 3) := by decide +kernel
theorem dX10_wireAt_24 : decode cX10_wireAt 24 = .ok (.iload_n 2, 1) := by decide +kernel
theorem dX10_wireAt_25 : decode cX10_wireAt 25 = .ok (.bipush 97, 2) := by decide +kernel
theorem dX10_wireAt_27 : decode cX10_wireAt 27 = .ok (.bipush 102, 2) := by decide +kernel
theorem dX10_wireAt_29 : decode cX10_wireAt 29 = .ok (.invokestatic 65, 3) := by decide +kernel
theorem dX10_wireAt_32 : decode cX10_wireAt 32 = .ok (.ifCond .eq 13, 3) := by decide +kernel
theorem dX10_wireAt_35 : decode cX10_wireAt 35 = .ok (.iload_n 2, 1) := by decide +kernel
theorem dX10_wireAt_36 : decode cX10_wireAt 36 = .ok (.bipush 97, 2) := by decide +kernel
theorem dX10_wireAt_38 : decode cX10_wireAt 38 = .ok (.isub, 1) := by decide +kernel
theorem dX10_wireAt_39 : decode cX10_wireAt 39 = .ok (.bipush 10, 2) := by decide +kernel
theorem dX10_wireAt_41 : decode cX10_wireAt 41 = .ok (.iadd, 1) := by decide +kernel
theorem dX10_wireAt_42 : decode cX10_wireAt 42 = .ok (.goto 4, 3) := by decide +kernel
theorem dX10_wireAt_45 : decode cX10_wireAt 45 = .ok (.iconst (-1), 1) := by decide +kernel
theorem dX10_wireAt_46 : decode cX10_wireAt 46 = .ok (.ireturn, 1) := by decide +kernel
theorem dX10_doesGate_0 : decode cX10_doesGate 0 = .ok (.aload_n 0, 1) := by decide +kernel
theorem dX10_doesGate_1 : decode cX10_doesGate 1 = .ok (.aload_n 0, 1) := by decide +kernel
theorem dX10_doesGate_2 : decode cX10_doesGate 2 = .ok (.getfield 155, 3) := by decide +kernel
theorem dX10_doesGate_5 : decode cX10_doesGate 5 = .ok (.iconst 1, 1) := by decide +kernel
theorem dX10_doesGate_6 : decode cX10_doesGate 6 = .ok (.iadd, 1) := by decide +kernel
theorem dX10_doesGate_7 : decode cX10_doesGate 7 = .ok (.invokevirtual 158, 3) := by decide +kernel
theorem dX10_doesGate_10 : decode cX10_doesGate 10 = .ok (.istore_n 2, 1) := by decide +kernel
theorem dX10_doesGate_11 : decode cX10_doesGate 11 = .ok (.aload_n 0, 1) := by decide +kernel
theorem dX10_doesGate_12 : decode cX10_doesGate 12 = .ok (.aload_n 0, 1) := by decide +kernel
theorem dX10_doesGate_13 : decode cX10_doesGate 13 = .ok (.getfield 155, 3) := by decide +kernel
theorem dX10_doesGate_16 : decode cX10_doesGate 16 = .ok (.iconst 2, 1) := by decide +kernel
theorem dX10_doesGate_17 : decode cX10_doesGate 17 = .ok (.iadd, 1) := by decide +kernel
theorem dX10_doesGate_18 : decode cX10_doesGate 18 = .ok (.invokevirtual 158, 3) := by decide +kernel
theorem dX10_doesGate_21 : decode cX10_doesGate 21 = .ok (.istore_n 3, 1) := by decide +kernel
theorem dX10_doesGate_22 : decode cX10_doesGate 22 = .ok (.iload_n 2, 1) := by decide +kernel
theorem dX10_doesGate_23 : decode cX10_doesGate 23 = .ok (.ifCond .lt 22, 3) := by decide +kernel
theorem dX10_doesGate_26 : decode cX10_doesGate 26 = .ok (.iload_n 3, 1) := by decide +kernel
theorem dX10_doesGate_27 : decode cX10_doesGate 27 = .ok (.ifCond .lt 18, 3) := by decide +kernel
theorem dX10_doesGate_30 : decode cX10_doesGate 30 = .ok (.aload_n 0, 1) := by decide +kernel
theorem dX10_doesGate_31 : decode cX10_doesGate 31 = .ok (.aload_n 0, 1) := by decide +kernel
theorem dX10_doesGate_32 : decode cX10_doesGate 32 = .ok (.getfield 155, 3) := by decide +kernel
theorem dX10_doesGate_35 : decode cX10_doesGate 35 = .ok (.iconst 3, 1) := by decide +kernel
theorem dX10_doesGate_36 : decode cX10_doesGate 36 = .ok (.iadd, 1) := by decide +kernel
theorem dX10_doesGate_37 : decode cX10_doesGate 37 = .ok (.invokevirtual 152, 3) := by decide +kernel
theorem dX10_doesGate_40 : decode cX10_doesGate 40 = .ok (.bipush 59, 2) := by decide +kernel
theorem dX10_doesGate_42 : decode cX10_doesGate 42 = .ok (.if_icmp .eq 5, 3) := by decide +kernel
theorem dX10_doesGate_45 : decode cX10_doesGate 45 = .ok (.iconst 1, 1) := by decide +kernel
theorem dX10_doesGate_46 : decode cX10_doesGate 46 = .ok (.ireturn, 1) := by decide +kernel
theorem dX10_doesGate_47 : decode cX10_doesGate 47 = .ok (.aload_n 0, 1) := by decide +kernel
theorem dX10_doesGate_48 : decode cX10_doesGate 48 = .ok (.getfield 23, 3) := by decide +kernel
theorem dX10_doesGate_51 : decode cX10_doesGate 51 = .ok (.iconst 0, 1) := by decide +kernel
theorem dX10_doesGate_52 : decode cX10_doesGate 52 = .ok (.iaload, 1) := by decide +kernel
theorem dX10_doesGate_53 : decode cX10_doesGate 53 = .ok (.istore 4, 2) := by decide +kernel
theorem dX10_doesGate_55 : decode cX10_doesGate 55 = .ok (.iload 4, 2) := by decide +kernel
theorem dX10_doesGate_57 : decode cX10_doesGate 57 = .ok (.bipush 8, 2) := by decide +kernel
theorem dX10_doesGate_59 : decode cX10_doesGate 59 = .ok (.if_icmp .ne 5, 3) := by decide +kernel
theorem dX10_doesGate_62 : decode cX10_doesGate 62 = .ok (.iconst 2, 1) := by decide +kernel
theorem dX10_doesGate_63 : decode cX10_doesGate 63 = .ok (.ireturn, 1) := by decide +kernel
theorem dX10_doesGate_64 : decode cX10_doesGate 64 = .ok (.iload 4, 2) := by decide +kernel
theorem dX10_doesGate_66 : decode cX10_doesGate 66 = .ok (.iload_n 2, 1) := by decide +kernel
theorem dX10_doesGate_67 : decode cX10_doesGate 67 = .ok (.invokestatic 73, 3) := by decide +kernel
theorem dX10_doesGate_70 : decode cX10_doesGate 70 = .ok (.ifCond .eq 12, 3) := by decide +kernel
theorem dX10_doesGate_73 : decode cX10_doesGate 73 = .ok (.iload 4, 2) := by decide +kernel
theorem dX10_doesGate_75 : decode cX10_doesGate 75 = .ok (.iload_n 3, 1) := by decide +kernel
theorem dX10_doesGate_76 : decode cX10_doesGate 76 = .ok (.invokestatic 73, 3) := by decide +kernel
theorem dX10_doesGate_79 : decode cX10_doesGate 79 = .ok (.ifCond .ne 5, 3) := by decide +kernel
theorem dX10_doesGate_82 : decode cX10_doesGate 82 = .ok (.iconst 3, 1) := by decide +kernel
theorem dX10_doesGate_83 : decode cX10_doesGate 83 = .ok (.ireturn, 1) := by decide +kernel
theorem dX10_doesGate_84 : decode cX10_doesGate 84 = .ok (.aload_n 0, 1) := by decide +kernel
theorem dX10_doesGate_85 : decode cX10_doesGate 85 = .ok (.getfield 23, 3) := by decide +kernel
theorem dX10_doesGate_88 : decode cX10_doesGate 88 = .ok (.bipush 10, 2) := by decide +kernel
theorem dX10_doesGate_90 : decode cX10_doesGate 90 = .ok (.iconst 3, 1) := by decide +kernel
theorem dX10_doesGate_91 : decode cX10_doesGate 91 = .ok (.iload 4, 2) := by decide +kernel
theorem dX10_doesGate_93 : decode cX10_doesGate 93 = .ok (.imul, 1) := by decide +kernel
theorem dX10_doesGate_94 : decode cX10_doesGate 94 = .ok (.iadd, 1) := by decide +kernel
theorem dX10_doesGate_95 : decode cX10_doesGate 95 = .ok (.iload_n 1, 1) := by decide +kernel
theorem dX10_doesGate_96 : decode cX10_doesGate 96 = .ok (.iastore, 1) := by decide +kernel
theorem dX10_doesGate_97 : decode cX10_doesGate 97 = .ok (.aload_n 0, 1) := by decide +kernel
theorem dX10_doesGate_98 : decode cX10_doesGate 98 = .ok (.getfield 23, 3) := by decide +kernel
theorem dX10_doesGate_101 : decode cX10_doesGate 101 = .ok (.bipush 10, 2) := by decide +kernel
theorem dX10_doesGate_103 : decode cX10_doesGate 103 = .ok (.iconst 3, 1) := by decide +kernel
theorem dX10_doesGate_104 : decode cX10_doesGate 104 = .ok (.iload 4, 2) := by decide +kernel
theorem dX10_doesGate_106 : decode cX10_doesGate 106 = .ok (.imul, 1) := by decide +kernel
theorem dX10_doesGate_107 : decode cX10_doesGate 107 = .ok (.iadd, 1) := by decide +kernel
theorem dX10_doesGate_108 : decode cX10_doesGate 108 = .ok (.iconst 1, 1) := by decide +kernel
theorem dX10_doesGate_109 : decode cX10_doesGate 109 = .ok (.iadd, 1) := by decide +kernel
theorem dX10_doesGate_110 : decode cX10_doesGate 110 = .ok (.iload_n 2, 1) := by decide +kernel
theorem dX10_doesGate_111 : decode cX10_doesGate 111 = .ok (.iastore, 1) := by decide +kernel
theorem dX10_doesGate_112 : decode cX10_doesGate 112 = .ok (.aload_n 0, 1) := by decide +kernel
theorem dX10_doesGate_113 : decode cX10_doesGate 113 = .ok (.getfield 23, 3) := by decide +kernel
theorem dX10_doesGate_116 : decode cX10_doesGate 116 = .ok (.bipush 10, 2) := by decide +kernel
theorem dX10_doesGate_118 : decode cX10_doesGate 118 = .ok (.iconst 3, 1) := by decide +kernel
theorem dX10_doesGate_119 : decode cX10_doesGate 119 = .ok (.iload 4, 2) := by decide +kernel
theorem dX10_doesGate_121 : decode cX10_doesGate 121 = .ok (.imul, 1) := by decide +kernel
theorem dX10_doesGate_122 : decode cX10_doesGate 122 = .ok (.iadd, 1) := by decide +kernel
theorem dX10_doesGate_123 : decode cX10_doesGate 123 = .ok (.iconst 2, 1) := by decide +kernel
theorem dX10_doesGate_124 : decode cX10_doesGate 124 = .ok (.iadd, 1) := by decide +kernel
theorem dX10_doesGate_125 : decode cX10_doesGate 125 = .ok (.iload_n 3, 1) := by decide +kernel
theorem dX10_doesGate_126 : decode cX10_doesGate 126 = .ok (.iastore, 1) := by decide +kernel
theorem dX10_doesGate_127 : decode cX10_doesGate 127 = .ok (.aload_n 0, 1) := by decide +kernel
theorem dX10_doesGate_128 : decode cX10_doesGate 128 = .ok (.getfield 23, 3) := by decide +kernel
theorem dX10_doesGate_131 : decode cX10_doesGate 131 = .ok (.iconst 0, 1) := by decide +kernel
theorem dX10_doesGate_132 : decode cX10_doesGate 132 = .ok (.dup2, 1) := by decide +kernel
theorem dX10_doesGate_133 : decode cX10_doesGate 133 = .ok (.iaload, 1) := by decide +kernel
theorem dX10_doesGate_134 : decode cX10_doesGate 134 = .ok (.iconst 1, 1) := by decide +kernel
theorem dX10_doesGate_135 : decode cX10_doesGate 135 = .ok (.iadd, 1) := by decide +kernel
theorem dX10_doesGate_136 : decode cX10_doesGate 136 = .ok (.iastore, 1) := by decide +kernel
theorem dX10_doesGate_137 : decode cX10_doesGate 137 = .ok (.aload_n 0, 1) := by decide +kernel
theorem dX10_doesGate_138 : decode cX10_doesGate 138 = .ok (.dup, 1) := by decide +kernel
theorem dX10_doesGate_139 : decode cX10_doesGate 139 = .ok (.getfield 155, 3) := by decide +kernel
theorem dX10_doesGate_142 : decode cX10_doesGate 142 = .ok (.iconst 4, 1) := by decide +kernel
theorem dX10_doesGate_143 : decode cX10_doesGate 143 = .ok (.iadd, 1) := by decide +kernel
theorem dX10_doesGate_144 : decode cX10_doesGate 144 = .ok (.putfield 155, 3) := by decide +kernel
theorem dX10_doesGate_147 : decode cX10_doesGate 147 = .ok (.iconst 0, 1) := by decide +kernel
theorem dX10_doesGate_148 : decode cX10_doesGate 148 = .ok (.ireturn, 1) := by decide +kernel
theorem dX10_doesRegister_0 : decode cX10_doesRegister 0 = .ok (.aload_n 0, 1) := by decide +kernel
theorem dX10_doesRegister_1 : decode cX10_doesRegister 1 = .ok (.aload_n 0, 1) := by decide +kernel
theorem dX10_doesRegister_2 : decode cX10_doesRegister 2 = .ok (.getfield 155, 3) := by decide +kernel
theorem dX10_doesRegister_5 : decode cX10_doesRegister 5 = .ok (.iconst 1, 1) := by decide +kernel
theorem dX10_doesRegister_6 : decode cX10_doesRegister 6 = .ok (.iadd, 1) := by decide +kernel
theorem dX10_doesRegister_7 : decode cX10_doesRegister 7 = .ok (.invokevirtual 152, 3) := by decide +kernel
theorem dX10_doesRegister_10 : decode cX10_doesRegister 10 = .ok (.bipush 48, 2) := by decide +kernel
theorem dX10_doesRegister_12 : decode cX10_doesRegister 12 = .ok (.isub, 1) := by decide +kernel
theorem dX10_doesRegister_13 : decode cX10_doesRegister 13 = .ok (.istore_n 1, 1) := by decide +kernel
theorem dX10_doesRegister_14 : decode cX10_doesRegister 14 = .ok (.aload_n 0, 1) := by decide +kernel
theorem dX10_doesRegister_15 : decode cX10_doesRegister 15 = .ok (.aload_n 0, 1) := by decide +kernel
theorem dX10_doesRegister_16 : decode cX10_doesRegister 16 = .ok (.getfield 155, 3) := by decide +kernel
theorem dX10_doesRegister_19 : decode cX10_doesRegister 19 = .ok (.iconst 2, 1) := by decide +kernel
theorem dX10_doesRegister_20 : decode cX10_doesRegister 20 = .ok (.iadd, 1) := by decide +kernel
theorem dX10_doesRegister_21 : decode cX10_doesRegister 21 = .ok (.invokevirtual 158, 3) := by decide +kernel
theorem dX10_doesRegister_24 : decode cX10_doesRegister 24 = .ok (.istore_n 2, 1) := by decide +kernel
theorem dX10_doesRegister_25 : decode cX10_doesRegister 25 = .ok (.aload_n 0, 1) := by decide +kernel
theorem dX10_doesRegister_26 : decode cX10_doesRegister 26 = .ok (.aload_n 0, 1) := by decide +kernel
theorem dX10_doesRegister_27 : decode cX10_doesRegister 27 = .ok (.getfield 155, 3) := by decide +kernel
theorem dX10_doesRegister_30 : decode cX10_doesRegister 30 = .ok (.iconst 3, 1) := by decide +kernel
theorem dX10_doesRegister_31 : decode cX10_doesRegister 31 = .ok (.iadd, 1) := by decide +kernel
theorem dX10_doesRegister_32 : decode cX10_doesRegister 32 = .ok (.invokevirtual 152, 3) := by decide +kernel
theorem dX10_doesRegister_35 : decode cX10_doesRegister 35 = .ok (.bipush 48, 2) := by decide +kernel
theorem dX10_doesRegister_37 : decode cX10_doesRegister 37 = .ok (.isub, 1) := by decide +kernel
theorem dX10_doesRegister_38 : decode cX10_doesRegister 38 = .ok (.istore_n 3, 1) := by decide +kernel
theorem dX10_doesRegister_39 : decode cX10_doesRegister 39 = .ok (.iload_n 1, 1) := by decide +kernel
theorem dX10_doesRegister_40 : decode cX10_doesRegister 40 = .ok (.iconst 0, 1) := by decide +kernel
theorem dX10_doesRegister_41 : decode cX10_doesRegister 41 = .ok (.iconst 3, 1) := by decide +kernel
theorem dX10_doesRegister_42 : decode cX10_doesRegister 42 = .ok (.invokestatic 65, 3) := by decide +kernel
theorem dX10_doesRegister_45 : decode cX10_doesRegister 45 = .ok (.ifCond .eq 31, 3) := by decide +kernel
theorem dX10_doesRegister_48 : decode cX10_doesRegister 48 = .ok (.iload_n 2, 1) := by decide +kernel
theorem dX10_doesRegister_49 : decode cX10_doesRegister 49 = .ok (.ifCond .lt 27, 3) := by decide +kernel
theorem dX10_doesRegister_52 : decode cX10_doesRegister 52 = .ok (.iload_n 3, 1) := by decide +kernel
theorem dX10_doesRegister_53 : decode cX10_doesRegister 53 = .ok (.iconst 0, 1) := by decide +kernel
theorem dX10_doesRegister_54 : decode cX10_doesRegister 54 = .ok (.iconst 1, 1) := by decide +kernel
theorem dX10_doesRegister_55 : decode cX10_doesRegister 55 = .ok (.invokestatic 65, 3) := by decide +kernel
theorem dX10_doesRegister_58 : decode cX10_doesRegister 58 = .ok (.ifCond .eq 18, 3) := by decide +kernel
theorem dX10_doesRegister_61 : decode cX10_doesRegister 61 = .ok (.aload_n 0, 1) := by decide +kernel
theorem dX10_doesRegister_62 : decode cX10_doesRegister 62 = .ok (.aload_n 0, 1) := by decide +kernel
theorem dX10_doesRegister_63 : decode cX10_doesRegister 63 = .ok (.getfield 155, 3) := by decide +kernel
theorem dX10_doesRegister_66 : decode cX10_doesRegister 66 = .ok (.iconst 4, 1) := by decide +kernel
theorem dX10_doesRegister_67 : decode cX10_doesRegister 67 = .ok (.iadd, 1) := by decide +kernel
theorem dX10_doesRegister_68 : decode cX10_doesRegister 68 = .ok (.invokevirtual 152, 3) := by decide +kernel
theorem dX10_doesRegister_71 : decode cX10_doesRegister 71 = .ok (.bipush 59, 2) := by decide +kernel
theorem dX10_doesRegister_73 : decode cX10_doesRegister 73 = .ok (.if_icmp .eq 5, 3) := by decide +kernel
theorem dX10_doesRegister_76 : decode cX10_doesRegister 76 = .ok (.iconst 1, 1) := by decide +kernel
theorem dX10_doesRegister_77 : decode cX10_doesRegister 77 = .ok (.ireturn, 1) := by decide +kernel
theorem dX10_doesRegister_78 : decode cX10_doesRegister 78 = .ok (.aload_n 0, 1) := by decide +kernel
theorem dX10_doesRegister_79 : decode cX10_doesRegister 79 = .ok (.getfield 161, 3) := by decide +kernel
theorem dX10_doesRegister_82 : decode cX10_doesRegister 82 = .ok (.iload_n 1, 1) := by decide +kernel
theorem dX10_doesRegister_83 : decode cX10_doesRegister 83 = .ok (.ishr, 1) := by decide +kernel
theorem dX10_doesRegister_84 : decode cX10_doesRegister 84 = .ok (.iconst 1, 1) := by decide +kernel
theorem dX10_doesRegister_85 : decode cX10_doesRegister 85 = .ok (.iand, 1) := by decide +kernel
theorem dX10_doesRegister_86 : decode cX10_doesRegister 86 = .ok (.iconst 1, 1) := by decide +kernel
theorem dX10_doesRegister_87 : decode cX10_doesRegister 87 = .ok (.if_icmp .ne 5, 3) := by decide +kernel
theorem dX10_doesRegister_90 : decode cX10_doesRegister 90 = .ok (.iconst 4, 1) := by decide +kernel
theorem dX10_doesRegister_91 : decode cX10_doesRegister 91 = .ok (.ireturn, 1) := by decide +kernel
theorem dX10_doesRegister_92 : decode cX10_doesRegister 92 = .ok (.aload_n 0, 1) := by decide +kernel
theorem dX10_doesRegister_93 : decode cX10_doesRegister 93 = .ok (.dup, 1) := by decide +kernel
theorem dX10_doesRegister_94 : decode cX10_doesRegister 94 = .ok (.getfield 161, 3) := by decide +kernel
theorem dX10_doesRegister_97 : decode cX10_doesRegister 97 = .ok (.iconst 1, 1) := by decide +kernel
theorem dX10_doesRegister_98 : decode cX10_doesRegister 98 = .ok (.iload_n 1, 1) := by decide +kernel
theorem dX10_doesRegister_99 : decode cX10_doesRegister 99 = .ok (.ishl, 1) := by decide +kernel
theorem dX10_doesRegister_100 : decode cX10_doesRegister 100 = .ok (.ior, 1) := by decide +kernel
theorem dX10_doesRegister_101 : decode cX10_doesRegister 101 = .ok (.putfield 161, 3) := by decide +kernel
theorem dX10_doesRegister_104 : decode cX10_doesRegister 104 = .ok (.aload_n 0, 1) := by decide +kernel
theorem dX10_doesRegister_105 : decode cX10_doesRegister 105 = .ok (.getfield 23, 3) := by decide +kernel
theorem dX10_doesRegister_108 : decode cX10_doesRegister 108 = .ok (.iconst 2, 1) := by decide +kernel
theorem dX10_doesRegister_109 : decode cX10_doesRegister 109 = .ok (.iload_n 1, 1) := by decide +kernel
theorem dX10_doesRegister_110 : decode cX10_doesRegister 110 = .ok (.iadd, 1) := by decide +kernel
theorem dX10_doesRegister_111 : decode cX10_doesRegister 111 = .ok (.iload_n 2, 1) := by decide +kernel
theorem dX10_doesRegister_112 : decode cX10_doesRegister 112 = .ok (.iastore, 1) := by decide +kernel
theorem dX10_doesRegister_113 : decode cX10_doesRegister 113 = .ok (.aload_n 0, 1) := by decide +kernel
theorem dX10_doesRegister_114 : decode cX10_doesRegister 114 = .ok (.getfield 23, 3) := by decide +kernel
theorem dX10_doesRegister_117 : decode cX10_doesRegister 117 = .ok (.bipush 6, 2) := by decide +kernel
theorem dX10_doesRegister_119 : decode cX10_doesRegister 119 = .ok (.iload_n 1, 1) := by decide +kernel
theorem dX10_doesRegister_120 : decode cX10_doesRegister 120 = .ok (.iadd, 1) := by decide +kernel
theorem dX10_doesRegister_121 : decode cX10_doesRegister 121 = .ok (.iload_n 3, 1) := by decide +kernel
theorem dX10_doesRegister_122 : decode cX10_doesRegister 122 = .ok (.iastore, 1) := by decide +kernel
theorem dX10_doesRegister_123 : decode cX10_doesRegister 123 = .ok (.aload_n 0, 1) := by decide +kernel
theorem dX10_doesRegister_124 : decode cX10_doesRegister 124 = .ok (.dup, 1) := by decide +kernel
theorem dX10_doesRegister_125 : decode cX10_doesRegister 125 = .ok (.getfield 155, 3) := by decide +kernel
theorem dX10_doesRegister_128 : decode cX10_doesRegister 128 = .ok (.iconst 5, 1) := by decide +kernel
theorem dX10_doesRegister_129 : decode cX10_doesRegister 129 = .ok (.iadd, 1) := by decide +kernel
theorem dX10_doesRegister_130 : decode cX10_doesRegister 130 = .ok (.putfield 155, 3) := by decide +kernel
theorem dX10_doesRegister_133 : decode cX10_doesRegister 133 = .ok (.iconst 0, 1) := by decide +kernel
theorem dX10_doesRegister_134 : decode cX10_doesRegister 134 = .ok (.ireturn, 1) := by decide +kernel
theorem dX10_doesOutput_0 : decode cX10_doesOutput 0 = .ok (.aload_n 0, 1) := by decide +kernel
theorem dX10_doesOutput_1 : decode cX10_doesOutput 1 = .ok (.aload_n 0, 1) := by decide +kernel
theorem dX10_doesOutput_2 : decode cX10_doesOutput 2 = .ok (.getfield 155, 3) := by decide +kernel
theorem dX10_doesOutput_5 : decode cX10_doesOutput 5 = .ok (.iconst 1, 1) := by decide +kernel
theorem dX10_doesOutput_6 : decode cX10_doesOutput 6 = .ok (.iadd, 1) := by decide +kernel
theorem dX10_doesOutput_7 : decode cX10_doesOutput 7 = .ok (.invokevirtual 158, 3) := by decide +kernel
theorem dX10_doesOutput_10 : decode cX10_doesOutput 10 = .ok (.istore_n 1, 1) := by decide +kernel
theorem dX10_doesOutput_11 : decode cX10_doesOutput 11 = .ok (.iload_n 1, 1) := by decide +kernel
theorem dX10_doesOutput_12 : decode cX10_doesOutput 12 = .ok (.ifCond .lt 18, 3) := by decide +kernel
theorem dX10_doesOutput_15 : decode cX10_doesOutput 15 = .ok (.aload_n 0, 1) := by decide +kernel
theorem dX10_doesOutput_16 : decode cX10_doesOutput 16 = .ok (.aload_n 0, 1) := by decide +kernel
theorem dX10_doesOutput_17 : decode cX10_doesOutput 17 = .ok (.getfield 155, 3) := by decide +kernel
theorem dX10_doesOutput_20 : decode cX10_doesOutput 20 = .ok (.iconst 2, 1) := by decide +kernel
theorem dX10_doesOutput_21 : decode cX10_doesOutput 21 = .ok (.iadd, 1) := by decide +kernel
theorem dX10_doesOutput_22 : decode cX10_doesOutput 22 = .ok (.invokevirtual 152, 3) := by decide +kernel
theorem dX10_doesOutput_25 : decode cX10_doesOutput 25 = .ok (.bipush 59, 2) := by decide +kernel
theorem dX10_doesOutput_27 : decode cX10_doesOutput 27 = .ok (.if_icmp .eq 5, 3) := by decide +kernel
theorem dX10_doesOutput_30 : decode cX10_doesOutput 30 = .ok (.iconst 1, 1) := by decide +kernel
theorem dX10_doesOutput_31 : decode cX10_doesOutput 31 = .ok (.ireturn, 1) := by decide +kernel
theorem dX10_doesOutput_32 : decode cX10_doesOutput 32 = .ok (.aload_n 0, 1) := by decide +kernel
theorem dX10_doesOutput_33 : decode cX10_doesOutput 33 = .ok (.getfield 161, 3) := by decide +kernel
theorem dX10_doesOutput_36 : decode cX10_doesOutput 36 = .ok (.iconst 4, 1) := by decide +kernel
theorem dX10_doesOutput_37 : decode cX10_doesOutput 37 = .ok (.ishr, 1) := by decide +kernel
theorem dX10_doesOutput_38 : decode cX10_doesOutput 38 = .ok (.iconst 1, 1) := by decide +kernel
theorem dX10_doesOutput_39 : decode cX10_doesOutput 39 = .ok (.iand, 1) := by decide +kernel
theorem dX10_doesOutput_40 : decode cX10_doesOutput 40 = .ok (.iconst 1, 1) := by decide +kernel
theorem dX10_doesOutput_41 : decode cX10_doesOutput 41 = .ok (.if_icmp .ne 5, 3) := by decide +kernel
theorem dX10_doesOutput_44 : decode cX10_doesOutput 44 = .ok (.iconst 4, 1) := by decide +kernel
theorem dX10_doesOutput_45 : decode cX10_doesOutput 45 = .ok (.ireturn, 1) := by decide +kernel
theorem dX10_doesOutput_46 : decode cX10_doesOutput 46 = .ok (.aload_n 0, 1) := by decide +kernel
theorem dX10_doesOutput_47 : decode cX10_doesOutput 47 = .ok (.dup, 1) := by decide +kernel
theorem dX10_doesOutput_48 : decode cX10_doesOutput 48 = .ok (.getfield 161, 3) := by decide +kernel
theorem dX10_doesOutput_51 : decode cX10_doesOutput 51 = .ok (.bipush 16, 2) := by decide +kernel
theorem dX10_doesOutput_53 : decode cX10_doesOutput 53 = .ok (.ior, 1) := by decide +kernel
theorem dX10_doesOutput_54 : decode cX10_doesOutput 54 = .ok (.putfield 161, 3) := by decide +kernel
theorem dX10_doesOutput_57 : decode cX10_doesOutput 57 = .ok (.aload_n 0, 1) := by decide +kernel
theorem dX10_doesOutput_58 : decode cX10_doesOutput 58 = .ok (.getfield 23, 3) := by decide +kernel
theorem dX10_doesOutput_61 : decode cX10_doesOutput 61 = .ok (.iconst 1, 1) := by decide +kernel
theorem dX10_doesOutput_62 : decode cX10_doesOutput 62 = .ok (.iload_n 1, 1) := by decide +kernel
theorem dX10_doesOutput_63 : decode cX10_doesOutput 63 = .ok (.iastore, 1) := by decide +kernel
theorem dX10_doesOutput_64 : decode cX10_doesOutput 64 = .ok (.aload_n 0, 1) := by decide +kernel
theorem dX10_doesOutput_65 : decode cX10_doesOutput 65 = .ok (.dup, 1) := by decide +kernel
theorem dX10_doesOutput_66 : decode cX10_doesOutput 66 = .ok (.getfield 155, 3) := by decide +kernel
theorem dX10_doesOutput_69 : decode cX10_doesOutput 69 = .ok (.iconst 3, 1) := by decide +kernel
theorem dX10_doesOutput_70 : decode cX10_doesOutput 70 = .ok (.iadd, 1) := by decide +kernel
theorem dX10_doesOutput_71 : decode cX10_doesOutput 71 = .ok (.putfield 155, 3) := by decide +kernel
theorem dX10_doesOutput_74 : decode cX10_doesOutput 74 = .ok (.iconst 0, 1) := by decide +kernel
theorem dX10_doesOutput_75 : decode cX10_doesOutput 75 = .ok (.ireturn, 1) := by decide +kernel
theorem dX10_faulty_0 : decode cX10_faulty 0 = .ok (.aload_n 0, 1) := by decide +kernel
theorem dX10_faulty_1 : decode cX10_faulty 1 = .ok (.getfield 23, 3) := by decide +kernel
theorem dX10_faulty_4 : decode cX10_faulty 4 = .ok (.iconst 0, 1) := by decide +kernel
theorem dX10_faulty_5 : decode cX10_faulty 5 = .ok (.invokestatic 56, 3) := by decide +kernel
theorem dX10_faulty_8 : decode cX10_faulty 8 = .ok (.aload_n 0, 1) := by decide +kernel
theorem dX10_faulty_9 : decode cX10_faulty 9 = .ok (.iconst 0, 1) := by decide +kernel
theorem dX10_faulty_10 : decode cX10_faulty 10 = .ok (.putfield 161, 3) := by decide +kernel
theorem dX10_faulty_13 : decode cX10_faulty 13 = .ok (.aload_n 0, 1) := by decide +kernel
theorem dX10_faulty_14 : decode cX10_faulty 14 = .ok (.iconst 0, 1) := by decide +kernel
theorem dX10_faulty_15 : decode cX10_faulty 15 = .ok (.putfield 155, 3) := by decide +kernel
theorem dX10_faulty_18 : decode cX10_faulty 18 = .ok (.aload_n 0, 1) := by decide +kernel
theorem dX10_faulty_19 : decode cX10_faulty 19 = .ok (.getfield 155, 3) := by decide +kernel
theorem dX10_faulty_22 : decode cX10_faulty 22 = .ok (.aload_n 0, 1) := by decide +kernel
theorem dX10_faulty_23 : decode cX10_faulty 23 = .ok (.getfield 149, 3) := by decide +kernel
theorem dX10_faulty_26 : decode cX10_faulty 26 = .ok (.if_icmp .ge 80, 3) := by decide +kernel
theorem dX10_faulty_29 : decode cX10_faulty 29 = .ok (.aload_n 0, 1) := by decide +kernel
theorem dX10_faulty_30 : decode cX10_faulty 30 = .ok (.aload_n 0, 1) := by decide +kernel
theorem dX10_faulty_31 : decode cX10_faulty 31 = .ok (.getfield 155, 3) := by decide +kernel
theorem dX10_faulty_34 : decode cX10_faulty 34 = .ok (.invokevirtual 152, 3) := by decide +kernel
theorem dX10_faulty_37 : decode cX10_faulty 37 = .ok (.istore_n 1, 1) := by decide +kernel
theorem dX10_faulty_38 : decode cX10_faulty 38 = .ok (.aload_n 0, 1) := by decide +kernel
theorem dX10_faulty_39 : decode cX10_faulty 39 = .ok (.iload_n 1, 1) := by decide +kernel
theorem dX10_faulty_40 : decode cX10_faulty 40 = .ok (.bipush 114, 2) := by decide +kernel
theorem dX10_faulty_42 : decode cX10_faulty 42 = .ok (.if_icmp .ne 10, 3) := by decide +kernel
theorem dX10_faulty_45 : decode cX10_faulty 45 = .ok (.aload_n 0, 1) := by decide +kernel
theorem dX10_faulty_46 : decode cX10_faulty 46 = .ok (.invokevirtual 164, 3) := by decide +kernel
theorem dX10_faulty_49 : decode cX10_faulty 49 = .ok (.goto 39, 3) := by decide +kernel
theorem dX10_faulty_52 : decode cX10_faulty 52 = .ok (.iload_n 1, 1) := by decide +kernel
theorem dX10_faulty_53 : decode cX10_faulty 53 = .ok (.bipush 111, 2) := by decide +kernel
theorem dX10_faulty_55 : decode cX10_faulty 55 = .ok (.if_icmp .ne 10, 3) := by decide +kernel
theorem dX10_faulty_58 : decode cX10_faulty 58 = .ok (.aload_n 0, 1) := by decide +kernel
theorem dX10_faulty_59 : decode cX10_faulty 59 = .ok (.invokevirtual 168, 3) := by decide +kernel
theorem dX10_faulty_62 : decode cX10_faulty 62 = .ok (.goto 26, 3) := by decide +kernel
theorem dX10_faulty_65 : decode cX10_faulty 65 = .ok (.iload_n 1, 1) := by decide +kernel
theorem dX10_faulty_66 : decode cX10_faulty 66 = .ok (.bipush 48, 2) := by decide +kernel
theorem dX10_faulty_68 : decode cX10_faulty 68 = .ok (.bipush 53, 2) := by decide +kernel
theorem dX10_faulty_70 : decode cX10_faulty 70 = .ok (.invokestatic 65, 3) := by decide +kernel
theorem dX10_faulty_73 : decode cX10_faulty 73 = .ok (.ifCond .eq 14, 3) := by decide +kernel
theorem dX10_faulty_76 : decode cX10_faulty 76 = .ok (.aload_n 0, 1) := by decide +kernel
theorem dX10_faulty_77 : decode cX10_faulty 77 = .ok (.iload_n 1, 1) := by decide +kernel
theorem dX10_faulty_78 : decode cX10_faulty 78 = .ok (.bipush 48, 2) := by decide +kernel
theorem dX10_faulty_80 : decode cX10_faulty 80 = .ok (.isub, 1) := by decide +kernel
theorem dX10_faulty_81 : decode cX10_faulty 81 = .ok (.invokevirtual 171, 3) := by decide +kernel
theorem dX10_faulty_84 : decode cX10_faulty 84 = .ok (.goto 4, 3) := by decide +kernel
theorem dX10_faulty_87 : decode cX10_faulty 87 = .ok (.iconst 1, 1) := by decide +kernel
theorem dX10_faulty_88 : decode cX10_faulty 88 = .ok (.putfield 174, 3) := by decide +kernel
theorem dX10_faulty_91 : decode cX10_faulty 91 = .ok (.aload_n 0, 1) := by decide +kernel
theorem dX10_faulty_92 : decode cX10_faulty 92 = .ok (.getfield 174, 3) := by decide +kernel
theorem dX10_faulty_95 : decode cX10_faulty 95 = .ok (.ifCond .le 8, 3) := by decide +kernel
theorem dX10_faulty_98 : decode cX10_faulty 98 = .ok (.aload_n 0, 1) := by decide +kernel
theorem dX10_faulty_99 : decode cX10_faulty 99 = .ok (.getfield 155, 3) := by decide +kernel
theorem dX10_faulty_102 : decode cX10_faulty 102 = .ok (.ireturn, 1) := by decide +kernel
theorem dX10_faulty_103 : decode cX10_faulty 103 = .ok (.goto (-85), 3) := by decide +kernel
theorem dX10_faulty_106 : decode cX10_faulty 106 = .ok (.ldc 126, 2) := by decide +kernel
theorem dX10_faulty_108 : decode cX10_faulty 108 = .ok (.ireturn, 1) := by decide +kernel
theorem dX10_fault_0 : decode cX10_fault 0 = .ok (.iload_n 1, 1) := by decide +kernel
theorem dX10_fault_1 : decode cX10_fault 1 = .ok (.iconst 0, 1) := by decide +kernel
theorem dX10_fault_2 : decode cX10_fault 2 = .ok (.iconst 1, 1) := by decide +kernel
theorem dX10_fault_3 : decode cX10_fault 3 = .ok (.invokestatic 65, 3) := by decide +kernel
theorem dX10_fault_6 : decode cX10_fault 6 = .ok (.ifCond .ne 6, 3) := by decide +kernel
theorem dX10_fault_9 : decode cX10_fault 9 = .ok (.ldc 60, 2) := by decide +kernel
theorem dX10_fault_11 : decode cX10_fault 11 = .ok (.ireturn, 1) := by decide +kernel
theorem dX10_fault_12 : decode cX10_fault 12 = .ok (.aload_n 0, 1) := by decide +kernel
theorem dX10_fault_13 : decode cX10_fault 13 = .ok (.invokevirtual 177, 3) := by decide +kernel
theorem dX10_fault_16 : decode cX10_fault 16 = .ok (.istore_n 2, 1) := by decide +kernel
theorem dX10_fault_17 : decode cX10_fault 17 = .ok (.iload_n 2, 1) := by decide +kernel
theorem dX10_fault_18 : decode cX10_fault 18 = .ok (.ldc 126, 2) := by decide +kernel
theorem dX10_fault_20 : decode cX10_fault 20 = .ok (.if_icmp .eq 7, 3) := by decide +kernel
theorem dX10_fault_23 : decode cX10_fault 23 = .ok (.iload_n 1, 1) := by decide +kernel
theorem dX10_fault_24 : decode cX10_fault 24 = .ok (.ifCond .ne 7, 3) := by decide +kernel
theorem dX10_fault_27 : decode cX10_fault 27 = .ok (.iload_n 2, 1) := by decide +kernel
theorem dX10_fault_28 : decode cX10_fault 28 = .ok (.goto 7, 3) := by decide +kernel
theorem dX10_fault_31 : decode cX10_fault 31 = .ok (.aload_n 0, 1) := by decide +kernel
theorem dX10_fault_32 : decode cX10_fault 32 = .ok (.getfield 174, 3) := by decide +kernel
theorem dX10_fault_35 : decode cX10_fault 35 = .ok (.ireturn, 1) := by decide +kernel
theorem dX10_read_0 : decode cX10_read 0 = .ok (.iload_n 1, 1) := by decide +kernel
theorem dX10_read_1 : decode cX10_read 1 = .ok (.iconst 0, 1) := by decide +kernel
theorem dX10_read_2 : decode cX10_read 2 = .ok (.iconst 1, 1) := by decide +kernel
theorem dX10_read_3 : decode cX10_read 3 = .ok (.invokestatic 65, 3) := by decide +kernel
theorem dX10_read_6 : decode cX10_read 6 = .ok (.ifCond .ne 6, 3) := by decide +kernel
theorem dX10_read_9 : decode cX10_read 9 = .ok (.ldc 60, 2) := by decide +kernel
theorem dX10_read_11 : decode cX10_read 11 = .ok (.ireturn, 1) := by decide +kernel
theorem dX10_read_12 : decode cX10_read 12 = .ok (.aload_n 0, 1) := by decide +kernel
theorem dX10_read_13 : decode cX10_read 13 = .ok (.invokevirtual 177, 3) := by decide +kernel
theorem dX10_read_16 : decode cX10_read 16 = .ok (.ldc 126, 2) := by decide +kernel
theorem dX10_read_18 : decode cX10_read 18 = .ok (.if_icmp .eq 6, 3) := by decide +kernel
theorem dX10_read_21 : decode cX10_read 21 = .ok (.ldc 85, 2) := by decide +kernel
theorem dX10_read_23 : decode cX10_read 23 = .ok (.ireturn, 1) := by decide +kernel
theorem dX10_read_24 : decode cX10_read 24 = .ok (.aload_n 0, 1) := by decide +kernel
theorem dX10_read_25 : decode cX10_read 25 = .ok (.invokevirtual 78, 3) := by decide +kernel
theorem dX10_read_28 : decode cX10_read 28 = .ok (.iconst 0, 1) := by decide +kernel
theorem dX10_read_29 : decode cX10_read 29 = .ok (.istore_n 2, 1) := by decide +kernel
theorem dX10_read_30 : decode cX10_read 30 = .ok (.iload_n 2, 1) := by decide +kernel
theorem dX10_read_31 : decode cX10_read 31 = .ok (.bipush 34, 2) := by decide +kernel
theorem dX10_read_33 : decode cX10_read 33 = .ok (.if_icmp .ge 26, 3) := by decide +kernel
theorem dX10_read_36 : decode cX10_read 36 = .ok (.aload_n 0, 1) := by decide +kernel
theorem dX10_read_37 : decode cX10_read 37 = .ok (.getfield 7, 3) := by decide +kernel
theorem dX10_read_40 : decode cX10_read 40 = .ok (.bipush 34, 2) := by decide +kernel
theorem dX10_read_42 : decode cX10_read 42 = .ok (.iload_n 1, 1) := by decide +kernel
theorem dX10_read_43 : decode cX10_read 43 = .ok (.imul, 1) := by decide +kernel
theorem dX10_read_44 : decode cX10_read 44 = .ok (.iload_n 2, 1) := by decide +kernel
theorem dX10_read_45 : decode cX10_read 45 = .ok (.iadd, 1) := by decide +kernel
theorem dX10_read_46 : decode cX10_read 46 = .ok (.aload_n 0, 1) := by decide +kernel
theorem dX10_read_47 : decode cX10_read 47 = .ok (.getfield 23, 3) := by decide +kernel
theorem dX10_read_50 : decode cX10_read 50 = .ok (.iload_n 2, 1) := by decide +kernel
theorem dX10_read_51 : decode cX10_read 51 = .ok (.iaload, 1) := by decide +kernel
theorem dX10_read_52 : decode cX10_read 52 = .ok (.iastore, 1) := by decide +kernel
theorem dX10_read_53 : decode cX10_read 53 = .ok (.iinc 2 1, 3) := by decide +kernel
theorem dX10_read_56 : decode cX10_read 56 = .ok (.goto (-26), 3) := by decide +kernel
theorem dX10_read_59 : decode cX10_read 59 = .ok (.aload_n 0, 1) := by decide +kernel
theorem dX10_read_60 : decode cX10_read 60 = .ok (.aload_n 0, 1) := by decide +kernel
theorem dX10_read_61 : decode cX10_read 61 = .ok (.getfield 23, 3) := by decide +kernel
theorem dX10_read_64 : decode cX10_read 64 = .ok (.iconst 0, 1) := by decide +kernel
theorem dX10_read_65 : decode cX10_read 65 = .ok (.iaload, 1) := by decide +kernel
theorem dX10_read_66 : decode cX10_read 66 = .ok (.invokevirtual 81, 3) := by decide +kernel
theorem dX10_read_69 : decode cX10_read 69 = .ok (.ireturn, 1) := by decide +kernel
