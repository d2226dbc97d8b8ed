theorem d_M_stealth_20 : decode b_M_stealth 20 = .ok (.ldc2_w 225, 3) := by decide +kernel
theorem d_M_stealth_23 : decode b_M_stealth 23 = .ok (.invokestatic 45, 3) := by decide +kernel
theorem d_M_stealth_26 : decode b_M_stealth 26 = .ok (.ifCond .ne 6, 3) := by decide +kernel
theorem d_M_stealth_29 : decode b_M_stealth 29 = .ok (.ldc 55, 2) := by decide +kernel
theorem d_M_stealth_31 : decode b_M_stealth 31 = .ok (.ireturn, 1) := by decide +kernel
theorem d_M_stealth_32 : decode b_M_stealth 32 = .ok (.aload_n 0, 1) := by decide +kernel
theorem d_M_stealth_33 : decode b_M_stealth 33 = .ok (.iload_n 1, 1) := by decide +kernel
theorem d_M_stealth_34 : decode b_M_stealth 34 = .ok (.iload_n 2, 1) := by decide +kernel
theorem d_M_stealth_35 : decode b_M_stealth 35 = .ok (.iload_n 3, 1) := by decide +kernel
theorem d_M_stealth_36 : decode b_M_stealth 36 = .ok (.invokevirtual 227, 3) := by decide +kernel
theorem d_M_stealth_39 : decode b_M_stealth 39 = .ok (.istore 4, 2) := by decide +kernel
theorem d_M_stealth_41 : decode b_M_stealth 41 = .ok (.iload 4, 2) := by decide +kernel
theorem d_M_stealth_43 : decode b_M_stealth 43 = .ok (.ifCond .eq 6, 3) := by decide +kernel
theorem d_M_stealth_46 : decode b_M_stealth 46 = .ok (.iload 4, 2) := by decide +kernel
theorem d_M_stealth_48 : decode b_M_stealth 48 = .ok (.ireturn, 1) := by decide +kernel
theorem d_M_stealth_49 : decode b_M_stealth 49 = .ok (.iconst 0, 1) := by decide +kernel
theorem d_M_stealth_50 : decode b_M_stealth 50 = .ok (.istore 5, 2) := by decide +kernel
theorem d_M_stealth_52 : decode b_M_stealth 52 = .ok (.iconst 0, 1) := by decide +kernel
theorem d_M_stealth_53 : decode b_M_stealth 53 = .ok (.istore 6, 2) := by decide +kernel
theorem d_M_stealth_55 : decode b_M_stealth 55 = .ok (.iload 6, 2) := by decide +kernel
theorem d_M_stealth_57 : decode b_M_stealth 57 = .ok (.bipush 7, 2) := by decide +kernel
theorem d_M_stealth_59 : decode b_M_stealth 59 = .ok (.if_icmp .ge 86, 3) := by decide +kernel
theorem d_M_stealth_62 : decode b_M_stealth 62 = .ok (.aload_n 0, 1) := by decide +kernel
theorem d_M_stealth_63 : decode b_M_stealth 63 = .ok (.invokevirtual 188, 3) := by decide +kernel
theorem d_M_stealth_66 : decode b_M_stealth 66 = .ok (.aload_n 0, 1) := by decide +kernel
theorem d_M_stealth_67 : decode b_M_stealth 67 = .ok (.getfield 7, 3) := by decide +kernel
theorem d_M_stealth_70 : decode b_M_stealth 70 = .ok (.sipush 975, 3) := by decide +kernel
theorem d_M_stealth_73 : decode b_M_stealth 73 = .ok (.dup2, 1) := by decide +kernel
theorem d_M_stealth_74 : decode b_M_stealth 74 = .ok (.iaload, 1) := by decide +kernel
theorem d_M_stealth_75 : decode b_M_stealth 75 = .ok (.iconst 1, 1) := by decide +kernel
theorem d_M_stealth_76 : decode b_M_stealth 76 = .ok (.iload 6, 2) := by decide +kernel
theorem d_M_stealth_78 : decode b_M_stealth 78 = .ok (.ishl, 1) := by decide +kernel
theorem d_M_stealth_79 : decode b_M_stealth 79 = .ok (.iconst (-1), 1) := by decide +kernel
theorem d_M_stealth_80 : decode b_M_stealth 80 = .ok (.ixor, 1) := by decide +kernel
theorem d_M_stealth_81 : decode b_M_stealth 81 = .ok (.iand, 1) := by decide +kernel
theorem d_M_stealth_82 : decode b_M_stealth 82 = .ok (.iastore, 1) := by decide +kernel
theorem d_M_stealth_83 : decode b_M_stealth 83 = .ok (.iload 6, 2) := by decide +kernel
theorem d_M_stealth_85 : decode b_M_stealth 85 = .ok (.bipush 6, 2) := by decide +kernel
theorem d_M_stealth_87 : decode b_M_stealth 87 = .ok (.if_icmp .eq 17, 3) := by decide +kernel
theorem d_M_stealth_90 : decode b_M_stealth 90 = .ok (.aload_n 0, 1) := by decide +kernel
theorem d_M_stealth_91 : decode b_M_stealth 91 = .ok (.getfield 7, 3) := by decide +kernel
theorem d_M_stealth_94 : decode b_M_stealth 94 = .ok (.iconst 3, 1) := by decide +kernel
theorem d_M_stealth_95 : decode b_M_stealth 95 = .ok (.iaload, 1) := by decide +kernel
theorem d_M_stealth_96 : decode b_M_stealth 96 = .ok (.iload 6, 2) := by decide +kernel
theorem d_M_stealth_98 : decode b_M_stealth 98 = .ok (.invokestatic 138, 3) := by decide +kernel
theorem d_M_stealth_101 : decode b_M_stealth 101 = .ok (.ifCond .eq 17, 3) := by decide +kernel
theorem d_M_stealth_104 : decode b_M_stealth 104 = .ok (.aload_n 0, 1) := by decide +kernel
theorem d_M_stealth_105 : decode b_M_stealth 105 = .ok (.iload_n 1, 1) := by decide +kernel
theorem d_M_stealth_106 : decode b_M_stealth 106 = .ok (.iload_n 2, 1) := by decide +kernel
theorem d_M_stealth_107 : decode b_M_stealth 107 = .ok (.iload_n 3, 1) := by decide +kernel
theorem d_M_stealth_108 : decode b_M_stealth 108 = .ok (.invokevirtual 231, 3) := by decide +kernel
theorem d_M_stealth_111 : decode b_M_stealth 111 = .ok (.ifCond .eq 7, 3) := by decide +kernel
theorem d_M_stealth_114 : decode b_M_stealth 114 = .ok (.iconst 1, 1) := by decide +kernel
theorem d_M_stealth_115 : decode b_M_stealth 115 = .ok (.goto 4, 3) := by decide +kernel
theorem d_M_stealth_118 : decode b_M_stealth 118 = .ok (.iconst 0, 1) := by decide +kernel
theorem d_M_stealth_119 : decode b_M_stealth 119 = .ok (.istore 7, 2) := by decide +kernel
theorem d_M_stealth_121 : decode b_M_stealth 121 = .ok (.iload 5, 2) := by decide +kernel
theorem d_M_stealth_123 : decode b_M_stealth 123 = .ok (.iload 7, 2) := by decide +kernel
theorem d_M_stealth_125 : decode b_M_stealth 125 = .ok (.ifCond .eq 10, 3) := by decide +kernel
theorem d_M_stealth_128 : decode b_M_stealth 128 = .ok (.iconst 1, 1) := by decide +kernel
theorem d_M_stealth_129 : decode b_M_stealth 129 = .ok (.iload 6, 2) := by decide +kernel
theorem d_M_stealth_131 : decode b_M_stealth 131 = .ok (.ishl, 1) := by decide +kernel
theorem d_M_stealth_132 : decode b_M_stealth 132 = .ok (.goto 4, 3) := by decide +kernel
theorem d_M_stealth_135 : decode b_M_stealth 135 = .ok (.iconst 0, 1) := by decide +kernel
theorem d_M_stealth_136 : decode b_M_stealth 136 = .ok (.ior, 1) := by decide +kernel
theorem d_M_stealth_137 : decode b_M_stealth 137 = .ok (.istore 5, 2) := by decide +kernel
theorem d_M_stealth_139 : decode b_M_stealth 139 = .ok (.iinc 6 1, 3) := by decide +kernel
theorem d_M_stealth_142 : decode b_M_stealth 142 = .ok (.goto (-87), 3) := by decide +kernel
theorem d_M_stealth_145 : decode b_M_stealth 145 = .ok (.aload_n 0, 1) := by decide +kernel
theorem d_M_stealth_146 : decode b_M_stealth 146 = .ok (.iload 5, 2) := by decide +kernel
theorem d_M_stealth_148 : decode b_M_stealth 148 = .ok (.invokevirtual 60, 3) := by decide +kernel
theorem d_M_stealth_151 : decode b_M_stealth 151 = .ok (.ireturn, 1) := by decide +kernel
theorem d_M_sum_0 : decode b_M_sum 0 = .ok (.aload_n 0, 1) := by decide +kernel
theorem d_M_sum_1 : decode b_M_sum 1 = .ok (.iload_n 1, 1) := by decide +kernel
theorem d_M_sum_2 : decode b_M_sum 2 = .ok (.invokevirtual 194, 3) := by decide +kernel
theorem d_M_sum_5 : decode b_M_sum 5 = .ok (.istore_n 2, 1) := by decide +kernel
theorem d_M_sum_6 : decode b_M_sum 6 = .ok (.iload_n 2, 1) := by decide +kernel
theorem d_M_sum_7 : decode b_M_sum 7 = .ok (.ifCond .eq 7, 3) := by decide +kernel
theorem d_M_sum_10 : decode b_M_sum 10 = .ok (.iload_n 2, 1) := by decide +kernel
theorem d_M_sum_11 : decode b_M_sum 11 = .ok (.goto 11, 3) := by decide +kernel
theorem d_M_sum_14 : decode b_M_sum 14 = .ok (.aload_n 0, 1) := by decide +kernel
theorem d_M_sum_15 : decode b_M_sum 15 = .ok (.getfield 7, 3) := by decide +kernel
theorem d_M_sum_18 : decode b_M_sum 18 = .ok (.sipush 976, 3) := by decide +kernel
theorem d_M_sum_21 : decode b_M_sum 21 = .ok (.iaload, 1) := by decide +kernel
theorem d_M_sum_22 : decode b_M_sum 22 = .ok (.ireturn, 1) := by decide +kernel
theorem d_M_swapLine_0 : decode b_M_swapLine 0 = .ok (.aload_n 0, 1) := by decide +kernel
theorem d_M_swapLine_1 : decode b_M_swapLine 1 = .ok (.getfield 32, 3) := by decide +kernel
theorem d_M_swapLine_4 : decode b_M_swapLine 4 = .ok (.iload_n 1, 1) := by decide +kernel
theorem d_M_swapLine_5 : decode b_M_swapLine 5 = .ok (.iaload, 1) := by decide +kernel
theorem d_M_swapLine_6 : decode b_M_swapLine 6 = .ok (.istore_n 3, 1) := by decide +kernel
theorem d_M_swapLine_7 : decode b_M_swapLine 7 = .ok (.aload_n 0, 1) := by decide +kernel
theorem d_M_swapLine_8 : decode b_M_swapLine 8 = .ok (.getfield 32, 3) := by decide +kernel
theorem d_M_swapLine_11 : decode b_M_swapLine 11 = .ok (.iload_n 1, 1) := by decide +kernel
theorem d_M_swapLine_12 : decode b_M_swapLine 12 = .ok (.aload_n 0, 1) := by decide +kernel
theorem d_M_swapLine_13 : decode b_M_swapLine 13 = .ok (.getfield 32, 3) := by decide +kernel
theorem d_M_swapLine_16 : decode b_M_swapLine 16 = .ok (.iload_n 2, 1) := by decide +kernel
theorem d_M_swapLine_17 : decode b_M_swapLine 17 = .ok (.iaload, 1) := by decide +kernel
theorem d_M_swapLine_18 : decode b_M_swapLine 18 = .ok (.iastore, 1) := by decide +kernel
theorem d_M_swapLine_19 : decode b_M_swapLine 19 = .ok (.aload_n 0, 1) := by decide +kernel
theorem d_M_swapLine_20 : decode b_M_swapLine 20 = .ok (.getfield 32, 3) := by decide +kernel
theorem d_M_swapLine_23 : decode b_M_swapLine 23 = .ok (.iload_n 2, 1) := by decide +kernel
theorem d_M_swapLine_24 : decode b_M_swapLine 24 = .ok (.iload_n 3, 1) := by decide +kernel
theorem d_M_swapLine_25 : decode b_M_swapLine 25 = .ok (.iastore, 1) := by decide +kernel
theorem d_M_swapLine_26 : decode b_M_swapLine 26 = .ok (.return_, 1) := by decide +kernel
theorem d_M_thickness_0 : decode b_M_thickness 0 = .ok (.iconst 0, 1) := by decide +kernel
theorem d_M_thickness_1 : decode b_M_thickness 1 = .ok (.istore_n 2, 1) := by decide +kernel
theorem d_M_thickness_2 : decode b_M_thickness 2 = .ok (.iconst 0, 1) := by decide +kernel
theorem d_M_thickness_3 : decode b_M_thickness 3 = .ok (.istore_n 3, 1) := by decide +kernel
theorem d_M_thickness_4 : decode b_M_thickness 4 = .ok (.iload_n 3, 1) := by decide +kernel
theorem d_M_thickness_5 : decode b_M_thickness 5 = .ok (.aload_n 0, 1) := by decide +kernel
theorem d_M_thickness_6 : decode b_M_thickness 6 = .ok (.getfield 7, 3) := by decide +kernel
theorem d_M_thickness_9 : decode b_M_thickness 9 = .ok (.iload_n 1, 1) := by decide +kernel
theorem d_M_thickness_10 : decode b_M_thickness 10 = .ok (.iconst 0, 1) := by decide +kernel
theorem d_M_thickness_11 : decode b_M_thickness 11 = .ok (.iadd, 1) := by decide +kernel
theorem d_M_thickness_12 : decode b_M_thickness 12 = .ok (.iaload, 1) := by decide +kernel
theorem d_M_thickness_13 : decode b_M_thickness 13 = .ok (.if_icmp .ge 42, 3) := by decide +kernel
theorem d_M_thickness_16 : decode b_M_thickness 16 = .ok (.iload_n 2, 1) := by decide +kernel
theorem d_M_thickness_17 : decode b_M_thickness 17 = .ok (.aload_n 0, 1) := by decide +kernel
theorem d_M_thickness_18 : decode b_M_thickness 18 = .ok (.getfield 7, 3) := by decide +kernel
theorem d_M_thickness_21 : decode b_M_thickness 21 = .ok (.iload_n 1, 1) := by decide +kernel
theorem d_M_thickness_22 : decode b_M_thickness 22 = .ok (.iconst 3, 1) := by decide +kernel
theorem d_M_thickness_23 : decode b_M_thickness 23 = .ok (.iadd, 1) := by decide +kernel
theorem d_M_thickness_24 : decode b_M_thickness 24 = .ok (.iaload, 1) := by decide +kernel
theorem d_M_thickness_25 : decode b_M_thickness 25 = .ok (.iload_n 3, 1) := by decide +kernel
theorem d_M_thickness_26 : decode b_M_thickness 26 = .ok (.invokestatic 138, 3) := by decide +kernel
theorem d_M_thickness_29 : decode b_M_thickness 29 = .ok (.ifCond .eq 17, 3) := by decide +kernel
theorem d_M_thickness_32 : decode b_M_thickness 32 = .ok (.aload_n 0, 1) := by decide +kernel
theorem d_M_thickness_33 : decode b_M_thickness 33 = .ok (.getfield 7, 3) := by decide +kernel
theorem d_M_thickness_36 : decode b_M_thickness 36 = .ok (.iload_n 1, 1) := by decide +kernel
theorem d_M_thickness_37 : decode b_M_thickness 37 = .ok (.bipush 18, 2) := by decide +kernel
theorem d_M_thickness_39 : decode b_M_thickness 39 = .ok (.iadd, 1) := by decide +kernel
theorem d_M_thickness_40 : decode b_M_thickness 40 = .ok (.iload_n 3, 1) := by decide +kernel
theorem d_M_thickness_41 : decode b_M_thickness 41 = .ok (.iadd, 1) := by decide +kernel
theorem d_M_thickness_42 : decode b_M_thickness 42 = .ok (.iaload, 1) := by decide +kernel
theorem d_M_thickness_43 : decode b_M_thickness 43 = .ok (.goto 4, 3) := by decide +kernel
theorem d_M_thickness_46 : decode b_M_thickness 46 = .ok (.iconst 0, 1) := by decide +kernel
theorem d_M_thickness_47 : decode b_M_thickness 47 = .ok (.iadd, 1) := by decide +kernel
theorem d_M_thickness_48 : decode b_M_thickness 48 = .ok (.istore_n 2, 1) := by decide +kernel
theorem d_M_thickness_49 : decode b_M_thickness 49 = .ok (.iinc 3 1, 3) := by decide +kernel
theorem d_M_thickness_52 : decode b_M_thickness 52 = .ok (.goto (-48), 3) := by decide +kernel
theorem d_M_thickness_55 : decode b_M_thickness 55 = .ok (.iload_n 2, 1) := by decide +kernel
theorem d_M_thickness_56 : decode b_M_thickness 56 = .ok (.ireturn, 1) := by decide +kernel
theorem d_M_trace_0 : decode b_M_trace 0 = .ok (.iload_n 1, 1) := by decide +kernel
theorem d_M_trace_1 : decode b_M_trace 1 = .ok (.i2l, 1) := by decide +kernel
theorem d_M_trace_2 : decode b_M_trace 2 = .ok (.lconst 0, 1) := by decide +kernel
theorem d_M_trace_3 : decode b_M_trace 3 = .ok (.aload_n 0, 1) := by decide +kernel
theorem d_M_trace_4 : decode b_M_trace 4 = .ok (.getfield 247, 3) := by decide +kernel
theorem d_M_trace_7 : decode b_M_trace 7 = .ok (.iconst 1, 1) := by decide +kernel
theorem d_M_trace_8 : decode b_M_trace 8 = .ok (.isub, 1) := by decide +kernel
theorem d_M_trace_9 : decode b_M_trace 9 = .ok (.i2l, 1) := by decide +kernel
theorem d_M_trace_10 : decode b_M_trace 10 = .ok (.invokestatic 45, 3) := by decide +kernel
theorem d_M_trace_13 : decode b_M_trace 13 = .ok (.ifCond .eq 12, 3) := by decide +kernel
theorem d_M_trace_16 : decode b_M_trace 16 = .ok (.aload_n 0, 1) := by decide +kernel
theorem d_M_trace_17 : decode b_M_trace 17 = .ok (.getfield 29, 3) := by decide +kernel
theorem d_M_trace_20 : decode b_M_trace 20 = .ok (.iload_n 1, 1) := by decide +kernel
theorem d_M_trace_21 : decode b_M_trace 21 = .ok (.iaload, 1) := by decide +kernel
theorem d_M_trace_22 : decode b_M_trace 22 = .ok (.goto 5, 3) := by decide +kernel
theorem d_M_trace_25 : decode b_M_trace 25 = .ok (.ldc 147, 2) := by decide +kernel
theorem d_M_trace_27 : decode b_M_trace 27 = .ok (.ireturn, 1) := by decide +kernel
theorem d_M_undo_0 : decode b_M_undo 0 = .ok (.aload_n 0, 1) := by decide +kernel
theorem d_M_undo_1 : decode b_M_undo 1 = .ok (.getfield 134, 3) := by decide +kernel
theorem d_M_undo_4 : decode b_M_undo 4 = .ok (.ifCond .ne 6, 3) := by decide +kernel
theorem d_M_undo_7 : decode b_M_undo 7 = .ok (.ldc 137, 2) := by decide +kernel
theorem d_M_undo_9 : decode b_M_undo 9 = .ok (.ireturn, 1) := by decide +kernel
theorem d_M_undo_10 : decode b_M_undo 10 = .ok (.aload_n 0, 1) := by decide +kernel
theorem d_M_undo_11 : decode b_M_undo 11 = .ok (.dup, 1) := by decide +kernel
theorem d_M_undo_12 : decode b_M_undo 12 = .ok (.getfield 134, 3) := by decide +kernel
theorem d_M_undo_15 : decode b_M_undo 15 = .ok (.iconst 1, 1) := by decide +kernel
theorem d_M_undo_16 : decode b_M_undo 16 = .ok (.isub, 1) := by decide +kernel
theorem d_M_undo_17 : decode b_M_undo 17 = .ok (.putfield 134, 3) := by decide +kernel
theorem d_M_undo_20 : decode b_M_undo 20 = .ok (.aload_n 0, 1) := by decide +kernel
theorem d_M_undo_21 : decode b_M_undo 21 = .ok (.bipush 36, 2) := by decide +kernel
theorem d_M_undo_23 : decode b_M_undo 23 = .ok (.bipush 36, 2) := by decide +kernel
theorem d_M_undo_25 : decode b_M_undo 25 = .ok (.aload_n 0, 1) := by decide +kernel
theorem d_M_undo_26 : decode b_M_undo 26 = .ok (.getfield 134, 3) := by decide +kernel
theorem d_M_undo_29 : decode b_M_undo 29 = .ok (.imul, 1) := by decide +kernel
theorem d_M_undo_30 : decode b_M_undo 30 = .ok (.iadd, 1) := by decide +kernel
theorem d_M_undo_31 : decode b_M_undo 31 = .ok (.iconst 0, 1) := by decide +kernel
theorem d_M_undo_32 : decode b_M_undo 32 = .ok (.invokevirtual 126, 3) := by decide +kernel
theorem d_M_undo_35 : decode b_M_undo 35 = .ok (.aload_n 0, 1) := by decide +kernel
theorem d_M_undo_36 : decode b_M_undo 36 = .ok (.getfield 134, 3) := by decide +kernel
theorem d_M_undo_39 : decode b_M_undo 39 = .ok (.ireturn, 1) := by decide +kernel
theorem d_M_weighs_0 : decode b_M_weighs 0 = .ok (.aload_n 0, 1) := by decide +kernel
theorem d_M_weighs_1 : decode b_M_weighs 1 = .ok (.getfield 7, 3) := by decide +kernel
theorem d_M_weighs_4 : decode b_M_weighs 4 = .ok (.iload_n 1, 1) := by decide +kernel
theorem d_M_weighs_5 : decode b_M_weighs 5 = .ok (.iconst 3, 1) := by decide +kernel
theorem d_M_weighs_6 : decode b_M_weighs 6 = .ok (.iadd, 1) := by decide +kernel
theorem d_M_weighs_7 : decode b_M_weighs 7 = .ok (.iaload, 1) := by decide +kernel
theorem d_M_weighs_8 : decode b_M_weighs 8 = .ok (.iload_n 2, 1) := by decide +kernel
theorem d_M_weighs_9 : decode b_M_weighs 9 = .ok (.invokestatic 138, 3) := by decide +kernel
theorem d_M_weighs_12 : decode b_M_weighs 12 = .ok (.ifCond .ne 5, 3) := by decide +kernel
theorem d_M_weighs_15 : decode b_M_weighs 15 = .ok (.iconst 0, 1) := by decide +kernel
theorem d_M_weighs_16 : decode b_M_weighs 16 = .ok (.ireturn, 1) := by decide +kernel
theorem d_M_weighs_17 : decode b_M_weighs 17 = .ok (.aload_n 0, 1) := by decide +kernel
theorem d_M_weighs_18 : decode b_M_weighs 18 = .ok (.getfield 7, 3) := by decide +kernel
theorem d_M_weighs_21 : decode b_M_weighs 21 = .ok (.iload_n 1, 1) := by decide +kernel
theorem d_M_weighs_22 : decode b_M_weighs 22 = .ok (.bipush 12, 2) := by decide +kernel
theorem d_M_weighs_24 : decode b_M_weighs 24 = .ok (.iadd, 1) := by decide +kernel
theorem d_M_weighs_25 : decode b_M_weighs 25 = .ok (.iload_n 2, 1) := by decide +kernel
theorem d_M_weighs_26 : decode b_M_weighs 26 = .ok (.iadd, 1) := by decide +kernel
theorem d_M_weighs_27 : decode b_M_weighs 27 = .ok (.iaload, 1) := by decide +kernel
theorem d_M_weighs_28 : decode b_M_weighs 28 = .ok (.aload_n 0, 1) := by decide +kernel
theorem d_M_weighs_29 : decode b_M_weighs 29 = .ok (.getfield 7, 3) := by decide +kernel
theorem d_M_weighs_32 : decode b_M_weighs 32 = .ok (.iload_n 1, 1) := by decide +kernel
theorem d_M_weighs_33 : decode b_M_weighs 33 = .ok (.bipush 30, 2) := by decide +kernel
theorem d_M_weighs_35 : decode b_M_weighs 35 = .ok (.iadd, 1) := by decide +kernel
theorem d_M_weighs_36 : decode b_M_weighs 36 = .ok (.iload_n 2, 1) := by decide +kernel
theorem d_M_weighs_37 : decode b_M_weighs 37 = .ok (.iadd, 1) := by decide +kernel
theorem d_M_weighs_38 : decode b_M_weighs 38 = .ok (.iaload, 1) := by decide +kernel
theorem d_M_weighs_39 : decode b_M_weighs 39 = .ok (.iadd, 1) := by decide +kernel
theorem d_M_weighs_40 : decode b_M_weighs 40 = .ok (.istore_n 3, 1) := by decide +kernel
theorem d_M_weighs_41 : decode b_M_weighs 41 = .ok (.aload_n 0, 1) := by decide +kernel
theorem d_M_weighs_42 : decode b_M_weighs 42 = .ok (.getfield 7, 3) := by decide +kernel
theorem d_M_weighs_45 : decode b_M_weighs 45 = .ok (.iload_n 1, 1) := by decide +kernel
theorem d_M_weighs_46 : decode b_M_weighs 46 = .ok (.bipush 6, 2) := by decide +kernel
theorem d_M_weighs_48 : decode b_M_weighs 48 = .ok (.iadd, 1) := by decide +kernel
theorem d_M_weighs_49 : decode b_M_weighs 49 = .ok (.iload_n 2, 1) := by decide +kernel
theorem d_M_weighs_50 : decode b_M_weighs 50 = .ok (.iadd, 1) := by decide +kernel
theorem d_M_weighs_51 : decode b_M_weighs 51 = .ok (.iaload, 1) := by decide +kernel
theorem d_M_weighs_52 : decode b_M_weighs 52 = .ok (.tableswitch 96 2 5 #[32, 36, 58, 70], 32) := by decide +kernel
theorem d_M_weighs_84 : decode b_M_weighs 84 = .ok (.iconst 2, 1) := by decide +kernel
theorem d_M_weighs_85 : decode b_M_weighs 85 = .ok (.iload_n 3, 1) := by decide +kernel
theorem d_M_weighs_86 : decode b_M_weighs 86 = .ok (.imul, 1) := by decide +kernel
theorem d_M_weighs_87 : decode b_M_weighs 87 = .ok (.ireturn, 1) := by decide +kernel
theorem d_M_weighs_88 : decode b_M_weighs 88 = .ok (.aload_n 0, 1) := by decide +kernel
theorem d_M_weighs_89 : decode b_M_weighs 89 = .ok (.getfield 7, 3) := by decide +kernel
theorem d_M_weighs_92 : decode b_M_weighs 92 = .ok (.iload_n 1, 1) := by decide +kernel
theorem d_M_weighs_93 : decode b_M_weighs 93 = .ok (.bipush 30, 2) := by decide +kernel
theorem d_M_weighs_95 : decode b_M_weighs 95 = .ok (.iadd, 1) := by decide +kernel
theorem d_M_weighs_96 : decode b_M_weighs 96 = .ok (.iload_n 2, 1) := by decide +kernel
theorem d_M_weighs_97 : decode b_M_weighs 97 = .ok (.iadd, 1) := by decide +kernel
theorem d_M_weighs_98 : decode b_M_weighs 98 = .ok (.iaload, 1) := by decide +kernel
theorem d_M_weighs_99 : decode b_M_weighs 99 = .ok (.bipush 8, 2) := by decide +kernel
theorem d_M_weighs_101 : decode b_M_weighs 101 = .ok (.if_icmp .le 7, 3) := by decide +kernel
theorem d_M_weighs_104 : decode b_M_weighs 104 = .ok (.iconst 0, 1) := by decide +kernel
theorem d_M_weighs_105 : decode b_M_weighs 105 = .ok (.goto 4, 3) := by decide +kernel
theorem d_M_weighs_108 : decode b_M_weighs 108 = .ok (.iload_n 3, 1) := by decide +kernel
theorem d_M_weighs_109 : decode b_M_weighs 109 = .ok (.ireturn, 1) := by decide +kernel
theorem d_M_weighs_110 : decode b_M_weighs 110 = .ok (.aload_n 0, 1) := by decide +kernel
theorem d_M_weighs_111 : decode b_M_weighs 111 = .ok (.getfield 7, 3) := by decide +kernel
theorem d_M_weighs_114 : decode b_M_weighs 114 = .ok (.iload_n 1, 1) := by decide +kernel
theorem d_M_weighs_115 : decode b_M_weighs 115 = .ok (.bipush 12, 2) := by decide +kernel
theorem d_M_weighs_117 : decode b_M_weighs 117 = .ok (.iadd, 1) := by decide +kernel
theorem d_M_weighs_118 : decode b_M_weighs 118 = .ok (.iload_n 2, 1) := by decide +kernel
theorem d_M_weighs_119 : decode b_M_weighs 119 = .ok (.iadd, 1) := by decide +kernel
theorem d_M_weighs_120 : decode b_M_weighs 120 = .ok (.iaload, 1) := by decide +kernel
theorem d_M_weighs_121 : decode b_M_weighs 121 = .ok (.ireturn, 1) := by decide +kernel
theorem d_M_weighs_122 : decode b_M_weighs 122 = .ok (.aload_n 0, 1) := by decide +kernel
theorem d_M_weighs_123 : decode b_M_weighs 123 = .ok (.getfield 7, 3) := by decide +kernel
theorem d_M_weighs_126 : decode b_M_weighs 126 = .ok (.iload_n 1, 1) := by decide +kernel
theorem d_M_weighs_127 : decode b_M_weighs 127 = .ok (.bipush 12, 2) := by decide +kernel
theorem d_M_weighs_129 : decode b_M_weighs 129 = .ok (.iadd, 1) := by decide +kernel
theorem d_M_weighs_130 : decode b_M_weighs 130 = .ok (.iload_n 2, 1) := by decide +kernel
theorem d_M_weighs_131 : decode b_M_weighs 131 = .ok (.iadd, 1) := by decide +kernel
theorem d_M_weighs_132 : decode b_M_weighs 132 = .ok (.iaload, 1) := by decide +kernel
theorem d_M_weighs_133 : decode b_M_weighs 133 = .ok (.aload_n 0, 1) := by decide +kernel
theorem d_M_weighs_134 : decode b_M_weighs 134 = .ok (.getfield 7, 3) := by decide +kernel
theorem d_M_weighs_137 : decode b_M_weighs 137 = .ok (.iload_n 1, 1) := by decide +kernel
theorem d_M_weighs_138 : decode b_M_weighs 138 = .ok (.iconst 3, 1) := by decide +kernel
theorem d_M_weighs_139 : decode b_M_weighs 139 = .ok (.iadd, 1) := by decide +kernel
theorem d_M_weighs_140 : decode b_M_weighs 140 = .ok (.iaload, 1) := by decide +kernel
theorem d_M_weighs_141 : decode b_M_weighs 141 = .ok (.invokestatic 141, 3) := by decide +kernel
theorem d_M_weighs_144 : decode b_M_weighs 144 = .ok (.iadd, 1) := by decide +kernel
theorem d_M_weighs_145 : decode b_M_weighs 145 = .ok (.iconst 1, 1) := by decide +kernel
theorem d_M_weighs_146 : decode b_M_weighs 146 = .ok (.isub, 1) := by decide +kernel
theorem d_M_weighs_147 : decode b_M_weighs 147 = .ok (.ireturn, 1) := by decide +kernel
theorem d_M_weighs_148 : decode b_M_weighs 148 = .ok (.iload_n 3, 1) := by decide +kernel
theorem d_M_weighs_149 : decode b_M_weighs 149 = .ok (.ireturn, 1) := by decide +kernel
theorem d_M_well_0 : decode b_M_well 0 = .ok (.aload_n 0, 1) := by decide +kernel
theorem d_M_well_1 : decode b_M_well 1 = .ok (.iconst 0, 1) := by decide +kernel
theorem d_M_well_2 : decode b_M_well 2 = .ok (.putfield 38, 3) := by decide +kernel
theorem d_M_well_5 : decode b_M_well 5 = .ok (.iload_n 1, 1) := by decide +kernel
theorem d_M_well_6 : decode b_M_well 6 = .ok (.ireturn, 1) := by decide +kernel
theorem d_O_extend_0 : decode b_O_extend 0 = .ok (.iload_n 2, 1) := by decide +kernel
theorem d_O_extend_1 : decode b_O_extend 1 = .ok (.aload_n 0, 1) := by decide +kernel
theorem d_O_extend_2 : decode b_O_extend 2 = .ok (.getfield 30, 3) := by decide +kernel
theorem d_O_extend_5 : decode b_O_extend 5 = .ok (.if_icmp .lt 4, 3) := by decide +kernel
theorem d_O_extend_8 : decode b_O_extend 8 = .ok (.return_, 1) := by decide +kernel
theorem d_O_extend_9 : decode b_O_extend 9 = .ok (.iload_n 1, 1) := by decide +kernel
theorem d_O_extend_10 : decode b_O_extend 10 = .ok (.ifCond .eq 9, 3) := by decide +kernel
theorem d_O_extend_13 : decode b_O_extend 13 = .ok (.iload_n 3, 1) := by decide +kernel
theorem d_O_extend_14 : decode b_O_extend 14 = .ok (.bipush 6, 2) := by decide +kernel
theorem d_O_extend_16 : decode b_O_extend 16 = .ok (.if_icmp .lt 24, 3) := by decide +kernel
theorem d_O_extend_19 : decode b_O_extend 19 = .ok (.aload_n 0, 1) := by decide +kernel
theorem d_O_extend_20 : decode b_O_extend 20 = .ok (.iload_n 2, 1) := by decide +kernel
theorem d_O_extend_21 : decode b_O_extend 21 = .ok (.putfield 30, 3) := by decide +kernel
theorem d_O_extend_24 : decode b_O_extend 24 = .ok (.aload_n 0, 1) := by decide +kernel
theorem d_O_extend_25 : decode b_O_extend 25 = .ok (.getfield 17, 3) := by decide +kernel
theorem d_O_extend_28 : decode b_O_extend 28 = .ok (.iconst 0, 1) := by decide +kernel
theorem d_O_extend_29 : decode b_O_extend 29 = .ok (.aload_n 0, 1) := by decide +kernel
theorem d_O_extend_30 : decode b_O_extend 30 = .ok (.getfield 21, 3) := by decide +kernel
theorem d_O_extend_33 : decode b_O_extend 33 = .ok (.iconst 0, 1) := by decide +kernel
theorem d_O_extend_34 : decode b_O_extend 34 = .ok (.bipush 6, 2) := by decide +kernel
theorem d_O_extend_36 : decode b_O_extend 36 = .ok (.invokestatic 38, 3) := by decide +kernel
theorem d_O_extend_39 : decode b_O_extend 39 = .ok (.return_, 1) := by decide +kernel
theorem d_O_extend_40 : decode b_O_extend 40 = .ok (.aload_n 0, 1) := by decide +kernel
theorem d_O_extend_41 : decode b_O_extend 41 = .ok (.getfield 11, 3) := by decide +kernel
theorem d_O_extend_44 : decode b_O_extend 44 = .ok (.iload_n 3, 1) := by decide +kernel
theorem d_O_extend_45 : decode b_O_extend 45 = .ok (.iconst 1, 1) := by decide +kernel
theorem d_O_extend_46 : decode b_O_extend 46 = .ok (.iadd, 1) := by decide +kernel
theorem d_O_extend_47 : decode b_O_extend 47 = .ok (.aaload, 1) := by decide +kernel
theorem d_O_extend_48 : decode b_O_extend 48 = .ok (.astore 4, 2) := by decide +kernel
theorem d_O_extend_50 : decode b_O_extend 50 = .ok (.iconst 0, 1) := by decide +kernel
theorem d_O_extend_51 : decode b_O_extend 51 = .ok (.istore 5, 2) := by decide +kernel
theorem d_O_extend_53 : decode b_O_extend 53 = .ok (.iload 5, 2) := by decide +kernel
theorem d_O_extend_55 : decode b_O_extend 55 = .ok (.bipush 6, 2) := by decide +kernel
theorem d_O_extend_57 : decode b_O_extend 57 = .ok (.if_icmp .ge 77, 3) := by decide +kernel
theorem d_O_extend_60 : decode b_O_extend 60 = .ok (.iload_n 1, 1) := by decide +kernel
theorem d_O_extend_61 : decode b_O_extend 61 = .ok (.iload 5, 2) := by decide +kernel
theorem d_O_extend_63 : decode b_O_extend 63 = .ok (.ishr, 1) := by decide +kernel
theorem d_O_extend_64 : decode b_O_extend 64 = .ok (.iconst 1, 1) := by decide +kernel
theorem d_O_extend_65 : decode b_O_extend 65 = .ok (.iand, 1) := by decide +kernel
theorem d_O_extend_66 : decode b_O_extend 66 = .ok (.iconst 1, 1) := by decide +kernel
theorem d_O_extend_67 : decode b_O_extend 67 = .ok (.if_icmp .ne 61, 3) := by decide +kernel
theorem d_O_extend_70 : decode b_O_extend 70 = .ok (.aload 4, 2) := by decide +kernel
theorem d_O_extend_72 : decode b_O_extend 72 = .ok (.aload_n 0, 1) := by decide +kernel
theorem d_O_extend_73 : decode b_O_extend 73 = .ok (.getfield 11, 3) := by decide +kernel
theorem d_O_extend_76 : decode b_O_extend 76 = .ok (.iload_n 3, 1) := by decide +kernel
theorem d_O_extend_77 : decode b_O_extend 77 = .ok (.aaload, 1) := by decide +kernel
theorem d_O_extend_78 : decode b_O_extend 78 = .ok (.invokevirtual 25, 3) := by decide +kernel
theorem d_O_extend_81 : decode b_O_extend 81 = .ok (.aload 4, 2) := by decide +kernel
theorem d_O_extend_83 : decode b_O_extend 83 = .ok (.iload 5, 2) := by decide +kernel
theorem d_O_extend_85 : decode b_O_extend 85 = .ok (.invokevirtual 44, 3) := by decide +kernel
theorem d_O_extend_88 : decode b_O_extend 88 = .ok (.aload_n 0, 1) := by decide +kernel
theorem d_O_extend_89 : decode b_O_extend 89 = .ok (.getfield 17, 3) := by decide +kernel
theorem d_O_extend_92 : decode b_O_extend 92 = .ok (.iload_n 3, 1) := by decide +kernel
theorem d_O_extend_93 : decode b_O_extend 93 = .ok (.iload 5, 2) := by decide +kernel
theorem d_O_extend_95 : decode b_O_extend 95 = .ok (.iastore, 1) := by decide +kernel
theorem d_O_extend_96 : decode b_O_extend 96 = .ok (.aload 4, 2) := by decide +kernel
theorem d_O_extend_98 : decode b_O_extend 98 = .ok (.invokevirtual 48, 3) := by decide +kernel
theorem d_O_extend_101 : decode b_O_extend 101 = .ok (.istore 6, 2) := by decide +kernel
theorem d_O_extend_103 : decode b_O_extend 103 = .ok (.aload 4, 2) := by decide +kernel
theorem d_O_extend_105 : decode b_O_extend 105 = .ok (.invokevirtual 52, 3) := by decide +kernel
theorem d_O_extend_108 : decode b_O_extend 108 = .ok (.pop, 1) := by decide +kernel
theorem d_O_extend_109 : decode b_O_extend 109 = .ok (.aload_n 0, 1) := by decide +kernel
theorem d_O_extend_110 : decode b_O_extend 110 = .ok (.iload_n 1, 1) := by decide +kernel
theorem d_O_extend_111 : decode b_O_extend 111 = .ok (.iconst 1, 1) := by decide +kernel
theorem d_O_extend_112 : decode b_O_extend 112 = .ok (.iload 5, 2) := by decide +kernel
theorem d_O_extend_114 : decode b_O_extend 114 = .ok (.ishl, 1) := by decide +kernel
theorem d_O_extend_115 : decode b_O_extend 115 = .ok (.iconst (-1), 1) := by decide +kernel
theorem d_O_extend_116 : decode b_O_extend 116 = .ok (.ixor, 1) := by decide +kernel
theorem d_O_extend_117 : decode b_O_extend 117 = .ok (.iand, 1) := by decide +kernel
theorem d_O_extend_118 : decode b_O_extend 118 = .ok (.iload_n 2, 1) := by decide +kernel
theorem d_O_extend_119 : decode b_O_extend 119 = .ok (.iload 6, 2) := by decide +kernel
theorem d_O_extend_121 : decode b_O_extend 121 = .ok (.iadd, 1) := by decide +kernel
theorem d_O_extend_122 : decode b_O_extend 122 = .ok (.iload_n 3, 1) := by decide +kernel
theorem d_O_extend_123 : decode b_O_extend 123 = .ok (.iconst 1, 1) := by decide +kernel
theorem d_O_extend_124 : decode b_O_extend 124 = .ok (.iadd, 1) := by decide +kernel
theorem d_O_extend_125 : decode b_O_extend 125 = .ok (.invokestatic 34, 3) := by decide +kernel
theorem d_O_extend_128 : decode b_O_extend 128 = .ok (.iinc 5 1, 3) := by decide +kernel
theorem d_O_extend_131 : decode b_O_extend 131 = .ok (.goto (-78), 3) := by decide +kernel
theorem d_O_extend_134 : decode b_O_extend 134 = .ok (.return_, 1) := by decide +kernel
theorem d_O_init_0 : decode b_O_init 0 = .ok (.aload_n 0, 1) := by decide +kernel
theorem d_O_init_1 : decode b_O_init 1 = .ok (.invokespecial 3, 3) := by decide +kernel
theorem d_O_init_4 : decode b_O_init 4 = .ok (.aload_n 0, 1) := by decide +kernel
theorem d_O_init_5 : decode b_O_init 5 = .ok (.bipush 7, 2) := by decide +kernel
theorem d_O_init_7 : decode b_O_init 7 = .ok (.anewarray 9, 3) := by decide +kernel
theorem d_O_init_10 : decode b_O_init 10 = .ok (.putfield 11, 3) := by decide +kernel
theorem d_O_init_13 : decode b_O_init 13 = .ok (.aload_n 0, 1) := by decide +kernel
theorem d_O_init_14 : decode b_O_init 14 = .ok (.bipush 6, 2) := by decide +kernel
theorem d_O_init_16 : decode b_O_init 16 = .ok (.newarray .int, 2) := by decide +kernel
theorem d_O_init_18 : decode b_O_init 18 = .ok (.putfield 17, 3) := by decide +kernel
theorem d_O_init_21 : decode b_O_init 21 = .ok (.aload_n 0, 1) := by decide +kernel
theorem d_O_init_22 : decode b_O_init 22 = .ok (.bipush 6, 2) := by decide +kernel
theorem d_O_init_24 : decode b_O_init 24 = .ok (.newarray .int, 2) := by decide +kernel
theorem d_O_init_26 : decode b_O_init 26 = .ok (.putfield 21, 3) := by decide +kernel
theorem d_O_init_29 : decode b_O_init 29 = .ok (.iconst 0, 1) := by decide +kernel
theorem d_O_init_30 : decode b_O_init 30 = .ok (.istore_n 1, 1) := by decide +kernel
theorem d_O_init_31 : decode b_O_init 31 = .ok (.iload_n 1, 1) := by decide +kernel
theorem d_O_init_32 : decode b_O_init 32 = .ok (.aload_n 0, 1) := by decide +kernel
theorem d_O_init_33 : decode b_O_init 33 = .ok (.getfield 11, 3) := by decide +kernel
theorem d_O_init_36 : decode b_O_init 36 = .ok (.arraylength, 1) := by decide +kernel
theorem d_O_init_37 : decode b_O_init 37 = .ok (.if_icmp .ge 22, 3) := by decide +kernel
theorem d_O_init_40 : decode b_O_init 40 = .ok (.aload_n 0, 1) := by decide +kernel
theorem d_O_init_41 : decode b_O_init 41 = .ok (.getfield 11, 3) := by decide +kernel
theorem d_O_init_44 : decode b_O_init 44 = .ok (.iload_n 1, 1) := by decide +kernel
theorem d_O_init_45 : decode b_O_init 45 = .ok (.new 9, 3) := by decide +kernel
theorem d_O_init_48 : decode b_O_init 48 = .ok (.dup, 1) := by decide +kernel
theorem d_O_init_49 : decode b_O_init 49 = .ok (.invokespecial 24, 3) := by decide +kernel
theorem d_O_init_52 : decode b_O_init 52 = .ok (.aastore, 1) := by decide +kernel
theorem d_O_init_53 : decode b_O_init 53 = .ok (.iinc 1 1, 3) := by decide +kernel
theorem d_O_init_56 : decode b_O_init 56 = .ok (.goto (-25), 3) := by decide +kernel
theorem d_O_init_59 : decode b_O_init 59 = .ok (.return_, 1) := by decide +kernel
theorem d_O_search_0 : decode b_O_search 0 = .ok (.aload_n 0, 1) := by decide +kernel
theorem d_O_search_1 : decode b_O_search 1 = .ok (.getfield 11, 3) := by decide +kernel
theorem d_O_search_4 : decode b_O_search 4 = .ok (.iconst 0, 1) := by decide +kernel
theorem d_O_search_5 : decode b_O_search 5 = .ok (.aaload, 1) := by decide +kernel
theorem d_O_search_6 : decode b_O_search 6 = .ok (.aload_n 1, 1) := by decide +kernel
theorem d_O_search_7 : decode b_O_search 7 = .ok (.invokevirtual 25, 3) := by decide +kernel
theorem d_O_search_10 : decode b_O_search 10 = .ok (.aload_n 0, 1) := by decide +kernel
theorem d_O_search_11 : decode b_O_search 11 = .ok (.ldc 29, 2) := by decide +kernel
theorem d_O_search_13 : decode b_O_search 13 = .ok (.putfield 30, 3) := by decide +kernel
theorem d_O_search_16 : decode b_O_search 16 = .ok (.aload_n 0, 1) := by decide +kernel
theorem d_O_search_17 : decode b_O_search 17 = .ok (.iload_n 2, 1) := by decide +kernel
theorem d_O_search_18 : decode b_O_search 18 = .ok (.iconst 0, 1) := by decide +kernel
theorem d_O_search_19 : decode b_O_search 19 = .ok (.iconst 0, 1) := by decide +kernel
theorem d_O_search_20 : decode b_O_search 20 = .ok (.invokestatic 34, 3) := by decide +kernel
theorem d_O_search_23 : decode b_O_search 23 = .ok (.return_, 1) := by decide +kernel
theorem d_P_add_0 : decode b_P_add 0 = .ok (.aload_n 0, 1) := by decide +kernel
theorem d_P_add_1 : decode b_P_add 1 = .ok (.getfield 15, 3) := by decide +kernel
theorem d_P_add_4 : decode b_P_add 4 = .ok (.aload_n 0, 1) := by decide +kernel
theorem d_P_add_5 : decode b_P_add 5 = .ok (.getfield 9, 3) := by decide +kernel
theorem d_P_add_8 : decode b_P_add 8 = .ok (.arraylength, 1) := by decide +kernel
theorem d_P_add_9 : decode b_P_add 9 = .ok (.if_icmp .lt 5, 3) := by decide +kernel
theorem d_P_add_12 : decode b_P_add 12 = .ok (.iconst 0, 1) := by decide +kernel
theorem d_P_add_13 : decode b_P_add 13 = .ok (.ireturn, 1) := by decide +kernel
theorem d_P_add_14 : decode b_P_add 14 = .ok (.aload_n 0, 1) := by decide +kernel
theorem d_P_add_15 : decode b_P_add 15 = .ok (.getfield 9, 3) := by decide +kernel
theorem d_P_add_18 : decode b_P_add 18 = .ok (.aload_n 0, 1) := by decide +kernel
theorem d_P_add_19 : decode b_P_add 19 = .ok (.getfield 15, 3) := by decide +kernel
theorem d_P_add_22 : decode b_P_add 22 = .ok (.iload_n 1, 1) := by decide +kernel
theorem d_P_add_23 : decode b_P_add 23 = .ok (.iastore, 1) := by decide +kernel
theorem d_P_add_24 : decode b_P_add 24 = .ok (.aload_n 0, 1) := by decide +kernel
theorem d_P_add_25 : decode b_P_add 25 = .ok (.dup, 1) := by decide +kernel
theorem d_P_add_26 : decode b_P_add 26 = .ok (.getfield 15, 3) := by decide +kernel
theorem d_P_add_29 : decode b_P_add 29 = .ok (.iconst 1, 1) := by decide +kernel
theorem d_P_add_30 : decode b_P_add 30 = .ok (.iadd, 1) := by decide +kernel
theorem d_P_add_31 : decode b_P_add 31 = .ok (.putfield 15, 3) := by decide +kernel
theorem d_P_add_34 : decode b_P_add 34 = .ok (.iconst 1, 1) := by decide +kernel
theorem d_P_add_35 : decode b_P_add 35 = .ok (.ireturn, 1) := by decide +kernel
theorem d_P_byteAt_0 : decode b_P_byteAt 0 = .ok (.iload_n 1, 1) := by decide +kernel
theorem d_P_byteAt_1 : decode b_P_byteAt 1 = .ok (.ifCond .lt 29, 3) := by decide +kernel
theorem d_P_byteAt_4 : decode b_P_byteAt 4 = .ok (.iload_n 1, 1) := by decide +kernel
theorem d_P_byteAt_5 : decode b_P_byteAt 5 = .ok (.aload_n 0, 1) := by decide +kernel
theorem d_P_byteAt_6 : decode b_P_byteAt 6 = .ok (.getfield 15, 3) := by decide +kernel
theorem d_P_byteAt_9 : decode b_P_byteAt 9 = .ok (.if_icmp .ge 21, 3) := by decide +kernel
theorem d_P_byteAt_12 : decode b_P_byteAt 12 = .ok (.iload_n 1, 1) := by decide +kernel
theorem d_P_byteAt_13 : decode b_P_byteAt 13 = .ok (.aload_n 0, 1) := by decide +kernel
theorem d_P_byteAt_14 : decode b_P_byteAt 14 = .ok (.getfield 9, 3) := by decide +kernel
theorem d_P_byteAt_17 : decode b_P_byteAt 17 = .ok (.arraylength, 1) := by decide +kernel
theorem d_P_byteAt_18 : decode b_P_byteAt 18 = .ok (.if_icmp .ge 12, 3) := by decide +kernel
theorem d_P_byteAt_21 : decode b_P_byteAt 21 = .ok (.aload_n 0, 1) := by decide +kernel
theorem d_P_byteAt_22 : decode b_P_byteAt 22 = .ok (.getfield 9, 3) := by decide +kernel
theorem d_P_byteAt_25 : decode b_P_byteAt 25 = .ok (.iload_n 1, 1) := by decide +kernel
theorem d_P_byteAt_26 : decode b_P_byteAt 26 = .ok (.iaload, 1) := by decide +kernel
theorem d_P_byteAt_27 : decode b_P_byteAt 27 = .ok (.goto 4, 3) := by decide +kernel
theorem d_P_byteAt_30 : decode b_P_byteAt 30 = .ok (.iconst (-1), 1) := by decide +kernel
theorem d_P_byteAt_31 : decode b_P_byteAt 31 = .ok (.ireturn, 1) := by decide +kernel
theorem d_P_fail_0 : decode b_P_fail 0 = .ok (.aload_n 0, 1) := by decide +kernel
theorem d_P_fail_1 : decode b_P_fail 1 = .ok (.iload_n 1, 1) := by decide +kernel
theorem d_P_fail_2 : decode b_P_fail 2 = .ok (.putfield 104, 3) := by decide +kernel
theorem d_P_fail_5 : decode b_P_fail 5 = .ok (.iconst 0, 1) := by decide +kernel
theorem d_P_fail_6 : decode b_P_fail 6 = .ok (.ireturn, 1) := by decide +kernel
theorem d_P_init_0 : decode b_P_init 0 = .ok (.aload_n 0, 1) := by decide +kernel
theorem d_P_init_1 : decode b_P_init 1 = .ok (.invokespecial 3, 3) := by decide +kernel
theorem d_P_init_4 : decode b_P_init 4 = .ok (.aload_n 0, 1) := by decide +kernel
theorem d_P_init_5 : decode b_P_init 5 = .ok (.bipush 100, 2) := by decide +kernel
theorem d_P_init_7 : decode b_P_init 7 = .ok (.newarray .int, 2) := by decide +kernel
theorem d_P_init_9 : decode b_P_init 9 = .ok (.putfield 9, 3) := by decide +kernel
theorem d_P_init_12 : decode b_P_init 12 = .ok (.return_, 1) := by decide +kernel
theorem d_P_isFigure_0 : decode b_P_isFigure 0 = .ok (.iload_n 0, 1) := by decide +kernel
theorem d_P_isFigure_1 : decode b_P_isFigure 1 = .ok (.bipush 48, 2) := by decide +kernel
theorem d_P_isFigure_3 : decode b_P_isFigure 3 = .ok (.if_icmp .lt 13, 3) := by decide +kernel
theorem d_P_isFigure_6 : decode b_P_isFigure 6 = .ok (.iload_n 0, 1) := by decide +kernel
theorem d_P_isFigure_7 : decode b_P_isFigure 7 = .ok (.bipush 57, 2) := by decide +kernel
theorem d_P_isFigure_9 : decode b_P_isFigure 9 = .ok (.if_icmp .gt 7, 3) := by decide +kernel
theorem d_P_isFigure_12 : decode b_P_isFigure 12 = .ok (.iconst 1, 1) := by decide +kernel
theorem d_P_isFigure_13 : decode b_P_isFigure 13 = .ok (.goto 4, 3) := by decide +kernel
theorem d_P_isFigure_16 : decode b_P_isFigure 16 = .ok (.iconst 0, 1) := by decide +kernel
theorem d_P_isFigure_17 : decode b_P_isFigure 17 = .ok (.ireturn, 1) := by decide +kernel
theorem d_P_kindToldBy_0 : decode b_P_kindToldBy 0 = .ok (.iload_n 0, 1) := by decide +kernel
theorem d_P_kindToldBy_1 : decode b_P_kindToldBy 1 = .ok (.lookupswitch 61 #[(98, 51), (100, 53), (101, 59), (110, 57), (115, 55)], 51) := by decide +kernel
theorem d_P_kindToldBy_52 : decode b_P_kindToldBy 52 = .ok (.iconst 1, 1) := by decide +kernel
theorem d_P_kindToldBy_53 : decode b_P_kindToldBy 53 = .ok (.ireturn, 1) := by decide +kernel
theorem d_P_kindToldBy_54 : decode b_P_kindToldBy 54 = .ok (.iconst 2, 1) := by decide +kernel
theorem d_P_kindToldBy_55 : decode b_P_kindToldBy 55 = .ok (.ireturn, 1) := by decide +kernel
theorem d_P_kindToldBy_56 : decode b_P_kindToldBy 56 = .ok (.iconst 3, 1) := by decide +kernel
theorem d_P_kindToldBy_57 : decode b_P_kindToldBy 57 = .ok (.ireturn, 1) := by decide +kernel
theorem d_P_kindToldBy_58 : decode b_P_kindToldBy 58 = .ok (.iconst 4, 1) := by decide +kernel
theorem d_P_kindToldBy_59 : decode b_P_kindToldBy 59 = .ok (.ireturn, 1) := by decide +kernel
theorem d_P_kindToldBy_60 : decode b_P_kindToldBy 60 = .ok (.iconst 5, 1) := by decide +kernel
theorem d_P_kindToldBy_61 : decode b_P_kindToldBy 61 = .ok (.ireturn, 1) := by decide +kernel
theorem d_P_kindToldBy_62 : decode b_P_kindToldBy 62 = .ok (.iconst 0, 1) := by decide +kernel
theorem d_P_kindToldBy_63 : decode b_P_kindToldBy 63 = .ok (.ireturn, 1) := by decide +kernel
theorem d_P_readFigures_0 : decode b_P_readFigures 0 = .ok (.aload_n 0, 1) := by decide +kernel
theorem d_P_readFigures_1 : decode b_P_readFigures 1 = .ok (.iconst 0, 1) := by decide +kernel
theorem d_P_readFigures_2 : decode b_P_readFigures 2 = .ok (.bipush 9, 2) := by decide +kernel
theorem d_P_readFigures_4 : decode b_P_readFigures 4 = .ok (.invokevirtual 42, 3) := by decide +kernel
theorem d_P_readFigures_7 : decode b_P_readFigures 7 = .ok (.ifCond .ne 5, 3) := by decide +kernel
theorem d_P_readFigures_10 : decode b_P_readFigures 10 = .ok (.iconst 0, 1) := by decide +kernel
theorem d_P_readFigures_11 : decode b_P_readFigures 11 = .ok (.ireturn, 1) := by decide +kernel
theorem d_P_readFigures_12 : decode b_P_readFigures 12 = .ok (.aload_n 1, 1) := by decide +kernel
theorem d_P_readFigures_13 : decode b_P_readFigures 13 = .ok (.aload_n 0, 1) := by decide +kernel
theorem d_P_readFigures_14 : decode b_P_readFigures 14 = .ok (.getfield 46, 3) := by decide +kernel
theorem d_P_readFigures_17 : decode b_P_readFigures 17 = .ok (.putfield 88, 3) := by decide +kernel
theorem d_P_readFigures_20 : decode b_P_readFigures 20 = .ok (.aload_n 0, 1) := by decide +kernel
theorem d_P_readFigures_21 : decode b_P_readFigures 21 = .ok (.bipush 44, 2) := by decide +kernel
theorem d_P_readFigures_23 : decode b_P_readFigures 23 = .ok (.invokevirtual 38, 3) := by decide +kernel
theorem d_P_readFigures_26 : decode b_P_readFigures 26 = .ok (.ifCond .eq 13, 3) := by decide +kernel
theorem d_P_readFigures_29 : decode b_P_readFigures 29 = .ok (.aload_n 0, 1) := by decide +kernel
theorem d_P_readFigures_30 : decode b_P_readFigures 30 = .ok (.iconst 1, 1) := by decide +kernel
theorem d_P_readFigures_31 : decode b_P_readFigures 31 = .ok (.bipush 9, 2) := by decide +kernel
theorem d_P_readFigures_33 : decode b_P_readFigures 33 = .ok (.invokevirtual 42, 3) := by decide +kernel
theorem d_P_readFigures_36 : decode b_P_readFigures 36 = .ok (.ifCond .ne 5, 3) := by decide +kernel
theorem d_P_readFigures_39 : decode b_P_readFigures 39 = .ok (.iconst 0, 1) := by decide +kernel
theorem d_P_readFigures_40 : decode b_P_readFigures 40 = .ok (.ireturn, 1) := by decide +kernel
theorem d_P_readFigures_41 : decode b_P_readFigures 41 = .ok (.aload_n 1, 1) := by decide +kernel
theorem d_P_readFigures_42 : decode b_P_readFigures 42 = .ok (.aload_n 0, 1) := by decide +kernel
theorem d_P_readFigures_43 : decode b_P_readFigures 43 = .ok (.getfield 46, 3) := by decide +kernel
theorem d_P_readFigures_46 : decode b_P_readFigures 46 = .ok (.putfield 91, 3) := by decide +kernel
theorem d_P_readFigures_49 : decode b_P_readFigures 49 = .ok (.aload_n 0, 1) := by decide +kernel
theorem d_P_readFigures_50 : decode b_P_readFigures 50 = .ok (.bipush 44, 2) := by decide +kernel
theorem d_P_readFigures_52 : decode b_P_readFigures 52 = .ok (.invokevirtual 38, 3) := by decide +kernel
theorem d_P_readFigures_55 : decode b_P_readFigures 55 = .ok (.ifCond .eq 13, 3) := by decide +kernel
theorem d_P_readFigures_58 : decode b_P_readFigures 58 = .ok (.aload_n 0, 1) := by decide +kernel
theorem d_P_readFigures_59 : decode b_P_readFigures 59 = .ok (.iconst 0, 1) := by decide +kernel
theorem d_P_readFigures_60 : decode b_P_readFigures 60 = .ok (.bipush 9, 2) := by decide +kernel
theorem d_P_readFigures_62 : decode b_P_readFigures 62 = .ok (.invokevirtual 42, 3) := by decide +kernel
theorem d_P_readFigures_65 : decode b_P_readFigures 65 = .ok (.ifCond .ne 5, 3) := by decide +kernel
theorem d_P_readFigures_68 : decode b_P_readFigures 68 = .ok (.iconst 0, 1) := by decide +kernel
theorem d_P_readFigures_69 : decode b_P_readFigures 69 = .ok (.ireturn, 1) := by decide +kernel
theorem d_P_readFigures_70 : decode b_P_readFigures 70 = .ok (.aload_n 1, 1) := by decide +kernel
theorem d_P_readFigures_71 : decode b_P_readFigures 71 = .ok (.aload_n 0, 1) := by decide +kernel
theorem d_P_readFigures_72 : decode b_P_readFigures 72 = .ok (.getfield 46, 3) := by decide +kernel
theorem d_P_readFigures_75 : decode b_P_readFigures 75 = .ok (.putfield 94, 3) := by decide +kernel
theorem d_P_readFigures_78 : decode b_P_readFigures 78 = .ok (.aload_n 0, 1) := by decide +kernel
theorem d_P_readFigures_79 : decode b_P_readFigures 79 = .ok (.bipush 59, 2) := by decide +kernel
theorem d_P_readFigures_81 : decode b_P_readFigures 81 = .ok (.invokevirtual 38, 3) := by decide +kernel
theorem d_P_readFigures_84 : decode b_P_readFigures 84 = .ok (.ireturn, 1) := by decide +kernel
theorem d_P_readInto_0 : decode b_P_readInto 0 = .ok (.aload_n 0, 1) := by decide +kernel
theorem d_P_readInto_1 : decode b_P_readInto 1 = .ok (.iconst 0, 1) := by decide +kernel
theorem d_P_readInto_2 : decode b_P_readInto 2 = .ok (.putfield 19, 3) := by decide +kernel
theorem d_P_readInto_5 : decode b_P_readInto 5 = .ok (.aload_n 1, 1) := by decide +kernel
theorem d_P_readInto_6 : decode b_P_readInto 6 = .ok (.invokevirtual 22, 3) := by decide +kernel
theorem d_P_readInto_9 : decode b_P_readInto 9 = .ok (.aload_n 1, 1) := by decide +kernel
theorem d_P_readInto_10 : decode b_P_readInto 10 = .ok (.aload_n 0, 1) := by decide +kernel
theorem d_P_readInto_11 : decode b_P_readInto 11 = .ok (.aload_n 1, 1) := by decide +kernel
theorem d_P_readInto_12 : decode b_P_readInto 12 = .ok (.invokevirtual 27, 3) := by decide +kernel
theorem d_P_readInto_15 : decode b_P_readInto 15 = .ok (.ifCond .eq 15, 3) := by decide +kernel
theorem d_P_readInto_18 : decode b_P_readInto 18 = .ok (.aload_n 0, 1) := by decide +kernel
theorem d_P_readInto_19 : decode b_P_readInto 19 = .ok (.aload_n 1, 1) := by decide +kernel
theorem d_P_readInto_20 : decode b_P_readInto 20 = .ok (.invokevirtual 31, 3) := by decide +kernel
theorem d_P_readInto_23 : decode b_P_readInto 23 = .ok (.ifCond .eq 7, 3) := by decide +kernel
theorem d_P_readInto_26 : decode b_P_readInto 26 = .ok (.iconst 1, 1) := by decide +kernel
theorem d_P_readInto_27 : decode b_P_readInto 27 = .ok (.goto 4, 3) := by decide +kernel
theorem d_P_readInto_30 : decode b_P_readInto 30 = .ok (.iconst 0, 1) := by decide +kernel
theorem d_P_readInto_31 : decode b_P_readInto 31 = .ok (.putfield 34, 3) := by decide +kernel
theorem d_P_readInto_34 : decode b_P_readInto 34 = .ok (.aload_n 1, 1) := by decide +kernel
theorem d_P_readInto_35 : decode b_P_readInto 35 = .ok (.getfield 34, 3) := by decide +kernel
theorem d_P_readInto_38 : decode b_P_readInto 38 = .ok (.ireturn, 1) := by decide +kernel
theorem d_P_readLaw_0 : decode b_P_readLaw 0 = .ok (.aload_n 0, 1) := by decide +kernel
theorem d_P_readLaw_1 : decode b_P_readLaw 1 = .ok (.bipush 99, 2) := by decide +kernel
theorem d_P_readLaw_3 : decode b_P_readLaw 3 = .ok (.invokevirtual 38, 3) := by decide +kernel
theorem d_P_readLaw_6 : decode b_P_readLaw 6 = .ok (.ifCond .eq 13, 3) := by decide +kernel
theorem d_P_readLaw_9 : decode b_P_readLaw 9 = .ok (.aload_n 0, 1) := by decide +kernel
theorem d_P_readLaw_10 : decode b_P_readLaw 10 = .ok (.iconst 1, 1) := by decide +kernel
theorem d_P_readLaw_11 : decode b_P_readLaw 11 = .ok (.bipush 30, 2) := by decide +kernel
theorem d_P_readLaw_13 : decode b_P_readLaw 13 = .ok (.invokevirtual 42, 3) := by decide +kernel
theorem d_P_readLaw_16 : decode b_P_readLaw 16 = .ok (.ifCond .ne 5, 3) := by decide +kernel
theorem d_P_readLaw_19 : decode b_P_readLaw 19 = .ok (.iconst 0, 1) := by decide +kernel
theorem d_P_readLaw_20 : decode b_P_readLaw 20 = .ok (.ireturn, 1) := by decide +kernel
theorem d_P_readLaw_21 : decode b_P_readLaw 21 = .ok (.aload_n 1, 1) := by decide +kernel
theorem d_P_readLaw_22 : decode b_P_readLaw 22 = .ok (.aload_n 0, 1) := by decide +kernel
theorem d_P_readLaw_23 : decode b_P_readLaw 23 = .ok (.getfield 46, 3) := by decide +kernel
theorem d_P_readLaw_26 : decode b_P_readLaw 26 = .ok (.putfield 49, 3) := by decide +kernel
theorem d_P_readLaw_29 : decode b_P_readLaw 29 = .ok (.aload_n 0, 1) := by decide +kernel
theorem d_P_readLaw_30 : decode b_P_readLaw 30 = .ok (.bipush 59, 2) := by decide +kernel
theorem d_P_readLaw_32 : decode b_P_readLaw 32 = .ok (.invokevirtual 38, 3) := by decide +kernel
theorem d_P_readLaw_35 : decode b_P_readLaw 35 = .ok (.ireturn, 1) := by decide +kernel
theorem d_P_readLetter_0 : decode b_P_readLetter 0 = .ok (.aload_n 0, 1) := by decide +kernel
theorem d_P_readLetter_1 : decode b_P_readLetter 1 = .ok (.aload_n 0, 1) := by decide +kernel
theorem d_P_readLetter_2 : decode b_P_readLetter 2 = .ok (.getfield 19, 3) := by decide +kernel
theorem d_P_readLetter_5 : decode b_P_readLetter 5 = .ok (.invokevirtual 55, 3) := by decide +kernel
theorem d_P_readLetter_8 : decode b_P_readLetter 8 = .ok (.invokestatic 59, 3) := by decide +kernel
theorem d_P_readLetter_11 : decode b_P_readLetter 11 = .ok (.istore_n 2, 1) := by decide +kernel
theorem d_P_readLetter_12 : decode b_P_readLetter 12 = .ok (.iload_n 2, 1) := by decide +kernel
theorem d_P_readLetter_13 : decode b_P_readLetter 13 = .ok (.ifCond .ne 9, 3) := by decide +kernel
theorem d_P_readLetter_16 : decode b_P_readLetter 16 = .ok (.aload_n 0, 1) := by decide +kernel
theorem d_P_readLetter_17 : decode b_P_readLetter 17 = .ok (.iconst 1, 1) := by decide +kernel
theorem d_P_readLetter_18 : decode b_P_readLetter 18 = .ok (.invokevirtual 62, 3) := by decide +kernel
theorem d_P_readLetter_21 : decode b_P_readLetter 21 = .ok (.ireturn, 1) := by decide +kernel
theorem d_P_readLetter_22 : decode b_P_readLetter 22 = .ok (.aload_n 1, 1) := by decide +kernel
theorem d_P_readLetter_23 : decode b_P_readLetter 23 = .ok (.getfield 66, 3) := by decide +kernel
theorem d_P_readLetter_26 : decode b_P_readLetter 26 = .ok (.bipush 6, 2) := by decide +kernel
theorem d_P_readLetter_28 : decode b_P_readLetter 28 = .ok (.if_icmp .lt 9, 3) := by decide +kernel
theorem d_P_readLetter_31 : decode b_P_readLetter 31 = .ok (.aload_n 0, 1) := by decide +kernel
theorem d_P_readLetter_32 : decode b_P_readLetter 32 = .ok (.iconst 3, 1) := by decide +kernel
theorem d_P_readLetter_33 : decode b_P_readLetter 33 = .ok (.invokevirtual 62, 3) := by decide +kernel
theorem d_P_readLetter_36 : decode b_P_readLetter 36 = .ok (.ireturn, 1) := by decide +kernel
theorem d_P_readLetter_37 : decode b_P_readLetter 37 = .ok (.aload_n 0, 1) := by decide +kernel
theorem d_P_readLetter_38 : decode b_P_readLetter 38 = .ok (.dup, 1) := by decide +kernel
theorem d_P_readLetter_39 : decode b_P_readLetter 39 = .ok (.getfield 19, 3) := by decide +kernel
theorem d_P_readLetter_42 : decode b_P_readLetter 42 = .ok (.iconst 1, 1) := by decide +kernel
theorem d_P_readLetter_43 : decode b_P_readLetter 43 = .ok (.iadd, 1) := by decide +kernel
theorem d_P_readLetter_44 : decode b_P_readLetter 44 = .ok (.putfield 19, 3) := by decide +kernel
theorem d_P_readLetter_47 : decode b_P_readLetter 47 = .ok (.aload_n 1, 1) := by decide +kernel
theorem d_P_readLetter_48 : decode b_P_readLetter 48 = .ok (.getfield 69, 3) := by decide +kernel
theorem d_P_readLetter_51 : decode b_P_readLetter 51 = .ok (.aload_n 1, 1) := by decide +kernel
theorem d_P_readLetter_52 : decode b_P_readLetter 52 = .ok (.getfield 66, 3) := by decide +kernel
theorem d_P_readLetter_55 : decode b_P_readLetter 55 = .ok (.aaload, 1) := by decide +kernel
theorem d_P_readLetter_56 : decode b_P_readLetter 56 = .ok (.astore_n 3, 1) := by decide +kernel
theorem d_P_readLetter_57 : decode b_P_readLetter 57 = .ok (.aload_n 3, 1) := by decide +kernel
theorem d_P_readLetter_58 : decode b_P_readLetter 58 = .ok (.iload_n 2, 1) := by decide +kernel
theorem d_P_readLetter_59 : decode b_P_readLetter 59 = .ok (.putfield 73, 3) := by decide +kernel
theorem d_P_readLetter_62 : decode b_P_readLetter 62 = .ok (.aload_n 3, 1) := by decide +kernel
theorem d_P_readLetter_63 : decode b_P_readLetter 63 = .ok (.iconst 0, 1) := by decide +kernel
theorem d_P_readLetter_64 : decode b_P_readLetter 64 = .ok (.putfield 78, 3) := by decide +kernel
theorem d_P_readLetter_67 : decode b_P_readLetter 67 = .ok (.aload_n 0, 1) := by decide +kernel
theorem d_P_readLetter_68 : decode b_P_readLetter 68 = .ok (.aload_n 3, 1) := by decide +kernel
theorem d_P_readLetter_69 : decode b_P_readLetter 69 = .ok (.invokevirtual 81, 3) := by decide +kernel
theorem d_P_readLetter_72 : decode b_P_readLetter 72 = .ok (.ifCond .ne 5, 3) := by decide +kernel
theorem d_P_readLetter_75 : decode b_P_readLetter 75 = .ok (.iconst 0, 1) := by decide +kernel
theorem d_P_readLetter_76 : decode b_P_readLetter 76 = .ok (.ireturn, 1) := by decide +kernel
theorem d_P_readLetter_77 : decode b_P_readLetter 77 = .ok (.aload_n 1, 1) := by decide +kernel
theorem d_P_readLetter_78 : decode b_P_readLetter 78 = .ok (.dup, 1) := by decide +kernel
theorem d_P_readLetter_79 : decode b_P_readLetter 79 = .ok (.getfield 85, 3) := by decide +kernel
theorem d_P_readLetter_82 : decode b_P_readLetter 82 = .ok (.iconst 1, 1) := by decide +kernel
theorem d_P_readLetter_83 : decode b_P_readLetter 83 = .ok (.aload_n 1, 1) := by decide +kernel
theorem d_P_readLetter_84 : decode b_P_readLetter 84 = .ok (.getfield 66, 3) := by decide +kernel
theorem d_P_readLetter_87 : decode b_P_readLetter 87 = .ok (.ishl, 1) := by decide +kernel
theorem d_P_readLetter_88 : decode b_P_readLetter 88 = .ok (.ior, 1) := by decide +kernel
theorem d_P_readLetter_89 : decode b_P_readLetter 89 = .ok (.putfield 85, 3) := by decide +kernel
theorem d_P_readLetter_92 : decode b_P_readLetter 92 = .ok (.aload_n 1, 1) := by decide +kernel
theorem d_P_readLetter_93 : decode b_P_readLetter 93 = .ok (.dup, 1) := by decide +kernel
theorem d_P_readLetter_94 : decode b_P_readLetter 94 = .ok (.getfield 66, 3) := by decide +kernel
theorem d_P_readLetter_97 : decode b_P_readLetter 97 = .ok (.iconst 1, 1) := by decide +kernel
theorem d_P_readLetter_98 : decode b_P_readLetter 98 = .ok (.iadd, 1) := by decide +kernel
theorem d_P_readLetter_99 : decode b_P_readLetter 99 = .ok (.putfield 66, 3) := by decide +kernel
theorem d_P_readLetter_102 : decode b_P_readLetter 102 = .ok (.iconst 1, 1) := by decide +kernel
theorem d_P_readLetter_103 : decode b_P_readLetter 103 = .ok (.ireturn, 1) := by decide +kernel
theorem d_P_readLetters_0 : decode b_P_readLetters 0 = .ok (.iconst 0, 1) := by decide +kernel
theorem d_P_readLetters_1 : decode b_P_readLetters 1 = .ok (.istore_n 2, 1) := by decide +kernel
theorem d_P_readLetters_2 : decode b_P_readLetters 2 = .ok (.iload_n 2, 1) := by decide +kernel
theorem d_P_readLetters_3 : decode b_P_readLetters 3 = .ok (.bipush 6, 2) := by decide +kernel
theorem d_P_readLetters_5 : decode b_P_readLetters 5 = .ok (.if_icmp .gt 30, 3) := by decide +kernel
theorem d_P_readLetters_8 : decode b_P_readLetters 8 = .ok (.aload_n 0, 1) := by decide +kernel
theorem d_P_readLetters_9 : decode b_P_readLetters 9 = .ok (.getfield 19, 3) := by decide +kernel
theorem d_P_readLetters_12 : decode b_P_readLetters 12 = .ok (.aload_n 0, 1) := by decide +kernel
theorem d_P_readLetters_13 : decode b_P_readLetters 13 = .ok (.getfield 15, 3) := by decide +kernel
theorem d_P_readLetters_16 : decode b_P_readLetters 16 = .ok (.if_icmp .ge 19, 3) := by decide +kernel
theorem d_P_readLetters_19 : decode b_P_readLetters 19 = .ok (.aload_n 0, 1) := by decide +kernel
theorem d_P_readLetters_20 : decode b_P_readLetters 20 = .ok (.aload_n 1, 1) := by decide +kernel
theorem d_P_readLetters_21 : decode b_P_readLetters 21 = .ok (.invokevirtual 52, 3) := by decide +kernel
theorem d_P_readLetters_24 : decode b_P_readLetters 24 = .ok (.ifCond .ne 5, 3) := by decide +kernel
theorem d_P_readLetters_27 : decode b_P_readLetters 27 = .ok (.iconst 0, 1) := by decide +kernel
theorem d_P_readLetters_28 : decode b_P_readLetters 28 = .ok (.ireturn, 1) := by decide +kernel
theorem d_P_readLetters_29 : decode b_P_readLetters 29 = .ok (.iinc 2 1, 3) := by decide +kernel
theorem d_P_readLetters_32 : decode b_P_readLetters 32 = .ok (.goto (-30), 3) := by decide +kernel
theorem d_P_readLetters_35 : decode b_P_readLetters 35 = .ok (.iconst 1, 1) := by decide +kernel
theorem d_P_readLetters_36 : decode b_P_readLetters 36 = .ok (.ireturn, 1) := by decide +kernel
theorem d_P_readNumber_0 : decode b_P_readNumber 0 = .ok (.iconst 0, 1) := by decide +kernel
theorem d_P_readNumber_1 : decode b_P_readNumber 1 = .ok (.istore_n 3, 1) := by decide +kernel
theorem d_P_readNumber_2 : decode b_P_readNumber 2 = .ok (.iconst 0, 1) := by decide +kernel
theorem d_P_readNumber_3 : decode b_P_readNumber 3 = .ok (.istore 4, 2) := by decide +kernel
theorem d_P_readNumber_5 : decode b_P_readNumber 5 = .ok (.iconst 0, 1) := by decide +kernel
theorem d_P_readNumber_6 : decode b_P_readNumber 6 = .ok (.istore 5, 2) := by decide +kernel
theorem d_P_readNumber_8 : decode b_P_readNumber 8 = .ok (.iload 5, 2) := by decide +kernel
theorem d_P_readNumber_10 : decode b_P_readNumber 10 = .ok (.iconst 3, 1) := by decide +kernel
theorem d_P_readNumber_11 : decode b_P_readNumber 11 = .ok (.if_icmp .ge 51, 3) := by decide +kernel
theorem d_P_readNumber_14 : decode b_P_readNumber 14 = .ok (.aload_n 0, 1) := by decide +kernel
theorem d_P_readNumber_15 : decode b_P_readNumber 15 = .ok (.aload_n 0, 1) := by decide +kernel
theorem d_P_readNumber_16 : decode b_P_readNumber 16 = .ok (.getfield 19, 3) := by decide +kernel
theorem d_P_readNumber_19 : decode b_P_readNumber 19 = .ok (.iload 5, 2) := by decide +kernel
theorem d_P_readNumber_21 : decode b_P_readNumber 21 = .ok (.iadd, 1) := by decide +kernel
theorem d_P_readNumber_22 : decode b_P_readNumber 22 = .ok (.invokevirtual 55, 3) := by decide +kernel
theorem d_P_readNumber_25 : decode b_P_readNumber 25 = .ok (.invokestatic 97, 3) := by decide +kernel
theorem d_P_readNumber_28 : decode b_P_readNumber 28 = .ok (.ifCond .eq 34, 3) := by decide +kernel
theorem d_P_readNumber_31 : decode b_P_readNumber 31 = .ok (.iload 4, 2) := by decide +kernel
theorem d_P_readNumber_33 : decode b_P_readNumber 33 = .ok (.bipush 10, 2) := by decide +kernel
theorem d_P_readNumber_35 : decode b_P_readNumber 35 = .ok (.imul, 1) := by decide +kernel
theorem d_P_readNumber_36 : decode b_P_readNumber 36 = .ok (.aload_n 0, 1) := by decide +kernel
theorem d_P_readNumber_37 : decode b_P_readNumber 37 = .ok (.aload_n 0, 1) := by decide +kernel
theorem d_P_readNumber_38 : decode b_P_readNumber 38 = .ok (.getfield 19, 3) := by decide +kernel
theorem d_P_readNumber_41 : decode b_P_readNumber 41 = .ok (.iload 5, 2) := by decide +kernel
theorem d_P_readNumber_43 : decode b_P_readNumber 43 = .ok (.iadd, 1) := by decide +kernel
theorem d_P_readNumber_44 : decode b_P_readNumber 44 = .ok (.invokevirtual 55, 3) := by decide +kernel
theorem d_P_readNumber_47 : decode b_P_readNumber 47 = .ok (.iadd, 1) := by decide +kernel
theorem d_P_readNumber_48 : decode b_P_readNumber 48 = .ok (.bipush 48, 2) := by decide +kernel
theorem d_P_readNumber_50 : decode b_P_readNumber 50 = .ok (.isub, 1) := by decide +kernel
theorem d_P_readNumber_51 : decode b_P_readNumber 51 = .ok (.istore 4, 2) := by decide +kernel
theorem d_P_readNumber_53 : decode b_P_readNumber 53 = .ok (.iinc 3 1, 3) := by decide +kernel
theorem d_P_readNumber_56 : decode b_P_readNumber 56 = .ok (.iinc 5 1, 3) := by decide +kernel
theorem d_P_readNumber_59 : decode b_P_readNumber 59 = .ok (.goto (-51), 3) := by decide +kernel
theorem d_P_readNumber_62 : decode b_P_readNumber 62 = .ok (.iload_n 3, 1) := by decide +kernel
theorem d_P_readNumber_63 : decode b_P_readNumber 63 = .ok (.iconst 1, 1) := by decide +kernel
theorem d_P_readNumber_64 : decode b_P_readNumber 64 = .ok (.if_icmp .lt 8, 3) := by decide +kernel
theorem d_P_readNumber_67 : decode b_P_readNumber 67 = .ok (.iload_n 3, 1) := by decide +kernel
theorem d_P_readNumber_68 : decode b_P_readNumber 68 = .ok (.iconst 2, 1) := by decide +kernel
theorem d_P_readNumber_69 : decode b_P_readNumber 69 = .ok (.if_icmp .le 9, 3) := by decide +kernel
theorem d_P_readNumber_72 : decode b_P_readNumber 72 = .ok (.aload_n 0, 1) := by decide +kernel
theorem d_P_readNumber_73 : decode b_P_readNumber 73 = .ok (.iconst 1, 1) := by decide +kernel
theorem d_P_readNumber_74 : decode b_P_readNumber 74 = .ok (.invokevirtual 62, 3) := by decide +kernel
theorem d_P_readNumber_77 : decode b_P_readNumber 77 = .ok (.ireturn, 1) := by decide +kernel
theorem d_P_readNumber_78 : decode b_P_readNumber 78 = .ok (.iload 4, 2) := by decide +kernel
theorem d_P_readNumber_80 : decode b_P_readNumber 80 = .ok (.iload_n 1, 1) := by decide +kernel
theorem d_P_readNumber_81 : decode b_P_readNumber 81 = .ok (.iload_n 2, 1) := by decide +kernel
theorem d_P_readNumber_82 : decode b_P_readNumber 82 = .ok (.invokestatic 100, 3) := by decide +kernel
theorem d_P_readNumber_85 : decode b_P_readNumber 85 = .ok (.ifCond .ne 9, 3) := by decide +kernel
theorem d_P_readNumber_88 : decode b_P_readNumber 88 = .ok (.aload_n 0, 1) := by decide +kernel
theorem d_P_readNumber_89 : decode b_P_readNumber 89 = .ok (.iconst 2, 1) := by decide +kernel
theorem d_P_readNumber_90 : decode b_P_readNumber 90 = .ok (.invokevirtual 62, 3) := by decide +kernel
theorem d_P_readNumber_93 : decode b_P_readNumber 93 = .ok (.ireturn, 1) := by decide +kernel
theorem d_P_readNumber_94 : decode b_P_readNumber 94 = .ok (.aload_n 0, 1) := by decide +kernel
theorem d_P_readNumber_95 : decode b_P_readNumber 95 = .ok (.dup, 1) := by decide +kernel
theorem d_P_readNumber_96 : decode b_P_readNumber 96 = .ok (.getfield 19, 3) := by decide +kernel
theorem d_P_readNumber_99 : decode b_P_readNumber 99 = .ok (.iload_n 3, 1) := by decide +kernel
theorem d_P_readNumber_100 : decode b_P_readNumber 100 = .ok (.iadd, 1) := by decide +kernel
theorem d_P_readNumber_101 : decode b_P_readNumber 101 = .ok (.putfield 19, 3) := by decide +kernel
theorem d_P_readNumber_104 : decode b_P_readNumber 104 = .ok (.aload_n 0, 1) := by decide +kernel
theorem d_P_readNumber_105 : decode b_P_readNumber 105 = .ok (.iload 4, 2) := by decide +kernel
theorem d_P_readNumber_107 : decode b_P_readNumber 107 = .ok (.putfield 46, 3) := by decide +kernel
theorem d_P_readNumber_110 : decode b_P_readNumber 110 = .ok (.iconst 1, 1) := by decide +kernel
theorem d_P_readNumber_111 : decode b_P_readNumber 111 = .ok (.ireturn, 1) := by decide +kernel
theorem d_P_readSign_0 : decode b_P_readSign 0 = .ok (.aload_n 0, 1) := by decide +kernel
theorem d_P_readSign_1 : decode b_P_readSign 1 = .ok (.aload_n 0, 1) := by decide +kernel
theorem d_P_readSign_2 : decode b_P_readSign 2 = .ok (.getfield 19, 3) := by decide +kernel
theorem d_P_readSign_5 : decode b_P_readSign 5 = .ok (.invokevirtual 55, 3) := by decide +kernel
theorem d_P_readSign_8 : decode b_P_readSign 8 = .ok (.iload_n 1, 1) := by decide +kernel
theorem d_P_readSign_9 : decode b_P_readSign 9 = .ok (.if_icmp .eq 9, 3) := by decide +kernel
theorem d_P_readSign_12 : decode b_P_readSign 12 = .ok (.aload_n 0, 1) := by decide +kernel
theorem d_P_readSign_13 : decode b_P_readSign 13 = .ok (.iconst 1, 1) := by decide +kernel
theorem d_P_readSign_14 : decode b_P_readSign 14 = .ok (.invokevirtual 62, 3) := by decide +kernel
theorem d_P_readSign_17 : decode b_P_readSign 17 = .ok (.ireturn, 1) := by decide +kernel
theorem d_P_readSign_18 : decode b_P_readSign 18 = .ok (.aload_n 0, 1) := by decide +kernel
theorem d_P_readSign_19 : decode b_P_readSign 19 = .ok (.dup, 1) := by decide +kernel
theorem d_P_readSign_20 : decode b_P_readSign 20 = .ok (.getfield 19, 3) := by decide +kernel
theorem d_P_readSign_23 : decode b_P_readSign 23 = .ok (.iconst 1, 1) := by decide +kernel
theorem d_P_readSign_24 : decode b_P_readSign 24 = .ok (.iadd, 1) := by decide +kernel
theorem d_P_readSign_25 : decode b_P_readSign 25 = .ok (.putfield 19, 3) := by decide +kernel
theorem d_P_readSign_28 : decode b_P_readSign 28 = .ok (.iconst 1, 1) := by decide +kernel
theorem d_P_readSign_29 : decode b_P_readSign 29 = .ok (.ireturn, 1) := by decide +kernel
theorem d_R_hasPlaces_0 : decode b_R_hasPlaces 0 = .ok (.iload_n 1, 1) := by decide +kernel
theorem d_R_hasPlaces_1 : decode b_R_hasPlaces 1 = .ok (.ifCond .lt 21, 3) := by decide +kernel
theorem d_R_hasPlaces_4 : decode b_R_hasPlaces 4 = .ok (.iload_n 2, 1) := by decide +kernel
theorem d_R_hasPlaces_5 : decode b_R_hasPlaces 5 = .ok (.ifCond .lt 17, 3) := by decide +kernel
theorem d_R_hasPlaces_8 : decode b_R_hasPlaces 8 = .ok (.iload_n 2, 1) := by decide +kernel
theorem d_R_hasPlaces_9 : decode b_R_hasPlaces 9 = .ok (.aload_n 0, 1) := by decide +kernel
theorem d_R_hasPlaces_10 : decode b_R_hasPlaces 10 = .ok (.getfield 29, 3) := by decide +kernel
theorem d_R_hasPlaces_13 : decode b_R_hasPlaces 13 = .ok (.iload_n 1, 1) := by decide +kernel
theorem d_R_hasPlaces_14 : decode b_R_hasPlaces 14 = .ok (.isub, 1) := by decide +kernel
theorem d_R_hasPlaces_15 : decode b_R_hasPlaces 15 = .ok (.if_icmp .gt 7, 3) := by decide +kernel
theorem d_R_hasPlaces_18 : decode b_R_hasPlaces 18 = .ok (.iconst 1, 1) := by decide +kernel
theorem d_R_hasPlaces_19 : decode b_R_hasPlaces 19 = .ok (.goto 4, 3) := by decide +kernel
theorem d_R_hasPlaces_22 : decode b_R_hasPlaces 22 = .ok (.iconst 0, 1) := by decide +kernel
theorem d_R_hasPlaces_23 : decode b_R_hasPlaces 23 = .ok (.ireturn, 1) := by decide +kernel
theorem d_R_init_0 : decode b_R_init 0 = .ok (.aload_n 0, 1) := by decide +kernel
theorem d_R_init_1 : decode b_R_init 1 = .ok (.invokespecial 3, 3) := by decide +kernel
theorem d_R_init_4 : decode b_R_init 4 = .ok (.aload_n 0, 1) := by decide +kernel
theorem d_R_init_5 : decode b_R_init 5 = .ok (.bipush 40, 2) := by decide +kernel
theorem d_R_init_7 : decode b_R_init 7 = .ok (.newarray .int, 2) := by decide +kernel
theorem d_R_init_9 : decode b_R_init 9 = .ok (.putfield 9, 3) := by decide +kernel
theorem d_R_init_12 : decode b_R_init 12 = .ok (.aload_n 0, 1) := by decide +kernel
theorem d_R_init_13 : decode b_R_init 13 = .ok (.iconst 1, 1) := by decide +kernel
theorem d_R_init_14 : decode b_R_init 14 = .ok (.putfield 15, 3) := by decide +kernel
theorem d_R_init_17 : decode b_R_init 17 = .ok (.return_, 1) := by decide +kernel
theorem d_R_itemAt_0 : decode b_R_itemAt 0 = .ok (.aload_n 0, 1) := by decide +kernel
theorem d_R_itemAt_1 : decode b_R_itemAt 1 = .ok (.iload_n 1, 1) := by decide +kernel
theorem d_R_itemAt_2 : decode b_R_itemAt 2 = .ok (.iconst 1, 1) := by decide +kernel
theorem d_R_itemAt_3 : decode b_R_itemAt 3 = .ok (.invokevirtual 32, 3) := by decide +kernel
theorem d_R_itemAt_6 : decode b_R_itemAt 6 = .ok (.ifCond .eq 12, 3) := by decide +kernel
theorem d_R_itemAt_9 : decode b_R_itemAt 9 = .ok (.aload_n 0, 1) := by decide +kernel
theorem d_R_itemAt_10 : decode b_R_itemAt 10 = .ok (.getfield 9, 3) := by decide +kernel
theorem d_R_itemAt_13 : decode b_R_itemAt 13 = .ok (.iload_n 1, 1) := by decide +kernel
theorem d_R_itemAt_14 : decode b_R_itemAt 14 = .ok (.iaload, 1) := by decide +kernel
theorem d_R_itemAt_15 : decode b_R_itemAt 15 = .ok (.goto 4, 3) := by decide +kernel
theorem d_R_itemAt_18 : decode b_R_itemAt 18 = .ok (.iconst 0, 1) := by decide +kernel
theorem d_R_itemAt_19 : decode b_R_itemAt 19 = .ok (.ireturn, 1) := by decide +kernel
theorem d_R_lay_0 : decode b_R_lay 0 = .ok (.aload_n 0, 1) := by decide +kernel
theorem d_R_lay_1 : decode b_R_lay 1 = .ok (.getfield 9, 3) := by decide +kernel
theorem d_R_lay_4 : decode b_R_lay 4 = .ok (.iconst 0, 1) := by decide +kernel
theorem d_R_lay_5 : decode b_R_lay 5 = .ok (.invokestatic 19, 3) := by decide +kernel
theorem d_R_lay_8 : decode b_R_lay 8 = .ok (.aload_n 0, 1) := by decide +kernel
theorem d_R_lay_9 : decode b_R_lay 9 = .ok (.iconst 0, 1) := by decide +kernel
theorem d_R_lay_10 : decode b_R_lay 10 = .ok (.putfield 15, 3) := by decide +kernel
theorem d_R_lay_13 : decode b_R_lay 13 = .ok (.aload_n 0, 1) := by decide +kernel
theorem d_R_lay_14 : decode b_R_lay 14 = .ok (.iload_n 1, 1) := by decide +kernel
theorem d_R_lay_15 : decode b_R_lay 15 = .ok (.putfield 25, 3) := by decide +kernel
theorem d_R_lay_18 : decode b_R_lay 18 = .ok (.aload_n 0, 1) := by decide +kernel
theorem d_R_lay_19 : decode b_R_lay 19 = .ok (.iload_n 2, 1) := by decide +kernel
theorem d_R_lay_20 : decode b_R_lay 20 = .ok (.putfield 29, 3) := by decide +kernel
theorem d_R_lay_23 : decode b_R_lay 23 = .ok (.return_, 1) := by decide +kernel
theorem d_R_put_0 : decode b_R_put 0 = .ok (.aload_n 0, 1) := by decide +kernel
theorem d_R_put_1 : decode b_R_put 1 = .ok (.getfield 25, 3) := by decide +kernel
theorem d_R_put_4 : decode b_R_put 4 = .ok (.ifCond .ne 8, 3) := by decide +kernel
theorem d_R_put_7 : decode b_R_put 7 = .ok (.iload_n 2, 1) := by decide +kernel
theorem d_R_put_8 : decode b_R_put 8 = .ok (.i2b, 1) := by decide +kernel
theorem d_R_put_9 : decode b_R_put 9 = .ok (.goto 17, 3) := by decide +kernel
theorem d_R_put_12 : decode b_R_put 12 = .ok (.aload_n 0, 1) := by decide +kernel
theorem d_R_put_13 : decode b_R_put 13 = .ok (.getfield 25, 3) := by decide +kernel
theorem d_R_put_16 : decode b_R_put 16 = .ok (.iconst 1, 1) := by decide +kernel
theorem d_R_put_17 : decode b_R_put 17 = .ok (.if_icmp .ne 8, 3) := by decide +kernel
theorem d_R_put_20 : decode b_R_put 20 = .ok (.iload_n 2, 1) := by decide +kernel
theorem d_R_put_21 : decode b_R_put 21 = .ok (.i2s, 1) := by decide +kernel
theorem d_R_put_22 : decode b_R_put 22 = .ok (.goto 4, 3) := by decide +kernel
theorem d_R_put_25 : decode b_R_put 25 = .ok (.iload_n 2, 1) := by decide +kernel
theorem d_R_put_26 : decode b_R_put 26 = .ok (.istore_n 3, 1) := by decide +kernel
theorem d_R_put_27 : decode b_R_put 27 = .ok (.aload_n 0, 1) := by decide +kernel
theorem d_R_put_28 : decode b_R_put 28 = .ok (.iload_n 1, 1) := by decide +kernel
theorem d_R_put_29 : decode b_R_put 29 = .ok (.iconst 1, 1) := by decide +kernel
theorem d_R_put_30 : decode b_R_put 30 = .ok (.invokevirtual 32, 3) := by decide +kernel
theorem d_R_put_33 : decode b_R_put 33 = .ok (.ifCond .eq 10, 3) := by decide +kernel
theorem d_R_put_36 : decode b_R_put 36 = .ok (.aload_n 0, 1) := by decide +kernel
theorem d_R_put_37 : decode b_R_put 37 = .ok (.getfield 9, 3) := by decide +kernel
theorem d_R_put_40 : decode b_R_put 40 = .ok (.iload_n 1, 1) := by decide +kernel
theorem d_R_put_41 : decode b_R_put 41 = .ok (.iload_n 3, 1) := by decide +kernel
theorem d_R_put_42 : decode b_R_put 42 = .ok (.iastore, 1) := by decide +kernel
theorem d_R_put_43 : decode b_R_put 43 = .ok (.iload_n 3, 1) := by decide +kernel
theorem d_R_put_44 : decode b_R_put 44 = .ok (.ireturn, 1) := by decide +kernel
theorem d_T_init_0 : decode b_T_init 0 = .ok (.aload_n 0, 1) := by decide +kernel
theorem d_T_init_1 : decode b_T_init 1 = .ok (.invokespecial 3, 3) := by decide +kernel
theorem d_T_init_4 : decode b_T_init 4 = .ok (.aload_n 0, 1) := by decide +kernel
theorem d_T_init_5 : decode b_T_init 5 = .ok (.bipush 16, 2) := by decide +kernel
theorem d_T_init_7 : decode b_T_init 7 = .ok (.newarray .int, 2) := by decide +kernel
theorem d_T_init_9 : decode b_T_init 9 = .ok (.putfield 9, 3) := by decide +kernel
theorem d_T_init_12 : decode b_T_init 12 = .ok (.return_, 1) := by decide +kernel
theorem d_T_leave_0 : decode b_T_leave 0 = .ok (.aload_n 0, 1) := by decide +kernel
theorem d_T_leave_1 : decode b_T_leave 1 = .ok (.getfield 15, 3) := by decide +kernel
theorem d_T_leave_4 : decode b_T_leave 4 = .ok (.aload_n 0, 1) := by decide +kernel
theorem d_T_leave_5 : decode b_T_leave 5 = .ok (.getfield 9, 3) := by decide +kernel
theorem d_T_leave_8 : decode b_T_leave 8 = .ok (.arraylength, 1) := by decide +kernel
theorem d_T_leave_9 : decode b_T_leave 9 = .ok (.if_icmp .ge 23, 3) := by decide +kernel
theorem d_T_leave_12 : decode b_T_leave 12 = .ok (.aload_n 0, 1) := by decide +kernel
theorem d_T_leave_13 : decode b_T_leave 13 = .ok (.getfield 9, 3) := by decide +kernel
theorem d_T_leave_16 : decode b_T_leave 16 = .ok (.aload_n 0, 1) := by decide +kernel
theorem d_T_leave_17 : decode b_T_leave 17 = .ok (.getfield 15, 3) := by decide +kernel
theorem d_T_leave_20 : decode b_T_leave 20 = .ok (.iload_n 1, 1) := by decide +kernel
theorem d_T_leave_21 : decode b_T_leave 21 = .ok (.iastore, 1) := by decide +kernel
theorem d_T_leave_22 : decode b_T_leave 22 = .ok (.aload_n 0, 1) := by decide +kernel
theorem d_T_leave_23 : decode b_T_leave 23 = .ok (.dup, 1) := by decide +kernel
theorem d_T_leave_24 : decode b_T_leave 24 = .ok (.getfield 15, 3) := by decide +kernel
theorem d_T_leave_27 : decode b_T_leave 27 = .ok (.iconst 1, 1) := by decide +kernel
theorem d_T_leave_28 : decode b_T_leave 28 = .ok (.iadd, 1) := by decide +kernel
theorem d_T_leave_29 : decode b_T_leave 29 = .ok (.putfield 15, 3) := by decide +kernel
theorem d_T_leave_32 : decode b_T_leave 32 = .ok (.return_, 1) := by decide +kernel
theorem d_W_law_0 : decode code 0 = .ok (.new 7, 3) := by decide +kernel
theorem d_W_law_3 : decode code 3 = .ok (.dup, 1) := by decide +kernel
theorem d_W_law_4 : decode code 4 = .ok (.invokespecial 9, 3) := by decide +kernel
theorem d_W_law_7 : decode code 7 = .ok (.astore_n 1, 1) := by decide +kernel
theorem d_W_law_8 : decode code 8 = .ok (.new 10, 3) := by decide +kernel
theorem d_W_law_11 : decode code 11 = .ok (.dup, 1) := by decide +kernel
theorem d_W_law_12 : decode code 12 = .ok (.invokespecial 12, 3) := by decide +kernel
theorem d_W_law_15 : decode code 15 = .ok (.astore_n 2, 1) := by decide +kernel
theorem d_W_law_16 : decode code 16 = .ok (.iconst 0, 1) := by decide +kernel
theorem d_W_law_17 : decode code 17 = .ok (.istore_n 3, 1) := by decide +kernel
theorem d_W_law_18 : decode code 18 = .ok (.iload_n 3, 1) := by decide +kernel
theorem d_W_law_19 : decode code 19 = .ok (.aload_n 0, 1) := by decide +kernel
theorem d_W_law_20 : decode code 20 = .ok (.arraylength, 1) := by decide +kernel
theorem d_W_law_21 : decode code 21 = .ok (.bipush 6, 2) := by decide +kernel
theorem d_W_law_23 : decode code 23 = .ok (.isub, 1) := by decide +kernel
theorem d_W_law_24 : decode code 24 = .ok (.if_icmp .gt 1114, 3) := by decide +kernel
theorem d_W_law_27 : decode code 27 = .ok (.aload_n 0, 1) := by decide +kernel
theorem d_W_law_28 : decode code 28 = .ok (.iload_n 3, 1) := by decide +kernel
theorem d_W_law_29 : decode code 29 = .ok (.iaload, 1) := by decide +kernel
theorem d_W_law_30 : decode code 30 = .ok (.bipush 31, 2) := by decide +kernel
theorem d_W_law_32 : decode code 32 = .ok (.iand, 1) := by decide +kernel
theorem d_W_law_33 : decode code 33 = .ok (.tableswitch 1099 0 31 #[143, 186, 229, 292, 315, 338, 351, 364, 387, 410, 433, 466, 479, 512, 535, 558, 581, 604, 637, 670, 713, 776, 819, 862, 905, 928, 951, 974, 1007, 1040, 1063, 1086], 143) := by decide +kernel
theorem d_W_law_176 : decode code 176 = .ok (.aload_n 1, 1) := by decide +kernel
theorem d_W_law_177 : decode code 177 = .ok (.aload_n 0, 1) := by decide +kernel
theorem d_W_law_178 : decode code 178 = .ok (.iload_n 3, 1) := by decide +kernel
theorem d_W_law_179 : decode code 179 = .ok (.iconst 1, 1) := by decide +kernel
theorem d_W_law_180 : decode code 180 = .ok (.iadd, 1) := by decide +kernel
theorem d_W_law_181 : decode code 181 = .ok (.iaload, 1) := by decide +kernel
theorem d_W_law_182 : decode code 182 = .ok (.aload_n 0, 1) := by decide +kernel
theorem d_W_law_183 : decode code 183 = .ok (.iload_n 3, 1) := by decide +kernel
theorem d_W_law_184 : decode code 184 = .ok (.iconst 2, 1) := by decide +kernel
theorem d_W_law_185 : decode code 185 = .ok (.iadd, 1) := by decide +kernel
theorem d_W_law_186 : decode code 186 = .ok (.iaload, 1) := by decide +kernel
theorem d_W_law_187 : decode code 187 = .ok (.aload_n 0, 1) := by decide +kernel
theorem d_W_law_188 : decode code 188 = .ok (.iload_n 3, 1) := by decide +kernel
theorem d_W_law_189 : decode code 189 = .ok (.iconst 3, 1) := by decide +kernel
theorem d_W_law_190 : decode code 190 = .ok (.iadd, 1) := by decide +kernel
theorem d_W_law_191 : decode code 191 = .ok (.iaload, 1) := by decide +kernel
theorem d_W_law_192 : decode code 192 = .ok (.invokevirtual 13, 3) := by decide +kernel
theorem d_W_law_195 : decode code 195 = .ok (.aload_n 2, 1) := by decide +kernel
theorem d_W_law_196 : decode code 196 = .ok (.aload_n 0, 1) := by decide +kernel
theorem d_W_law_197 : decode code 197 = .ok (.iload_n 3, 1) := by decide +kernel
theorem d_W_law_198 : decode code 198 = .ok (.iconst 1, 1) := by decide +kernel
theorem d_W_law_199 : decode code 199 = .ok (.iadd, 1) := by decide +kernel
theorem d_W_law_200 : decode code 200 = .ok (.iaload, 1) := by decide +kernel
theorem d_W_law_201 : decode code 201 = .ok (.aload_n 0, 1) := by decide +kernel
theorem d_W_law_202 : decode code 202 = .ok (.iload_n 3, 1) := by decide +kernel
theorem d_W_law_203 : decode code 203 = .ok (.iconst 2, 1) := by decide +kernel
theorem d_W_law_204 : decode code 204 = .ok (.iadd, 1) := by decide +kernel
theorem d_W_law_205 : decode code 205 = .ok (.iaload, 1) := by decide +kernel
theorem d_W_law_206 : decode code 206 = .ok (.aload_n 0, 1) := by decide +kernel
theorem d_W_law_207 : decode code 207 = .ok (.iload_n 3, 1) := by decide +kernel
theorem d_W_law_208 : decode code 208 = .ok (.iconst 3, 1) := by decide +kernel
theorem d_W_law_209 : decode code 209 = .ok (.iadd, 1) := by decide +kernel
theorem d_W_law_210 : decode code 210 = .ok (.iaload, 1) := by decide +kernel
theorem d_W_law_211 : decode code 211 = .ok (.invokevirtual 17, 3) := by decide +kernel
theorem d_W_law_214 : decode code 214 = .ok (.if_icmp .eq 918, 3) := by decide +kernel
theorem d_W_law_217 : decode code 217 = .ok (.iconst 0, 1) := by decide +kernel
theorem d_W_law_218 : decode code 218 = .ok (.ireturn, 1) := by decide +kernel
theorem d_W_law_219 : decode code 219 = .ok (.aload_n 1, 1) := by decide +kernel
theorem d_W_law_220 : decode code 220 = .ok (.aload_n 0, 1) := by decide +kernel
theorem d_W_law_221 : decode code 221 = .ok (.iload_n 3, 1) := by decide +kernel
theorem d_W_law_222 : decode code 222 = .ok (.iconst 1, 1) := by decide +kernel
theorem d_W_law_223 : decode code 223 = .ok (.iadd, 1) := by decide +kernel
theorem d_W_law_224 : decode code 224 = .ok (.iaload, 1) := by decide +kernel
theorem d_W_law_225 : decode code 225 = .ok (.aload_n 0, 1) := by decide +kernel
theorem d_W_law_226 : decode code 226 = .ok (.iload_n 3, 1) := by decide +kernel
theorem d_W_law_227 : decode code 227 = .ok (.iconst 2, 1) := by decide +kernel
theorem d_W_law_228 : decode code 228 = .ok (.iadd, 1) := by decide +kernel
theorem d_W_law_229 : decode code 229 = .ok (.iaload, 1) := by decide +kernel
theorem d_W_law_230 : decode code 230 = .ok (.aload_n 0, 1) := by decide +kernel
theorem d_W_law_231 : decode code 231 = .ok (.iload_n 3, 1) := by decide +kernel
theorem d_W_law_232 : decode code 232 = .ok (.iconst 3, 1) := by decide +kernel
theorem d_W_law_233 : decode code 233 = .ok (.iadd, 1) := by decide +kernel
theorem d_W_law_234 : decode code 234 = .ok (.iaload, 1) := by decide +kernel
theorem d_W_law_235 : decode code 235 = .ok (.invokevirtual 18, 3) := by decide +kernel
theorem d_W_law_238 : decode code 238 = .ok (.aload_n 2, 1) := by decide +kernel
theorem d_W_law_239 : decode code 239 = .ok (.aload_n 0, 1) := by decide +kernel
theorem d_W_law_240 : decode code 240 = .ok (.iload_n 3, 1) := by decide +kernel
theorem d_W_law_241 : decode code 241 = .ok (.iconst 1, 1) := by decide +kernel
theorem d_W_law_242 : decode code 242 = .ok (.iadd, 1) := by decide +kernel
theorem d_W_law_243 : decode code 243 = .ok (.iaload, 1) := by decide +kernel
theorem d_W_law_244 : decode code 244 = .ok (.aload_n 0, 1) := by decide +kernel
theorem d_W_law_245 : decode code 245 = .ok (.iload_n 3, 1) := by decide +kernel
theorem d_W_law_246 : decode code 246 = .ok (.iconst 2, 1) := by decide +kernel
theorem d_W_law_247 : decode code 247 = .ok (.iadd, 1) := by decide +kernel
theorem d_W_law_248 : decode code 248 = .ok (.iaload, 1) := by decide +kernel
theorem d_W_law_249 : decode code 249 = .ok (.aload_n 0, 1) := by decide +kernel
theorem d_W_law_250 : decode code 250 = .ok (.iload_n 3, 1) := by decide +kernel
theorem d_W_law_251 : decode code 251 = .ok (.iconst 3, 1) := by decide +kernel
theorem d_W_law_252 : decode code 252 = .ok (.iadd, 1) := by decide +kernel
theorem d_W_law_253 : decode code 253 = .ok (.iaload, 1) := by decide +kernel
theorem d_W_law_254 : decode code 254 = .ok (.invokevirtual 21, 3) := by decide +kernel
theorem d_W_law_257 : decode code 257 = .ok (.if_icmp .eq 875, 3) := by decide +kernel
theorem d_W_law_260 : decode code 260 = .ok (.iconst 0, 1) := by decide +kernel
theorem d_W_law_261 : decode code 261 = .ok (.ireturn, 1) := by decide +kernel
theorem d_W_law_262 : decode code 262 = .ok (.aload_n 1, 1) := by decide +kernel
theorem d_W_law_263 : decode code 263 = .ok (.aload_n 0, 1) := by decide +kernel
theorem d_W_law_264 : decode code 264 = .ok (.iload_n 3, 1) := by decide +kernel
theorem d_W_law_265 : decode code 265 = .ok (.iconst 1, 1) := by decide +kernel
theorem d_W_law_266 : decode code 266 = .ok (.iadd, 1) := by decide +kernel
theorem d_W_law_267 : decode code 267 = .ok (.iaload, 1) := by decide +kernel
theorem d_W_law_268 : decode code 268 = .ok (.aload_n 0, 1) := by decide +kernel
theorem d_W_law_269 : decode code 269 = .ok (.iload_n 3, 1) := by decide +kernel
theorem d_W_law_270 : decode code 270 = .ok (.iconst 2, 1) := by decide +kernel
theorem d_W_law_271 : decode code 271 = .ok (.iadd, 1) := by decide +kernel
theorem d_W_law_272 : decode code 272 = .ok (.iaload, 1) := by decide +kernel
theorem d_W_law_273 : decode code 273 = .ok (.aload_n 0, 1) := by decide +kernel
theorem d_W_law_274 : decode code 274 = .ok (.iload_n 3, 1) := by decide +kernel
theorem d_W_law_275 : decode code 275 = .ok (.iconst 3, 1) := by decide +kernel
theorem d_W_law_276 : decode code 276 = .ok (.iadd, 1) := by decide +kernel
theorem d_W_law_277 : decode code 277 = .ok (.iaload, 1) := by decide +kernel
theorem d_W_law_278 : decode code 278 = .ok (.aload_n 0, 1) := by decide +kernel
theorem d_W_law_279 : decode code 279 = .ok (.iload_n 3, 1) := by decide +kernel
theorem d_W_law_280 : decode code 280 = .ok (.iconst 4, 1) := by decide +kernel
theorem d_W_law_281 : decode code 281 = .ok (.iadd, 1) := by decide +kernel
theorem d_W_law_282 : decode code 282 = .ok (.iaload, 1) := by decide +kernel
theorem d_W_law_283 : decode code 283 = .ok (.aload_n 0, 1) := by decide +kernel
theorem d_W_law_284 : decode code 284 = .ok (.iload_n 3, 1) := by decide +kernel
theorem d_W_law_285 : decode code 285 = .ok (.iconst 5, 1) := by decide +kernel
theorem d_W_law_286 : decode code 286 = .ok (.iadd, 1) := by decide +kernel
theorem d_W_law_287 : decode code 287 = .ok (.iaload, 1) := by decide +kernel
theorem d_W_law_288 : decode code 288 = .ok (.invokevirtual 22, 3) := by decide +kernel
theorem d_W_law_291 : decode code 291 = .ok (.aload_n 2, 1) := by decide +kernel
theorem d_W_law_292 : decode code 292 = .ok (.aload_n 0, 1) := by decide +kernel
theorem d_W_law_293 : decode code 293 = .ok (.iload_n 3, 1) := by decide +kernel
theorem d_W_law_294 : decode code 294 = .ok (.iconst 1, 1) := by decide +kernel
theorem d_W_law_295 : decode code 295 = .ok (.iadd, 1) := by decide +kernel
theorem d_W_law_296 : decode code 296 = .ok (.iaload, 1) := by decide +kernel
theorem d_W_law_297 : decode code 297 = .ok (.aload_n 0, 1) := by decide +kernel
theorem d_W_law_298 : decode code 298 = .ok (.iload_n 3, 1) := by decide +kernel
theorem d_W_law_299 : decode code 299 = .ok (.iconst 2, 1) := by decide +kernel
theorem d_W_law_300 : decode code 300 = .ok (.iadd, 1) := by decide +kernel
theorem d_W_law_301 : decode code 301 = .ok (.iaload, 1) := by decide +kernel
theorem d_W_law_302 : decode code 302 = .ok (.aload_n 0, 1) := by decide +kernel
theorem d_W_law_303 : decode code 303 = .ok (.iload_n 3, 1) := by decide +kernel
theorem d_W_law_304 : decode code 304 = .ok (.iconst 3, 1) := by decide +kernel
theorem d_W_law_305 : decode code 305 = .ok (.iadd, 1) := by decide +kernel
theorem d_W_law_306 : decode code 306 = .ok (.iaload, 1) := by decide +kernel
theorem d_W_law_307 : decode code 307 = .ok (.aload_n 0, 1) := by decide +kernel
theorem d_W_law_308 : decode code 308 = .ok (.iload_n 3, 1) := by decide +kernel
theorem d_W_law_309 : decode code 309 = .ok (.iconst 4, 1) := by decide +kernel
theorem d_W_law_310 : decode code 310 = .ok (.iadd, 1) := by decide +kernel
theorem d_W_law_311 : decode code 311 = .ok (.iaload, 1) := by decide +kernel
theorem d_W_law_312 : decode code 312 = .ok (.aload_n 0, 1) := by decide +kernel
theorem d_W_law_313 : decode code 313 = .ok (.iload_n 3, 1) := by decide +kernel
theorem d_W_law_314 : decode code 314 = .ok (.iconst 5, 1) := by decide +kernel
theorem d_W_law_315 : decode code 315 = .ok (.iadd, 1) := by decide +kernel
theorem d_W_law_316 : decode code 316 = .ok (.iaload, 1) := by decide +kernel
theorem d_W_law_317 : decode code 317 = .ok (.invokevirtual 26, 3) := by decide +kernel
theorem d_W_law_320 : decode code 320 = .ok (.if_icmp .eq 812, 3) := by decide +kernel
theorem d_W_law_323 : decode code 323 = .ok (.iconst 0, 1) := by decide +kernel
theorem d_W_law_324 : decode code 324 = .ok (.ireturn, 1) := by decide +kernel
theorem d_W_law_325 : decode code 325 = .ok (.aload_n 1, 1) := by decide +kernel
theorem d_W_law_326 : decode code 326 = .ok (.aload_n 0, 1) := by decide +kernel
theorem d_W_law_327 : decode code 327 = .ok (.iload_n 3, 1) := by decide +kernel
theorem d_W_law_328 : decode code 328 = .ok (.iconst 1, 1) := by decide +kernel
theorem d_W_law_329 : decode code 329 = .ok (.iadd, 1) := by decide +kernel
theorem d_W_law_330 : decode code 330 = .ok (.iaload, 1) := by decide +kernel
theorem d_W_law_331 : decode code 331 = .ok (.invokevirtual 27, 3) := by decide +kernel
theorem d_W_law_334 : decode code 334 = .ok (.aload_n 2, 1) := by decide +kernel
theorem d_W_law_335 : decode code 335 = .ok (.aload_n 0, 1) := by decide +kernel
theorem d_W_law_336 : decode code 336 = .ok (.iload_n 3, 1) := by decide +kernel
theorem d_W_law_337 : decode code 337 = .ok (.iconst 1, 1) := by decide +kernel
theorem d_W_law_338 : decode code 338 = .ok (.iadd, 1) := by decide +kernel
theorem d_W_law_339 : decode code 339 = .ok (.iaload, 1) := by decide +kernel
theorem d_W_law_340 : decode code 340 = .ok (.invokevirtual 31, 3) := by decide +kernel
theorem d_W_law_343 : decode code 343 = .ok (.if_icmp .eq 789, 3) := by decide +kernel
theorem d_W_law_346 : decode code 346 = .ok (.iconst 0, 1) := by decide +kernel
theorem d_W_law_347 : decode code 347 = .ok (.ireturn, 1) := by decide +kernel
theorem d_W_law_348 : decode code 348 = .ok (.aload_n 1, 1) := by decide +kernel
theorem d_W_law_349 : decode code 349 = .ok (.aload_n 0, 1) := by decide +kernel
theorem d_W_law_350 : decode code 350 = .ok (.iload_n 3, 1) := by decide +kernel
theorem d_W_law_351 : decode code 351 = .ok (.iconst 1, 1) := by decide +kernel
theorem d_W_law_352 : decode code 352 = .ok (.iadd, 1) := by decide +kernel
theorem d_W_law_353 : decode code 353 = .ok (.iaload, 1) := by decide +kernel
theorem d_W_law_354 : decode code 354 = .ok (.invokevirtual 32, 3) := by decide +kernel
theorem d_W_law_357 : decode code 357 = .ok (.aload_n 2, 1) := by decide +kernel
theorem d_W_law_358 : decode code 358 = .ok (.aload_n 0, 1) := by decide +kernel
theorem d_W_law_359 : decode code 359 = .ok (.iload_n 3, 1) := by decide +kernel
theorem d_W_law_360 : decode code 360 = .ok (.iconst 1, 1) := by decide +kernel
theorem d_W_law_361 : decode code 361 = .ok (.iadd, 1) := by decide +kernel
theorem d_W_law_362 : decode code 362 = .ok (.iaload, 1) := by decide +kernel
theorem d_W_law_363 : decode code 363 = .ok (.invokevirtual 35, 3) := by decide +kernel
theorem d_W_law_366 : decode code 366 = .ok (.if_icmp .eq 766, 3) := by decide +kernel
theorem d_W_law_369 : decode code 369 = .ok (.iconst 0, 1) := by decide +kernel
theorem d_W_law_370 : decode code 370 = .ok (.ireturn, 1) := by decide +kernel
theorem d_W_law_371 : decode code 371 = .ok (.aload_n 1, 1) := by decide +kernel
theorem d_W_law_372 : decode code 372 = .ok (.invokevirtual 36, 3) := by decide +kernel
theorem d_W_law_375 : decode code 375 = .ok (.aload_n 2, 1) := by decide +kernel
theorem d_W_law_376 : decode code 376 = .ok (.invokevirtual 40, 3) := by decide +kernel
theorem d_W_law_379 : decode code 379 = .ok (.if_icmp .eq 753, 3) := by decide +kernel
theorem d_W_law_382 : decode code 382 = .ok (.iconst 0, 1) := by decide +kernel
theorem d_W_law_383 : decode code 383 = .ok (.ireturn, 1) := by decide +kernel
theorem d_W_law_384 : decode code 384 = .ok (.aload_n 1, 1) := by decide +kernel
theorem d_W_law_385 : decode code 385 = .ok (.invokevirtual 41, 3) := by decide +kernel
theorem d_W_law_388 : decode code 388 = .ok (.aload_n 2, 1) := by decide +kernel
theorem d_W_law_389 : decode code 389 = .ok (.invokevirtual 44, 3) := by decide +kernel
theorem d_W_law_392 : decode code 392 = .ok (.if_icmp .eq 740, 3) := by decide +kernel
theorem d_W_law_395 : decode code 395 = .ok (.iconst 0, 1) := by decide +kernel
theorem d_W_law_396 : decode code 396 = .ok (.ireturn, 1) := by decide +kernel
theorem d_W_law_397 : decode code 397 = .ok (.aload_n 1, 1) := by decide +kernel
theorem d_W_law_398 : decode code 398 = .ok (.aload_n 0, 1) := by decide +kernel
theorem d_W_law_399 : decode code 399 = .ok (.iload_n 3, 1) := by decide +kernel
theorem d_W_law_400 : decode code 400 = .ok (.iconst 1, 1) := by decide +kernel
theorem d_W_law_401 : decode code 401 = .ok (.iadd, 1) := by decide +kernel
theorem d_W_law_402 : decode code 402 = .ok (.iaload, 1) := by decide +kernel
theorem d_W_law_403 : decode code 403 = .ok (.invokevirtual 45, 3) := by decide +kernel
theorem d_W_law_406 : decode code 406 = .ok (.aload_n 2, 1) := by decide +kernel
theorem d_W_law_407 : decode code 407 = .ok (.aload_n 0, 1) := by decide +kernel
theorem d_W_law_408 : decode code 408 = .ok (.iload_n 3, 1) := by decide +kernel
theorem d_W_law_409 : decode code 409 = .ok (.iconst 1, 1) := by decide +kernel
theorem d_W_law_410 : decode code 410 = .ok (.iadd, 1) := by decide +kernel
theorem d_W_law_411 : decode code 411 = .ok (.iaload, 1) := by decide +kernel
theorem d_W_law_412 : decode code 412 = .ok (.invokevirtual 48, 3) := by decide +kernel
theorem d_W_law_415 : decode code 415 = .ok (.if_icmp .eq 717, 3) := by decide +kernel
theorem d_W_law_418 : decode code 418 = .ok (.iconst 0, 1) := by decide +kernel
theorem d_W_law_419 : decode code 419 = .ok (.ireturn, 1) := by decide +kernel
theorem d_W_law_420 : decode code 420 = .ok (.aload_n 1, 1) := by decide +kernel
theorem d_W_law_421 : decode code 421 = .ok (.aload_n 0, 1) := by decide +kernel
theorem d_W_law_422 : decode code 422 = .ok (.iload_n 3, 1) := by decide +kernel
theorem d_W_law_423 : decode code 423 = .ok (.iconst 1, 1) := by decide +kernel
theorem d_W_law_424 : decode code 424 = .ok (.iadd, 1) := by decide +kernel
theorem d_W_law_425 : decode code 425 = .ok (.iaload, 1) := by decide +kernel
theorem d_W_law_426 : decode code 426 = .ok (.invokevirtual 49, 3) := by decide +kernel
theorem d_W_law_429 : decode code 429 = .ok (.aload_n 2, 1) := by decide +kernel
theorem d_W_law_430 : decode code 430 = .ok (.aload_n 0, 1) := by decide +kernel
theorem d_W_law_431 : decode code 431 = .ok (.iload_n 3, 1) := by decide +kernel
theorem d_W_law_432 : decode code 432 = .ok (.iconst 1, 1) := by decide +kernel
theorem d_W_law_433 : decode code 433 = .ok (.iadd, 1) := by decide +kernel
theorem d_W_law_434 : decode code 434 = .ok (.iaload, 1) := by decide +kernel
theorem d_W_law_435 : decode code 435 = .ok (.invokevirtual 52, 3) := by decide +kernel
theorem d_W_law_438 : decode code 438 = .ok (.if_icmp .eq 694, 3) := by decide +kernel
theorem d_W_law_441 : decode code 441 = .ok (.iconst 0, 1) := by decide +kernel
theorem d_W_law_442 : decode code 442 = .ok (.ireturn, 1) := by decide +kernel
theorem d_W_law_443 : decode code 443 = .ok (.aload_n 1, 1) := by decide +kernel
theorem d_W_law_444 : decode code 444 = .ok (.aload_n 0, 1) := by decide +kernel
theorem d_W_law_445 : decode code 445 = .ok (.iload_n 3, 1) := by decide +kernel
theorem d_W_law_446 : decode code 446 = .ok (.iconst 1, 1) := by decide +kernel
theorem d_W_law_447 : decode code 447 = .ok (.iadd, 1) := by decide +kernel
theorem d_W_law_448 : decode code 448 = .ok (.iaload, 1) := by decide +kernel
theorem d_W_law_449 : decode code 449 = .ok (.invokevirtual 53, 3) := by decide +kernel
theorem d_W_law_452 : decode code 452 = .ok (.aload_n 2, 1) := by decide +kernel
theorem d_W_law_453 : decode code 453 = .ok (.aload_n 0, 1) := by decide +kernel
theorem d_W_law_454 : decode code 454 = .ok (.iload_n 3, 1) := by decide +kernel
theorem d_W_law_455 : decode code 455 = .ok (.iconst 1, 1) := by decide +kernel
theorem d_W_law_456 : decode code 456 = .ok (.iadd, 1) := by decide +kernel
theorem d_W_law_457 : decode code 457 = .ok (.iaload, 1) := by decide +kernel
theorem d_W_law_458 : decode code 458 = .ok (.invokevirtual 56, 3) := by decide +kernel
theorem d_W_law_461 : decode code 461 = .ok (.if_icmp .eq 671, 3) := by decide +kernel
theorem d_W_law_464 : decode code 464 = .ok (.iconst 0, 1) := by decide +kernel
theorem d_W_law_465 : decode code 465 = .ok (.ireturn, 1) := by decide +kernel
theorem d_W_law_466 : decode code 466 = .ok (.aload_n 1, 1) := by decide +kernel
theorem d_W_law_467 : decode code 467 = .ok (.aload_n 0, 1) := by decide +kernel
theorem d_W_law_468 : decode code 468 = .ok (.iload_n 3, 1) := by decide +kernel
theorem d_W_law_469 : decode code 469 = .ok (.iconst 1, 1) := by decide +kernel
theorem d_W_law_470 : decode code 470 = .ok (.iadd, 1) := by decide +kernel
theorem d_W_law_471 : decode code 471 = .ok (.iaload, 1) := by decide +kernel
theorem d_W_law_472 : decode code 472 = .ok (.aload_n 0, 1) := by decide +kernel
theorem d_W_law_473 : decode code 473 = .ok (.iload_n 3, 1) := by decide +kernel
theorem d_W_law_474 : decode code 474 = .ok (.iconst 2, 1) := by decide +kernel
theorem d_W_law_475 : decode code 475 = .ok (.iadd, 1) := by decide +kernel
theorem d_W_law_476 : decode code 476 = .ok (.iaload, 1) := by decide +kernel
theorem d_W_law_477 : decode code 477 = .ok (.invokevirtual 57, 3) := by decide +kernel
theorem d_W_law_480 : decode code 480 = .ok (.aload_n 2, 1) := by decide +kernel
theorem d_W_law_481 : decode code 481 = .ok (.aload_n 0, 1) := by decide +kernel
theorem d_W_law_482 : decode code 482 = .ok (.iload_n 3, 1) := by decide +kernel
theorem d_W_law_483 : decode code 483 = .ok (.iconst 1, 1) := by decide +kernel
theorem d_W_law_484 : decode code 484 = .ok (.iadd, 1) := by decide +kernel
theorem d_W_law_485 : decode code 485 = .ok (.iaload, 1) := by decide +kernel
theorem d_W_law_486 : decode code 486 = .ok (.aload_n 0, 1) := by decide +kernel
theorem d_W_law_487 : decode code 487 = .ok (.iload_n 3, 1) := by decide +kernel
theorem d_W_law_488 : decode code 488 = .ok (.iconst 2, 1) := by decide +kernel
theorem d_W_law_489 : decode code 489 = .ok (.iadd, 1) := by decide +kernel
theorem d_W_law_490 : decode code 490 = .ok (.iaload, 1) := by decide +kernel
theorem d_W_law_491 : decode code 491 = .ok (.invokevirtual 61, 3) := by decide +kernel
theorem d_W_law_494 : decode code 494 = .ok (.if_icmp .eq 638, 3) := by decide +kernel
theorem d_W_law_497 : decode code 497 = .ok (.iconst 0, 1) := by decide +kernel
theorem d_W_law_498 : decode code 498 = .ok (.ireturn, 1) := by decide +kernel
theorem d_W_law_499 : decode code 499 = .ok (.aload_n 1, 1) := by decide +kernel
theorem d_W_law_500 : decode code 500 = .ok (.invokevirtual 62, 3) := by decide +kernel
theorem d_W_law_503 : decode code 503 = .ok (.aload_n 2, 1) := by decide +kernel
theorem d_W_law_504 : decode code 504 = .ok (.invokevirtual 65, 3) := by decide +kernel
theorem d_W_law_507 : decode code 507 = .ok (.if_icmp .eq 625, 3) := by decide +kernel
theorem d_W_law_510 : decode code 510 = .ok (.iconst 0, 1) := by decide +kernel
theorem d_W_law_511 : decode code 511 = .ok (.ireturn, 1) := by decide +kernel
theorem d_W_law_512 : decode code 512 = .ok (.aload_n 1, 1) := by decide +kernel
theorem d_W_law_513 : decode code 513 = .ok (.aload_n 0, 1) := by decide +kernel
theorem d_W_law_514 : decode code 514 = .ok (.iload_n 3, 1) := by decide +kernel
theorem d_W_law_515 : decode code 515 = .ok (.iconst 1, 1) := by decide +kernel
theorem d_W_law_516 : decode code 516 = .ok (.iadd, 1) := by decide +kernel
theorem d_W_law_517 : decode code 517 = .ok (.iaload, 1) := by decide +kernel
theorem d_W_law_518 : decode code 518 = .ok (.aload_n 0, 1) := by decide +kernel
theorem d_W_law_519 : decode code 519 = .ok (.iload_n 3, 1) := by decide +kernel
theorem d_W_law_520 : decode code 520 = .ok (.iconst 2, 1) := by decide +kernel
theorem d_W_law_521 : decode code 521 = .ok (.iadd, 1) := by decide +kernel
theorem d_W_law_522 : decode code 522 = .ok (.iaload, 1) := by decide +kernel
theorem d_W_law_523 : decode code 523 = .ok (.invokevirtual 66, 3) := by decide +kernel
theorem d_W_law_526 : decode code 526 = .ok (.aload_n 2, 1) := by decide +kernel
theorem d_W_law_527 : decode code 527 = .ok (.aload_n 0, 1) := by decide +kernel
theorem d_W_law_528 : decode code 528 = .ok (.iload_n 3, 1) := by decide +kernel
theorem d_W_law_529 : decode code 529 = .ok (.iconst 1, 1) := by decide +kernel
theorem d_W_law_530 : decode code 530 = .ok (.iadd, 1) := by decide +kernel
theorem d_W_law_531 : decode code 531 = .ok (.iaload, 1) := by decide +kernel
theorem d_W_law_532 : decode code 532 = .ok (.aload_n 0, 1) := by decide +kernel
theorem d_W_law_533 : decode code 533 = .ok (.iload_n 3, 1) := by decide +kernel
theorem d_W_law_534 : decode code 534 = .ok (.iconst 2, 1) := by decide +kernel
theorem d_W_law_535 : decode code 535 = .ok (.iadd, 1) := by decide +kernel
theorem d_W_law_536 : decode code 536 = .ok (.iaload, 1) := by decide +kernel
theorem d_W_law_537 : decode code 537 = .ok (.invokevirtual 69, 3) := by decide +kernel
theorem d_W_law_540 : decode code 540 = .ok (.if_icmp .eq 592, 3) := by decide +kernel
theorem d_W_law_543 : decode code 543 = .ok (.iconst 0, 1) := by decide +kernel
theorem d_W_law_544 : decode code 544 = .ok (.ireturn, 1) := by decide +kernel
theorem d_W_law_545 : decode code 545 = .ok (.aload_n 1, 1) := by decide +kernel
theorem d_W_law_546 : decode code 546 = .ok (.aload_n 0, 1) := by decide +kernel
theorem d_W_law_547 : decode code 547 = .ok (.iload_n 3, 1) := by decide +kernel
theorem d_W_law_548 : decode code 548 = .ok (.iconst 1, 1) := by decide +kernel
theorem d_W_law_549 : decode code 549 = .ok (.iadd, 1) := by decide +kernel
theorem d_W_law_550 : decode code 550 = .ok (.iaload, 1) := by decide +kernel
theorem d_W_law_551 : decode code 551 = .ok (.invokevirtual 70, 3) := by decide +kernel
theorem d_W_law_554 : decode code 554 = .ok (.aload_n 2, 1) := by decide +kernel
theorem d_W_law_555 : decode code 555 = .ok (.aload_n 0, 1) := by decide +kernel
theorem d_W_law_556 : decode code 556 = .ok (.iload_n 3, 1) := by decide +kernel
theorem d_W_law_557 : decode code 557 = .ok (.iconst 1, 1) := by decide +kernel
theorem d_W_law_558 : decode code 558 = .ok (.iadd, 1) := by decide +kernel
theorem d_W_law_559 : decode code 559 = .ok (.iaload, 1) := by decide +kernel
theorem d_W_law_560 : decode code 560 = .ok (.invokevirtual 73, 3) := by decide +kernel
theorem d_W_law_563 : decode code 563 = .ok (.if_icmp .eq 569, 3) := by decide +kernel
theorem d_W_law_566 : decode code 566 = .ok (.iconst 0, 1) := by decide +kernel
theorem d_W_law_567 : decode code 567 = .ok (.ireturn, 1) := by decide +kernel
theorem d_W_law_568 : decode code 568 = .ok (.aload_n 1, 1) := by decide +kernel
theorem d_W_law_569 : decode code 569 = .ok (.aload_n 0, 1) := by decide +kernel
theorem d_W_law_570 : decode code 570 = .ok (.iload_n 3, 1) := by decide +kernel
theorem d_W_law_571 : decode code 571 = .ok (.iconst 1, 1) := by decide +kernel
theorem d_W_law_572 : decode code 572 = .ok (.iadd, 1) := by decide +kernel
theorem d_W_law_573 : decode code 573 = .ok (.iaload, 1) := by decide +kernel
theorem d_W_law_574 : decode code 574 = .ok (.invokevirtual 74, 3) := by decide +kernel
theorem d_W_law_577 : decode code 577 = .ok (.aload_n 2, 1) := by decide +kernel
theorem d_W_law_578 : decode code 578 = .ok (.aload_n 0, 1) := by decide +kernel
theorem d_W_law_579 : decode code 579 = .ok (.iload_n 3, 1) := by decide +kernel
theorem d_W_law_580 : decode code 580 = .ok (.iconst 1, 1) := by decide +kernel
theorem d_W_law_581 : decode code 581 = .ok (.iadd, 1) := by decide +kernel
theorem d_W_law_582 : decode code 582 = .ok (.iaload, 1) := by decide +kernel
theorem d_W_law_583 : decode code 583 = .ok (.invokevirtual 77, 3) := by decide +kernel
theorem d_W_law_586 : decode code 586 = .ok (.if_icmp .eq 546, 3) := by decide +kernel
theorem d_W_law_589 : decode code 589 = .ok (.iconst 0, 1) := by decide +kernel
theorem d_W_law_590 : decode code 590 = .ok (.ireturn, 1) := by decide +kernel
theorem d_W_law_591 : decode code 591 = .ok (.aload_n 1, 1) := by decide +kernel
theorem d_W_law_592 : decode code 592 = .ok (.aload_n 0, 1) := by decide +kernel
theorem d_W_law_593 : decode code 593 = .ok (.iload_n 3, 1) := by decide +kernel
theorem d_W_law_594 : decode code 594 = .ok (.iconst 1, 1) := by decide +kernel
theorem d_W_law_595 : decode code 595 = .ok (.iadd, 1) := by decide +kernel
theorem d_W_law_596 : decode code 596 = .ok (.iaload, 1) := by decide +kernel
theorem d_W_law_597 : decode code 597 = .ok (.invokevirtual 78, 3) := by decide +kernel
theorem d_W_law_600 : decode code 600 = .ok (.aload_n 2, 1) := by decide +kernel
theorem d_W_law_601 : decode code 601 = .ok (.aload_n 0, 1) := by decide +kernel
theorem d_W_law_602 : decode code 602 = .ok (.iload_n 3, 1) := by decide +kernel
theorem d_W_law_603 : decode code 603 = .ok (.iconst 1, 1) := by decide +kernel
theorem d_W_law_604 : decode code 604 = .ok (.iadd, 1) := by decide +kernel
theorem d_W_law_605 : decode code 605 = .ok (.iaload, 1) := by decide +kernel
theorem d_W_law_606 : decode code 606 = .ok (.invokevirtual 81, 3) := by decide +kernel
theorem d_W_law_609 : decode code 609 = .ok (.if_icmp .eq 523, 3) := by decide +kernel
theorem d_W_law_612 : decode code 612 = .ok (.iconst 0, 1) := by decide +kernel
theorem d_W_law_613 : decode code 613 = .ok (.ireturn, 1) := by decide +kernel
theorem d_W_law_614 : decode code 614 = .ok (.aload_n 1, 1) := by decide +kernel
theorem d_W_law_615 : decode code 615 = .ok (.aload_n 0, 1) := by decide +kernel
theorem d_W_law_616 : decode code 616 = .ok (.iload_n 3, 1) := by decide +kernel
theorem d_W_law_617 : decode code 617 = .ok (.iconst 1, 1) := by decide +kernel
theorem d_W_law_618 : decode code 618 = .ok (.iadd, 1) := by decide +kernel
theorem d_W_law_619 : decode code 619 = .ok (.iaload, 1) := by decide +kernel
theorem d_W_law_620 : decode code 620 = .ok (.invokevirtual 82, 3) := by decide +kernel
theorem d_W_law_623 : decode code 623 = .ok (.aload_n 2, 1) := by decide +kernel
theorem d_W_law_624 : decode code 624 = .ok (.aload_n 0, 1) := by decide +kernel
theorem d_W_law_625 : decode code 625 = .ok (.iload_n 3, 1) := by decide +kernel
theorem d_W_law_626 : decode code 626 = .ok (.iconst 1, 1) := by decide +kernel
theorem d_W_law_627 : decode code 627 = .ok (.iadd, 1) := by decide +kernel
theorem d_W_law_628 : decode code 628 = .ok (.iaload, 1) := by decide +kernel
theorem d_W_law_629 : decode code 629 = .ok (.invokevirtual 85, 3) := by decide +kernel
theorem d_W_law_632 : decode code 632 = .ok (.if_icmp .eq 500, 3) := by decide +kernel
theorem d_W_law_635 : decode code 635 = .ok (.iconst 0, 1) := by decide +kernel
theorem d_W_law_636 : decode code 636 = .ok (.ireturn, 1) := by decide +kernel
theorem d_W_law_637 : decode code 637 = .ok (.aload_n 1, 1) := by decide +kernel
theorem d_W_law_638 : decode code 638 = .ok (.aload_n 0, 1) := by decide +kernel
theorem d_W_law_639 : decode code 639 = .ok (.iload_n 3, 1) := by decide +kernel
theorem d_W_law_640 : decode code 640 = .ok (.iconst 1, 1) := by decide +kernel
theorem d_W_law_641 : decode code 641 = .ok (.iadd, 1) := by decide +kernel
theorem d_W_law_642 : decode code 642 = .ok (.iaload, 1) := by decide +kernel
theorem d_W_law_643 : decode code 643 = .ok (.aload_n 0, 1) := by decide +kernel
theorem d_W_law_644 : decode code 644 = .ok (.iload_n 3, 1) := by decide +kernel
theorem d_W_law_645 : decode code 645 = .ok (.iconst 2, 1) := by decide +kernel
theorem d_W_law_646 : decode code 646 = .ok (.iadd, 1) := by decide +kernel
theorem d_W_law_647 : decode code 647 = .ok (.iaload, 1) := by decide +kernel
theorem d_W_law_648 : decode code 648 = .ok (.invokevirtual 86, 3) := by decide +kernel
theorem d_W_law_651 : decode code 651 = .ok (.aload_n 2, 1) := by decide +kernel
theorem d_W_law_652 : decode code 652 = .ok (.aload_n 0, 1) := by decide +kernel
theorem d_W_law_653 : decode code 653 = .ok (.iload_n 3, 1) := by decide +kernel
theorem d_W_law_654 : decode code 654 = .ok (.iconst 1, 1) := by decide +kernel
theorem d_W_law_655 : decode code 655 = .ok (.iadd, 1) := by decide +kernel
theorem d_W_law_656 : decode code 656 = .ok (.iaload, 1) := by decide +kernel
theorem d_W_law_657 : decode code 657 = .ok (.aload_n 0, 1) := by decide +kernel
theorem d_W_law_658 : decode code 658 = .ok (.iload_n 3, 1) := by decide +kernel
theorem d_W_law_659 : decode code 659 = .ok (.iconst 2, 1) := by decide +kernel
theorem d_W_law_660 : decode code 660 = .ok (.iadd, 1) := by decide +kernel
theorem d_W_law_661 : decode code 661 = .ok (.iaload, 1) := by decide +kernel
theorem d_W_law_662 : decode code 662 = .ok (.invokevirtual 89, 3) := by decide +kernel
theorem d_W_law_665 : decode code 665 = .ok (.if_icmp .eq 467, 3) := by decide +kernel
theorem d_W_law_668 : decode code 668 = .ok (.iconst 0, 1) := by decide +kernel
theorem d_W_law_669 : decode code 669 = .ok (.ireturn, 1) := by decide +kernel
theorem d_W_law_670 : decode code 670 = .ok (.aload_n 1, 1) := by decide +kernel
theorem d_W_law_671 : decode code 671 = .ok (.aload_n 0, 1) := by decide +kernel
theorem d_W_law_672 : decode code 672 = .ok (.iload_n 3, 1) := by decide +kernel
theorem d_W_law_673 : decode code 673 = .ok (.iconst 1, 1) := by decide +kernel
theorem d_W_law_674 : decode code 674 = .ok (.iadd, 1) := by decide +kernel
theorem d_W_law_675 : decode code 675 = .ok (.iaload, 1) := by decide +kernel
theorem d_W_law_676 : decode code 676 = .ok (.aload_n 0, 1) := by decide +kernel
theorem d_W_law_677 : decode code 677 = .ok (.iload_n 3, 1) := by decide +kernel
theorem d_W_law_678 : decode code 678 = .ok (.iconst 2, 1) := by decide +kernel
theorem d_W_law_679 : decode code 679 = .ok (.iadd, 1) := by decide +kernel
theorem d_W_law_680 : decode code 680 = .ok (.iaload, 1) := by decide +kernel
theorem d_W_law_681 : decode code 681 = .ok (.invokevirtual 90, 3) := by decide +kernel
theorem d_W_law_684 : decode code 684 = .ok (.aload_n 2, 1) := by decide +kernel
theorem d_W_law_685 : decode code 685 = .ok (.aload_n 0, 1) := by decide +kernel
theorem d_W_law_686 : decode code 686 = .ok (.iload_n 3, 1) := by decide +kernel
theorem d_W_law_687 : decode code 687 = .ok (.iconst 1, 1) := by decide +kernel
theorem d_W_law_688 : decode code 688 = .ok (.iadd, 1) := by decide +kernel
theorem d_W_law_689 : decode code 689 = .ok (.iaload, 1) := by decide +kernel
theorem d_W_law_690 : decode code 690 = .ok (.aload_n 0, 1) := by decide +kernel
theorem d_W_law_691 : decode code 691 = .ok (.iload_n 3, 1) := by decide +kernel
theorem d_W_law_692 : decode code 692 = .ok (.iconst 2, 1) := by decide +kernel
theorem d_W_law_693 : decode code 693 = .ok (.iadd, 1) := by decide +kernel
theorem d_W_law_694 : decode code 694 = .ok (.iaload, 1) := by decide +kernel
theorem d_W_law_695 : decode code 695 = .ok (.invokevirtual 93, 3) := by decide +kernel
theorem d_W_law_698 : decode code 698 = .ok (.if_icmp .eq 434, 3) := by decide +kernel
theorem d_W_law_701 : decode code 701 = .ok (.iconst 0, 1) := by decide +kernel
theorem d_W_law_702 : decode code 702 = .ok (.ireturn, 1) := by decide +kernel
theorem d_W_law_703 : decode code 703 = .ok (.aload_n 1, 1) := by decide +kernel
theorem d_W_law_704 : decode code 704 = .ok (.aload_n 0, 1) := by decide +kernel
theorem d_W_law_705 : decode code 705 = .ok (.iload_n 3, 1) := by decide +kernel
theorem d_W_law_706 : decode code 706 = .ok (.iconst 1, 1) := by decide +kernel
theorem d_W_law_707 : decode code 707 = .ok (.iadd, 1) := by decide +kernel
theorem d_W_law_708 : decode code 708 = .ok (.iaload, 1) := by decide +kernel
theorem d_W_law_709 : decode code 709 = .ok (.aload_n 0, 1) := by decide +kernel
theorem d_W_law_710 : decode code 710 = .ok (.iload_n 3, 1) := by decide +kernel
theorem d_W_law_711 : decode code 711 = .ok (.iconst 2, 1) := by decide +kernel
theorem d_W_law_712 : decode code 712 = .ok (.iadd, 1) := by decide +kernel
theorem d_W_law_713 : decode code 713 = .ok (.iaload, 1) := by decide +kernel
theorem d_W_law_714 : decode code 714 = .ok (.aload_n 0, 1) := by decide +kernel
theorem d_W_law_715 : decode code 715 = .ok (.iload_n 3, 1) := by decide +kernel
theorem d_W_law_716 : decode code 716 = .ok (.iconst 3, 1) := by decide +kernel
theorem d_W_law_717 : decode code 717 = .ok (.iadd, 1) := by decide +kernel
theorem d_W_law_718 : decode code 718 = .ok (.iaload, 1) := by decide +kernel
theorem d_W_law_719 : decode code 719 = .ok (.invokevirtual 94, 3) := by decide +kernel
theorem d_W_law_722 : decode code 722 = .ok (.aload_n 2, 1) := by decide +kernel
theorem d_W_law_723 : decode code 723 = .ok (.aload_n 0, 1) := by decide +kernel
theorem d_W_law_724 : decode code 724 = .ok (.iload_n 3, 1) := by decide +kernel
theorem d_W_law_725 : decode code 725 = .ok (.iconst 1, 1) := by decide +kernel
theorem d_W_law_726 : decode code 726 = .ok (.iadd, 1) := by decide +kernel
theorem d_W_law_727 : decode code 727 = .ok (.iaload, 1) := by decide +kernel
theorem d_W_law_728 : decode code 728 = .ok (.aload_n 0, 1) := by decide +kernel
theorem d_W_law_729 : decode code 729 = .ok (.iload_n 3, 1) := by decide +kernel
theorem d_W_law_730 : decode code 730 = .ok (.iconst 2, 1) := by decide +kernel
theorem d_W_law_731 : decode code 731 = .ok (.iadd, 1) := by decide +kernel
theorem d_W_law_732 : decode code 732 = .ok (.iaload, 1) := by decide +kernel
theorem d_W_law_733 : decode code 733 = .ok (.aload_n 0, 1) := by decide +kernel
theorem d_W_law_734 : decode code 734 = .ok (.iload_n 3, 1) := by decide +kernel
theorem d_W_law_735 : decode code 735 = .ok (.iconst 3, 1) := by decide +kernel
theorem d_W_law_736 : decode code 736 = .ok (.iadd, 1) := by decide +kernel
theorem d_W_law_737 : decode code 737 = .ok (.iaload, 1) := by decide +kernel
theorem d_W_law_738 : decode code 738 = .ok (.invokevirtual 97, 3) := by decide +kernel
theorem d_W_law_741 : decode code 741 = .ok (.if_icmp .eq 391, 3) := by decide +kernel
theorem d_W_law_744 : decode code 744 = .ok (.iconst 0, 1) := by decide +kernel
theorem d_W_law_745 : decode code 745 = .ok (.ireturn, 1) := by decide +kernel
theorem d_W_law_746 : decode code 746 = .ok (.aload_n 1, 1) := by decide +kernel
theorem d_W_law_747 : decode code 747 = .ok (.aload_n 0, 1) := by decide +kernel
theorem d_W_law_748 : decode code 748 = .ok (.iload_n 3, 1) := by decide +kernel
theorem d_W_law_749 : decode code 749 = .ok (.iconst 1, 1) := by decide +kernel
theorem d_W_law_750 : decode code 750 = .ok (.iadd, 1) := by decide +kernel
theorem d_W_law_751 : decode code 751 = .ok (.iaload, 1) := by decide +kernel
theorem d_W_law_752 : decode code 752 = .ok (.aload_n 0, 1) := by decide +kernel
theorem d_W_law_753 : decode code 753 = .ok (.iload_n 3, 1) := by decide +kernel
theorem d_W_law_754 : decode code 754 = .ok (.iconst 2, 1) := by decide +kernel
theorem d_W_law_755 : decode code 755 = .ok (.iadd, 1) := by decide +kernel
theorem d_W_law_756 : decode code 756 = .ok (.iaload, 1) := by decide +kernel
theorem d_W_law_757 : decode code 757 = .ok (.aload_n 0, 1) := by decide +kernel
theorem d_W_law_758 : decode code 758 = .ok (.iload_n 3, 1) := by decide +kernel
theorem d_W_law_759 : decode code 759 = .ok (.iconst 3, 1) := by decide +kernel
theorem d_W_law_760 : decode code 760 = .ok (.iadd, 1) := by decide +kernel
theorem d_W_law_761 : decode code 761 = .ok (.iaload, 1) := by decide +kernel
theorem d_W_law_762 : decode code 762 = .ok (.aload_n 0, 1) := by decide +kernel
theorem d_W_law_763 : decode code 763 = .ok (.iload_n 3, 1) := by decide +kernel
theorem d_W_law_764 : decode code 764 = .ok (.iconst 4, 1) := by decide +kernel
theorem d_W_law_765 : decode code 765 = .ok (.iadd, 1) := by decide +kernel
theorem d_W_law_766 : decode code 766 = .ok (.iaload, 1) := by decide +kernel
theorem d_W_law_767 : decode code 767 = .ok (.aload_n 0, 1) := by decide +kernel
theorem d_W_law_768 : decode code 768 = .ok (.iload_n 3, 1) := by decide +kernel
theorem d_W_law_769 : decode code 769 = .ok (.iconst 5, 1) := by decide +kernel
theorem d_W_law_770 : decode code 770 = .ok (.iadd, 1) := by decide +kernel
theorem d_W_law_771 : decode code 771 = .ok (.iaload, 1) := by decide +kernel
theorem d_W_law_772 : decode code 772 = .ok (.invokevirtual 98, 3) := by decide +kernel
theorem d_W_law_775 : decode code 775 = .ok (.aload_n 2, 1) := by decide +kernel
theorem d_W_law_776 : decode code 776 = .ok (.aload_n 0, 1) := by decide +kernel
theorem d_W_law_777 : decode code 777 = .ok (.iload_n 3, 1) := by decide +kernel
theorem d_W_law_778 : decode code 778 = .ok (.iconst 1, 1) := by decide +kernel
theorem d_W_law_779 : decode code 779 = .ok (.iadd, 1) := by decide +kernel
theorem d_W_law_780 : decode code 780 = .ok (.iaload, 1) := by decide +kernel
theorem d_W_law_781 : decode code 781 = .ok (.aload_n 0, 1) := by decide +kernel
theorem d_W_law_782 : decode code 782 = .ok (.iload_n 3, 1) := by decide +kernel
theorem d_W_law_783 : decode code 783 = .ok (.iconst 2, 1) := by decide +kernel
theorem d_W_law_784 : decode code 784 = .ok (.iadd, 1) := by decide +kernel
theorem d_W_law_785 : decode code 785 = .ok (.iaload, 1) := by decide +kernel
theorem d_W_law_786 : decode code 786 = .ok (.aload_n 0, 1) := by decide +kernel
theorem d_W_law_787 : decode code 787 = .ok (.iload_n 3, 1) := by decide +kernel
theorem d_W_law_788 : decode code 788 = .ok (.iconst 3, 1) := by decide +kernel
theorem d_W_law_789 : decode code 789 = .ok (.iadd, 1) := by decide +kernel
theorem d_W_law_790 : decode code 790 = .ok (.iaload, 1) := by decide +kernel
theorem d_W_law_791 : decode code 791 = .ok (.aload_n 0, 1) := by decide +kernel
theorem d_W_law_792 : decode code 792 = .ok (.iload_n 3, 1) := by decide +kernel
theorem d_W_law_793 : decode code 793 = .ok (.iconst 4, 1) := by decide +kernel
theorem d_W_law_794 : decode code 794 = .ok (.iadd, 1) := by decide +kernel
theorem d_W_law_795 : decode code 795 = .ok (.iaload, 1) := by decide +kernel
theorem d_W_law_796 : decode code 796 = .ok (.aload_n 0, 1) := by decide +kernel
theorem d_W_law_797 : decode code 797 = .ok (.iload_n 3, 1) := by decide +kernel
theorem d_W_law_798 : decode code 798 = .ok (.iconst 5, 1) := by decide +kernel
theorem d_W_law_799 : decode code 799 = .ok (.iadd, 1) := by decide +kernel
theorem d_W_law_800 : decode code 800 = .ok (.iaload, 1) := by decide +kernel
theorem d_W_law_801 : decode code 801 = .ok (.invokevirtual 101, 3) := by decide +kernel
theorem d_W_law_804 : decode code 804 = .ok (.if_icmp .eq 328, 3) := by decide +kernel
theorem d_W_law_807 : decode code 807 = .ok (.iconst 0, 1) := by decide +kernel
theorem d_W_law_808 : decode code 808 = .ok (.ireturn, 1) := by decide +kernel
theorem d_W_law_809 : decode code 809 = .ok (.aload_n 1, 1) := by decide +kernel
theorem d_W_law_810 : decode code 810 = .ok (.aload_n 0, 1) := by decide +kernel
theorem d_W_law_811 : decode code 811 = .ok (.iload_n 3, 1) := by decide +kernel
theorem d_W_law_812 : decode code 812 = .ok (.iconst 1, 1) := by decide +kernel
theorem d_W_law_813 : decode code 813 = .ok (.iadd, 1) := by decide +kernel
theorem d_W_law_814 : decode code 814 = .ok (.iaload, 1) := by decide +kernel
theorem d_W_law_815 : decode code 815 = .ok (.aload_n 0, 1) := by decide +kernel
theorem d_W_law_816 : decode code 816 = .ok (.iload_n 3, 1) := by decide +kernel
theorem d_W_law_817 : decode code 817 = .ok (.iconst 2, 1) := by decide +kernel
theorem d_W_law_818 : decode code 818 = .ok (.iadd, 1) := by decide +kernel
theorem d_W_law_819 : decode code 819 = .ok (.iaload, 1) := by decide +kernel
theorem d_W_law_820 : decode code 820 = .ok (.aload_n 0, 1) := by decide +kernel
theorem d_W_law_821 : decode code 821 = .ok (.iload_n 3, 1) := by decide +kernel
theorem d_W_law_822 : decode code 822 = .ok (.iconst 3, 1) := by decide +kernel
theorem d_W_law_823 : decode code 823 = .ok (.iadd, 1) := by decide +kernel
theorem d_W_law_824 : decode code 824 = .ok (.iaload, 1) := by decide +kernel
theorem d_W_law_825 : decode code 825 = .ok (.invokevirtual 102, 3) := by decide +kernel
theorem d_W_law_828 : decode code 828 = .ok (.aload_n 2, 1) := by decide +kernel
theorem d_W_law_829 : decode code 829 = .ok (.aload_n 0, 1) := by decide +kernel
theorem d_W_law_830 : decode code 830 = .ok (.iload_n 3, 1) := by decide +kernel
theorem d_W_law_831 : decode code 831 = .ok (.iconst 1, 1) := by decide +kernel
theorem d_W_law_832 : decode code 832 = .ok (.iadd, 1) := by decide +kernel
theorem d_W_law_833 : decode code 833 = .ok (.iaload, 1) := by decide +kernel
theorem d_W_law_834 : decode code 834 = .ok (.aload_n 0, 1) := by decide +kernel
theorem d_W_law_835 : decode code 835 = .ok (.iload_n 3, 1) := by decide +kernel
theorem d_W_law_836 : decode code 836 = .ok (.iconst 2, 1) := by decide +kernel
theorem d_W_law_837 : decode code 837 = .ok (.iadd, 1) := by decide +kernel
theorem d_W_law_838 : decode code 838 = .ok (.iaload, 1) := by decide +kernel
theorem d_W_law_839 : decode code 839 = .ok (.aload_n 0, 1) := by decide +kernel
theorem d_W_law_840 : decode code 840 = .ok (.iload_n 3, 1) := by decide +kernel
theorem d_W_law_841 : decode code 841 = .ok (.iconst 3, 1) := by decide +kernel
theorem d_W_law_842 : decode code 842 = .ok (.iadd, 1) := by decide +kernel
theorem d_W_law_843 : decode code 843 = .ok (.iaload, 1) := by decide +kernel
theorem d_W_law_844 : decode code 844 = .ok (.invokevirtual 105, 3) := by decide +kernel
theorem d_W_law_847 : decode code 847 = .ok (.if_icmp .eq 285, 3) := by decide +kernel
theorem d_W_law_850 : decode code 850 = .ok (.iconst 0, 1) := by decide +kernel
theorem d_W_law_851 : decode code 851 = .ok (.ireturn, 1) := by decide +kernel
theorem d_W_law_852 : decode code 852 = .ok (.aload_n 1, 1) := by decide +kernel
theorem d_W_law_853 : decode code 853 = .ok (.aload_n 0, 1) := by decide +kernel
theorem d_W_law_854 : decode code 854 = .ok (.iload_n 3, 1) := by decide +kernel
theorem d_W_law_855 : decode code 855 = .ok (.iconst 1, 1) := by decide +kernel
theorem d_W_law_856 : decode code 856 = .ok (.iadd, 1) := by decide +kernel
theorem d_W_law_857 : decode code 857 = .ok (.iaload, 1) := by decide +kernel
theorem d_W_law_858 : decode code 858 = .ok (.aload_n 0, 1) := by decide +kernel
theorem d_W_law_859 : decode code 859 = .ok (.iload_n 3, 1) := by decide +kernel
theorem d_W_law_860 : decode code 860 = .ok (.iconst 2, 1) := by decide +kernel
theorem d_W_law_861 : decode code 861 = .ok (.iadd, 1) := by decide +kernel
theorem d_W_law_862 : decode code 862 = .ok (.iaload, 1) := by decide +kernel
theorem d_W_law_863 : decode code 863 = .ok (.aload_n 0, 1) := by decide +kernel
theorem d_W_law_864 : decode code 864 = .ok (.iload_n 3, 1) := by decide +kernel
theorem d_W_law_865 : decode code 865 = .ok (.iconst 3, 1) := by decide +kernel
theorem d_W_law_866 : decode code 866 = .ok (.iadd, 1) := by decide +kernel
theorem d_W_law_867 : decode code 867 = .ok (.iaload, 1) := by decide +kernel
theorem d_W_law_868 : decode code 868 = .ok (.invokevirtual 106, 3) := by decide +kernel
theorem d_W_law_871 : decode code 871 = .ok (.aload_n 2, 1) := by decide +kernel
theorem d_W_law_872 : decode code 872 = .ok (.aload_n 0, 1) := by decide +kernel
theorem d_W_law_873 : decode code 873 = .ok (.iload_n 3, 1) := by decide +kernel
theorem d_W_law_874 : decode code 874 = .ok (.iconst 1, 1) := by decide +kernel
theorem d_W_law_875 : decode code 875 = .ok (.iadd, 1) := by decide +kernel
theorem d_W_law_876 : decode code 876 = .ok (.iaload, 1) := by decide +kernel
theorem d_W_law_877 : decode code 877 = .ok (.aload_n 0, 1) := by decide +kernel
theorem d_W_law_878 : decode code 878 = .ok (.iload_n 3, 1) := by decide +kernel
theorem d_W_law_879 : decode code 879 = .ok (.iconst 2, 1) := by decide +kernel
theorem d_W_law_880 : decode code 880 = .ok (.iadd, 1) := by decide +kernel
theorem d_W_law_881 : decode code 881 = .ok (.iaload, 1) := by decide +kernel
theorem d_W_law_882 : decode code 882 = .ok (.aload_n 0, 1) := by decide +kernel
theorem d_W_law_883 : decode code 883 = .ok (.iload_n 3, 1) := by decide +kernel
theorem d_W_law_884 : decode code 884 = .ok (.iconst 3, 1) := by decide +kernel
theorem d_W_law_885 : decode code 885 = .ok (.iadd, 1) := by decide +kernel
theorem d_W_law_886 : decode code 886 = .ok (.iaload, 1) := by decide +kernel
theorem d_W_law_887 : decode code 887 = .ok (.invokevirtual 109, 3) := by decide +kernel
theorem d_W_law_890 : decode code 890 = .ok (.if_icmp .eq 242, 3) := by decide +kernel
theorem d_W_law_893 : decode code 893 = .ok (.iconst 0, 1) := by decide +kernel
theorem d_W_law_894 : decode code 894 = .ok (.ireturn, 1) := by decide +kernel
theorem d_W_law_895 : decode code 895 = .ok (.aload_n 1, 1) := by decide +kernel
theorem d_W_law_896 : decode code 896 = .ok (.aload_n 0, 1) := by decide +kernel
theorem d_W_law_897 : decode code 897 = .ok (.iload_n 3, 1) := by decide +kernel
theorem d_W_law_898 : decode code 898 = .ok (.iconst 1, 1) := by decide +kernel
theorem d_W_law_899 : decode code 899 = .ok (.iadd, 1) := by decide +kernel
theorem d_W_law_900 : decode code 900 = .ok (.iaload, 1) := by decide +kernel
theorem d_W_law_901 : decode code 901 = .ok (.aload_n 0, 1) := by decide +kernel
theorem d_W_law_902 : decode code 902 = .ok (.iload_n 3, 1) := by decide +kernel
theorem d_W_law_903 : decode code 903 = .ok (.iconst 2, 1) := by decide +kernel
theorem d_W_law_904 : decode code 904 = .ok (.iadd, 1) := by decide +kernel
theorem d_W_law_905 : decode code 905 = .ok (.iaload, 1) := by decide +kernel
theorem d_W_law_906 : decode code 906 = .ok (.aload_n 0, 1) := by decide +kernel
theorem d_W_law_907 : decode code 907 = .ok (.iload_n 3, 1) := by decide +kernel
theorem d_W_law_908 : decode code 908 = .ok (.iconst 3, 1) := by decide +kernel
theorem d_W_law_909 : decode code 909 = .ok (.iadd, 1) := by decide +kernel
theorem d_W_law_910 : decode code 910 = .ok (.iaload, 1) := by decide +kernel
theorem d_W_law_911 : decode code 911 = .ok (.invokevirtual 110, 3) := by decide +kernel
theorem d_W_law_914 : decode code 914 = .ok (.aload_n 2, 1) := by decide +kernel
theorem d_W_law_915 : decode code 915 = .ok (.aload_n 0, 1) := by decide +kernel
theorem d_W_law_916 : decode code 916 = .ok (.iload_n 3, 1) := by decide +kernel
theorem d_W_law_917 : decode code 917 = .ok (.iconst 1, 1) := by decide +kernel
theorem d_W_law_918 : decode code 918 = .ok (.iadd, 1) := by decide +kernel
theorem d_W_law_919 : decode code 919 = .ok (.iaload, 1) := by decide +kernel
theorem d_W_law_920 : decode code 920 = .ok (.aload_n 0, 1) := by decide +kernel
theorem d_W_law_921 : decode code 921 = .ok (.iload_n 3, 1) := by decide +kernel
theorem d_W_law_922 : decode code 922 = .ok (.iconst 2, 1) := by decide +kernel
theorem d_W_law_923 : decode code 923 = .ok (.iadd, 1) := by decide +kernel
theorem d_W_law_924 : decode code 924 = .ok (.iaload, 1) := by decide +kernel
theorem d_W_law_925 : decode code 925 = .ok (.aload_n 0, 1) := by decide +kernel
theorem d_W_law_926 : decode code 926 = .ok (.iload_n 3, 1) := by decide +kernel
theorem d_W_law_927 : decode code 927 = .ok (.iconst 3, 1) := by decide +kernel
theorem d_W_law_928 : decode code 928 = .ok (.iadd, 1) := by decide +kernel
theorem d_W_law_929 : decode code 929 = .ok (.iaload, 1) := by decide +kernel
theorem d_W_law_930 : decode code 930 = .ok (.invokevirtual 113, 3) := by decide +kernel
theorem d_W_law_933 : decode code 933 = .ok (.if_icmp .eq 199, 3) := by decide +kernel
theorem d_W_law_936 : decode code 936 = .ok (.iconst 0, 1) := by decide +kernel
theorem d_W_law_937 : decode code 937 = .ok (.ireturn, 1) := by decide +kernel
theorem d_W_law_938 : decode code 938 = .ok (.aload_n 1, 1) := by decide +kernel
theorem d_W_law_939 : decode code 939 = .ok (.aload_n 0, 1) := by decide +kernel
theorem d_W_law_940 : decode code 940 = .ok (.iload_n 3, 1) := by decide +kernel
theorem d_W_law_941 : decode code 941 = .ok (.iconst 1, 1) := by decide +kernel
theorem d_W_law_942 : decode code 942 = .ok (.iadd, 1) := by decide +kernel
theorem d_W_law_943 : decode code 943 = .ok (.iaload, 1) := by decide +kernel
theorem d_W_law_944 : decode code 944 = .ok (.invokevirtual 114, 3) := by decide +kernel
theorem d_W_law_947 : decode code 947 = .ok (.aload_n 2, 1) := by decide +kernel
theorem d_W_law_948 : decode code 948 = .ok (.aload_n 0, 1) := by decide +kernel
theorem d_W_law_949 : decode code 949 = .ok (.iload_n 3, 1) := by decide +kernel
theorem d_W_law_950 : decode code 950 = .ok (.iconst 1, 1) := by decide +kernel
theorem d_W_law_951 : decode code 951 = .ok (.iadd, 1) := by decide +kernel
theorem d_W_law_952 : decode code 952 = .ok (.iaload, 1) := by decide +kernel
theorem d_W_law_953 : decode code 953 = .ok (.invokevirtual 117, 3) := by decide +kernel
theorem d_W_law_956 : decode code 956 = .ok (.if_icmp .eq 176, 3) := by decide +kernel
theorem d_W_law_959 : decode code 959 = .ok (.iconst 0, 1) := by decide +kernel
theorem d_W_law_960 : decode code 960 = .ok (.ireturn, 1) := by decide +kernel
theorem d_W_law_961 : decode code 961 = .ok (.aload_n 1, 1) := by decide +kernel
theorem d_W_law_962 : decode code 962 = .ok (.aload_n 0, 1) := by decide +kernel
theorem d_W_law_963 : decode code 963 = .ok (.iload_n 3, 1) := by decide +kernel
theorem d_W_law_964 : decode code 964 = .ok (.iconst 1, 1) := by decide +kernel
theorem d_W_law_965 : decode code 965 = .ok (.iadd, 1) := by decide +kernel
theorem d_W_law_966 : decode code 966 = .ok (.iaload, 1) := by decide +kernel
theorem d_W_law_967 : decode code 967 = .ok (.invokevirtual 118, 3) := by decide +kernel
theorem d_W_law_970 : decode code 970 = .ok (.aload_n 2, 1) := by decide +kernel
theorem d_W_law_971 : decode code 971 = .ok (.aload_n 0, 1) := by decide +kernel
theorem d_W_law_972 : decode code 972 = .ok (.iload_n 3, 1) := by decide +kernel
theorem d_W_law_973 : decode code 973 = .ok (.iconst 1, 1) := by decide +kernel
theorem d_W_law_974 : decode code 974 = .ok (.iadd, 1) := by decide +kernel
theorem d_W_law_975 : decode code 975 = .ok (.iaload, 1) := by decide +kernel
theorem d_W_law_976 : decode code 976 = .ok (.invokevirtual 121, 3) := by decide +kernel
theorem d_W_law_979 : decode code 979 = .ok (.if_icmp .eq 153, 3) := by decide +kernel
theorem d_W_law_982 : decode code 982 = .ok (.iconst 0, 1) := by decide +kernel
theorem d_W_law_983 : decode code 983 = .ok (.ireturn, 1) := by decide +kernel
theorem d_W_law_984 : decode code 984 = .ok (.aload_n 1, 1) := by decide +kernel
theorem d_W_law_985 : decode code 985 = .ok (.aload_n 0, 1) := by decide +kernel
theorem d_W_law_986 : decode code 986 = .ok (.iload_n 3, 1) := by decide +kernel
theorem d_W_law_987 : decode code 987 = .ok (.iconst 1, 1) := by decide +kernel
theorem d_W_law_988 : decode code 988 = .ok (.iadd, 1) := by decide +kernel
theorem d_W_law_989 : decode code 989 = .ok (.iaload, 1) := by decide +kernel
theorem d_W_law_990 : decode code 990 = .ok (.invokevirtual 122, 3) := by decide +kernel
theorem d_W_law_993 : decode code 993 = .ok (.aload_n 2, 1) := by decide +kernel
theorem d_W_law_994 : decode code 994 = .ok (.aload_n 0, 1) := by decide +kernel
theorem d_W_law_995 : decode code 995 = .ok (.iload_n 3, 1) := by decide +kernel
theorem d_W_law_996 : decode code 996 = .ok (.iconst 1, 1) := by decide +kernel
theorem d_W_law_997 : decode code 997 = .ok (.iadd, 1) := by decide +kernel
theorem d_W_law_998 : decode code 998 = .ok (.iaload, 1) := by decide +kernel
theorem d_W_law_999 : decode code 999 = .ok (.invokevirtual 125, 3) := by decide +kernel
theorem d_W_law_1002 : decode code 1002 = .ok (.if_icmp .eq 130, 3) := by decide +kernel
theorem d_W_law_1005 : decode code 1005 = .ok (.iconst 0, 1) := by decide +kernel
theorem d_W_law_1006 : decode code 1006 = .ok (.ireturn, 1) := by decide +kernel
theorem d_W_law_1007 : decode code 1007 = .ok (.aload_n 1, 1) := by decide +kernel
theorem d_W_law_1008 : decode code 1008 = .ok (.aload_n 0, 1) := by decide +kernel
theorem d_W_law_1009 : decode code 1009 = .ok (.iload_n 3, 1) := by decide +kernel
theorem d_W_law_1010 : decode code 1010 = .ok (.iconst 1, 1) := by decide +kernel
theorem d_W_law_1011 : decode code 1011 = .ok (.iadd, 1) := by decide +kernel
theorem d_W_law_1012 : decode code 1012 = .ok (.iaload, 1) := by decide +kernel
theorem d_W_law_1013 : decode code 1013 = .ok (.aload_n 0, 1) := by decide +kernel
theorem d_W_law_1014 : decode code 1014 = .ok (.iload_n 3, 1) := by decide +kernel
theorem d_W_law_1015 : decode code 1015 = .ok (.iconst 2, 1) := by decide +kernel
theorem d_W_law_1016 : decode code 1016 = .ok (.iadd, 1) := by decide +kernel
theorem d_W_law_1017 : decode code 1017 = .ok (.iaload, 1) := by decide +kernel
theorem d_W_law_1018 : decode code 1018 = .ok (.invokevirtual 126, 3) := by decide +kernel
theorem d_W_law_1021 : decode code 1021 = .ok (.aload_n 2, 1) := by decide +kernel
theorem d_W_law_1022 : decode code 1022 = .ok (.aload_n 0, 1) := by decide +kernel
theorem d_W_law_1023 : decode code 1023 = .ok (.iload_n 3, 1) := by decide +kernel
theorem d_W_law_1024 : decode code 1024 = .ok (.iconst 1, 1) := by decide +kernel
theorem d_W_law_1025 : decode code 1025 = .ok (.iadd, 1) := by decide +kernel
theorem d_W_law_1026 : decode code 1026 = .ok (.iaload, 1) := by decide +kernel
theorem d_W_law_1027 : decode code 1027 = .ok (.aload_n 0, 1) := by decide +kernel
theorem d_W_law_1028 : decode code 1028 = .ok (.iload_n 3, 1) := by decide +kernel
theorem d_W_law_1029 : decode code 1029 = .ok (.iconst 2, 1) := by decide +kernel
theorem d_W_law_1030 : decode code 1030 = .ok (.iadd, 1) := by decide +kernel
theorem d_W_law_1031 : decode code 1031 = .ok (.iaload, 1) := by decide +kernel
theorem d_W_law_1032 : decode code 1032 = .ok (.invokevirtual 129, 3) := by decide +kernel
theorem d_W_law_1035 : decode code 1035 = .ok (.if_icmp .eq 97, 3) := by decide +kernel
theorem d_W_law_1038 : decode code 1038 = .ok (.iconst 0, 1) := by decide +kernel
theorem d_W_law_1039 : decode code 1039 = .ok (.ireturn, 1) := by decide +kernel
theorem d_W_law_1040 : decode code 1040 = .ok (.aload_n 1, 1) := by decide +kernel
theorem d_W_law_1041 : decode code 1041 = .ok (.aload_n 0, 1) := by decide +kernel
theorem d_W_law_1042 : decode code 1042 = .ok (.iload_n 3, 1) := by decide +kernel
theorem d_W_law_1043 : decode code 1043 = .ok (.iconst 1, 1) := by decide +kernel
theorem d_W_law_1044 : decode code 1044 = .ok (.iadd, 1) := by decide +kernel
theorem d_W_law_1045 : decode code 1045 = .ok (.iaload, 1) := by decide +kernel
theorem d_W_law_1046 : decode code 1046 = .ok (.aload_n 0, 1) := by decide +kernel
theorem d_W_law_1047 : decode code 1047 = .ok (.iload_n 3, 1) := by decide +kernel
theorem d_W_law_1048 : decode code 1048 = .ok (.iconst 2, 1) := by decide +kernel
theorem d_W_law_1049 : decode code 1049 = .ok (.iadd, 1) := by decide +kernel
theorem d_W_law_1050 : decode code 1050 = .ok (.iaload, 1) := by decide +kernel
theorem d_W_law_1051 : decode code 1051 = .ok (.invokevirtual 130, 3) := by decide +kernel
theorem d_W_law_1054 : decode code 1054 = .ok (.aload_n 2, 1) := by decide +kernel
theorem d_W_law_1055 : decode code 1055 = .ok (.aload_n 0, 1) := by decide +kernel
theorem d_W_law_1056 : decode code 1056 = .ok (.iload_n 3, 1) := by decide +kernel
theorem d_W_law_1057 : decode code 1057 = .ok (.iconst 1, 1) := by decide +kernel
theorem d_W_law_1058 : decode code 1058 = .ok (.iadd, 1) := by decide +kernel
theorem d_W_law_1059 : decode code 1059 = .ok (.iaload, 1) := by decide +kernel
theorem d_W_law_1060 : decode code 1060 = .ok (.aload_n 0, 1) := by decide +kernel
theorem d_W_law_1061 : decode code 1061 = .ok (.iload_n 3, 1) := by decide +kernel
theorem d_W_law_1062 : decode code 1062 = .ok (.iconst 2, 1) := by decide +kernel
theorem d_W_law_1063 : decode code 1063 = .ok (.iadd, 1) := by decide +kernel
theorem d_W_law_1064 : decode code 1064 = .ok (.iaload, 1) := by decide +kernel
theorem d_W_law_1065 : decode code 1065 = .ok (.invokevirtual 133, 3) := by decide +kernel
theorem d_W_law_1068 : decode code 1068 = .ok (.if_icmp .eq 64, 3) := by decide +kernel
theorem d_W_law_1071 : decode code 1071 = .ok (.iconst 0, 1) := by decide +kernel
theorem d_W_law_1072 : decode code 1072 = .ok (.ireturn, 1) := by decide +kernel
theorem d_W_law_1073 : decode code 1073 = .ok (.aload_n 1, 1) := by decide +kernel
theorem d_W_law_1074 : decode code 1074 = .ok (.aload_n 0, 1) := by decide +kernel
theorem d_W_law_1075 : decode code 1075 = .ok (.iload_n 3, 1) := by decide +kernel
theorem d_W_law_1076 : decode code 1076 = .ok (.iconst 1, 1) := by decide +kernel
theorem d_W_law_1077 : decode code 1077 = .ok (.iadd, 1) := by decide +kernel
theorem d_W_law_1078 : decode code 1078 = .ok (.iaload, 1) := by decide +kernel
theorem d_W_law_1079 : decode code 1079 = .ok (.invokevirtual 134, 3) := by decide +kernel
theorem d_W_law_1082 : decode code 1082 = .ok (.aload_n 2, 1) := by decide +kernel
theorem d_W_law_1083 : decode code 1083 = .ok (.aload_n 0, 1) := by decide +kernel
theorem d_W_law_1084 : decode code 1084 = .ok (.iload_n 3, 1) := by decide +kernel
theorem d_W_law_1085 : decode code 1085 = .ok (.iconst 1, 1) := by decide +kernel
theorem d_W_law_1086 : decode code 1086 = .ok (.iadd, 1) := by decide +kernel
theorem d_W_law_1087 : decode code 1087 = .ok (.iaload, 1) := by decide +kernel
theorem d_W_law_1088 : decode code 1088 = .ok (.invokevirtual 137, 3) := by decide +kernel
theorem d_W_law_1091 : decode code 1091 = .ok (.if_icmp .eq 41, 3) := by decide +kernel
theorem d_W_law_1094 : decode code 1094 = .ok (.iconst 0, 1) := by decide +kernel
theorem d_W_law_1095 : decode code 1095 = .ok (.ireturn, 1) := by decide +kernel
theorem d_W_law_1096 : decode code 1096 = .ok (.aload_n 1, 1) := by decide +kernel
theorem d_W_law_1097 : decode code 1097 = .ok (.aload_n 0, 1) := by decide +kernel
theorem d_W_law_1098 : decode code 1098 = .ok (.iload_n 3, 1) := by decide +kernel
theorem d_W_law_1099 : decode code 1099 = .ok (.iconst 1, 1) := by decide +kernel
theorem d_W_law_1100 : decode code 1100 = .ok (.iadd, 1) := by decide +kernel
theorem d_W_law_1101 : decode code 1101 = .ok (.iaload, 1) := by decide +kernel
theorem d_W_law_1102 : decode code 1102 = .ok (.invokevirtual 138, 3) := by decide +kernel
theorem d_W_law_1105 : decode code 1105 = .ok (.aload_n 2, 1) := by decide +kernel
theorem d_W_law_1106 : decode code 1106 = .ok (.aload_n 0, 1) := by decide +kernel
theorem d_W_law_1107 : decode code 1107 = .ok (.iload_n 3, 1) := by decide +kernel
theorem d_W_law_1108 : decode code 1108 = .ok (.iconst 1, 1) := by decide +kernel
theorem d_W_law_1109 : decode code 1109 = .ok (.iadd, 1) := by decide +kernel
theorem d_W_law_1110 : decode code 1110 = .ok (.iaload, 1) := by decide +kernel
theorem d_W_law_1111 : decode code 1111 = .ok (.invokevirtual 141, 3) := by decide +kernel
theorem d_W_law_1114 : decode code 1114 = .ok (.if_icmp .eq 18, 3) := by decide +kernel
theorem d_W_law_1117 : decode code 1117 = .ok (.iconst 0, 1) := by decide +kernel
theorem d_W_law_1118 : decode code 1118 = .ok (.ireturn, 1) := by decide +kernel
theorem d_W_law_1119 : decode code 1119 = .ok (.aload_n 1, 1) := by decide +kernel
theorem d_W_law_1120 : decode code 1120 = .ok (.invokevirtual 142, 3) := by decide +kernel
theorem d_W_law_1123 : decode code 1123 = .ok (.aload_n 2, 1) := by decide +kernel
theorem d_W_law_1124 : decode code 1124 = .ok (.invokevirtual 145, 3) := by decide +kernel
theorem d_W_law_1127 : decode code 1127 = .ok (.if_icmp .eq 5, 3) := by decide +kernel
theorem d_W_law_1130 : decode code 1130 = .ok (.iconst 0, 1) := by decide +kernel
theorem d_W_law_1131 : decode code 1131 = .ok (.ireturn, 1) := by decide +kernel
theorem d_W_law_1132 : decode code 1132 = .ok (.iinc 3 6, 3) := by decide +kernel
theorem d_W_law_1135 : decode code 1135 = .ok (.goto (-1117), 3) := by decide +kernel
theorem d_W_law_1138 : decode code 1138 = .ok (.iconst 1, 1) := by decide +kernel
theorem d_W_law_1139 : decode code 1139 = .ok (.ireturn, 1) := by decide +kernel
theorem d_X_answer_0 : decode b_X_answer 0 = .ok (.aload_n 0, 1) := by decide +kernel
theorem d_X_answer_1 : decode b_X_answer 1 = .ok (.getfield 25, 3) := by decide +kernel
theorem d_X_answer_4 : decode b_X_answer 4 = .ok (.iload_n 1, 1) := by decide +kernel
theorem d_X_answer_5 : decode b_X_answer 5 = .ok (.invokevirtual 152, 3) := by decide +kernel
theorem d_X_answer_8 : decode b_X_answer 8 = .ok (.ifCond .ne 6, 3) := by decide +kernel
theorem d_X_answer_11 : decode b_X_answer 11 = .ok (.ldc 66, 2) := by decide +kernel
theorem d_X_answer_13 : decode b_X_answer 13 = .ok (.ireturn, 1) := by decide +kernel
theorem d_X_answer_14 : decode b_X_answer 14 = .ok (.aload_n 0, 1) := by decide +kernel
theorem d_X_answer_15 : decode b_X_answer 15 = .ok (.getfield 25, 3) := by decide +kernel
theorem d_X_answer_18 : decode b_X_answer 18 = .ok (.iload_n 1, 1) := by decide +kernel
theorem d_X_answer_19 : decode b_X_answer 19 = .ok (.invokevirtual 155, 3) := by decide +kernel
theorem d_X_answer_22 : decode b_X_answer 22 = .ok (.ifCond .ne 6, 3) := by decide +kernel
theorem d_X_answer_25 : decode b_X_answer 25 = .ok (.ldc 138, 2) := by decide +kernel
theorem d_X_answer_27 : decode b_X_answer 27 = .ok (.ireturn, 1) := by decide +kernel
theorem d_X_answer_28 : decode b_X_answer 28 = .ok (.aload_n 0, 1) := by decide +kernel
theorem d_X_answer_29 : decode b_X_answer 29 = .ok (.getfield 39, 3) := by decide +kernel
theorem d_X_answer_32 : decode b_X_answer 32 = .ok (.aload_n 0, 1) := by decide +kernel
theorem d_X_answer_33 : decode b_X_answer 33 = .ok (.getfield 25, 3) := by decide +kernel
theorem d_X_answer_36 : decode b_X_answer 36 = .ok (.invokevirtual 142, 3) := by decide +kernel
theorem d_X_answer_39 : decode b_X_answer 39 = .ok (.aload_n 0, 1) := by decide +kernel
theorem d_X_answer_40 : decode b_X_answer 40 = .ok (.getfield 25, 3) := by decide +kernel
theorem d_X_answer_43 : decode b_X_answer 43 = .ok (.iload_n 1, 1) := by decide +kernel
theorem d_X_answer_44 : decode b_X_answer 44 = .ok (.invokevirtual 158, 3) := by decide +kernel
theorem d_X_answer_47 : decode b_X_answer 47 = .ok (.aload_n 0, 1) := by decide +kernel
theorem d_X_answer_48 : decode b_X_answer 48 = .ok (.getfield 25, 3) := by decide +kernel
theorem d_X_answer_51 : decode b_X_answer 51 = .ok (.getfield 162, 3) := by decide +kernel
theorem d_X_answer_54 : decode b_X_answer 54 = .ok (.ireturn, 1) := by decide +kernel
theorem d_X_as_0 : decode b_X_as 0 = .ok (.aload_n 0, 1) := by decide +kernel
theorem d_X_as_1 : decode b_X_as 1 = .ok (.getfield 25, 3) := by decide +kernel
theorem d_X_as_4 : decode b_X_as 4 = .ok (.iload_n 1, 1) := by decide +kernel
theorem d_X_as_5 : decode b_X_as 5 = .ok (.invokevirtual 152, 3) := by decide +kernel
theorem d_X_as_8 : decode b_X_as 8 = .ok (.ifCond .eq 12, 3) := by decide +kernel
theorem d_X_as_11 : decode b_X_as 11 = .ok (.iload_n 2, 1) := by decide +kernel
theorem d_X_as_12 : decode b_X_as 12 = .ok (.iconst 0, 1) := by decide +kernel
theorem d_X_as_13 : decode b_X_as 13 = .ok (.iconst 5, 1) := by decide +kernel
theorem d_X_as_14 : decode b_X_as 14 = .ok (.invokestatic 62, 3) := by decide +kernel
theorem d_X_as_17 : decode b_X_as 17 = .ok (.ifCond .ne 6, 3) := by decide +kernel
theorem d_X_as_20 : decode b_X_as 20 = .ok (.ldc 66, 2) := by decide +kernel
theorem d_X_as_22 : decode b_X_as 22 = .ok (.ireturn, 1) := by decide +kernel
theorem d_X_as_23 : decode b_X_as 23 = .ok (.aload_n 0, 1) := by decide +kernel
theorem d_X_as_24 : decode b_X_as 24 = .ok (.getfield 25, 3) := by decide +kernel
theorem d_X_as_27 : decode b_X_as 27 = .ok (.getfield 171, 3) := by decide +kernel
theorem d_X_as_30 : decode b_X_as 30 = .ok (.iload_n 1, 1) := by decide +kernel
theorem d_X_as_31 : decode b_X_as 31 = .ok (.aaload, 1) := by decide +kernel
theorem d_X_as_32 : decode b_X_as 32 = .ok (.getfield 277, 3) := by decide +kernel
theorem d_X_as_35 : decode b_X_as 35 = .ok (.iload_n 2, 1) := by decide +kernel
theorem d_X_as_36 : decode b_X_as 36 = .ok (.invokestatic 280, 3) := by decide +kernel
theorem d_X_as_39 : decode b_X_as 39 = .ok (.ifCond .eq 11, 3) := by decide +kernel
theorem d_X_as_42 : decode b_X_as 42 = .ok (.aload_n 0, 1) := by decide +kernel
theorem d_X_as_43 : decode b_X_as 43 = .ok (.iload_n 1, 1) := by decide +kernel
theorem d_X_as_44 : decode b_X_as 44 = .ok (.invokevirtual 75, 3) := by decide +kernel
theorem d_X_as_47 : decode b_X_as 47 = .ok (.goto 8, 3) := by decide +kernel
theorem d_X_as_50 : decode b_X_as 50 = .ok (.aload_n 0, 1) := by decide +kernel
theorem d_X_as_51 : decode b_X_as 51 = .ok (.iconst 3, 1) := by decide +kernel
theorem d_X_as_52 : decode b_X_as 52 = .ok (.invokevirtual 67, 3) := by decide +kernel
theorem d_X_as_55 : decode b_X_as 55 = .ok (.ireturn, 1) := by decide +kernel
theorem d_X_ask_0 : decode b_X_ask 0 = .ok (.aload_n 0, 1) := by decide +kernel
theorem d_X_ask_1 : decode b_X_ask 1 = .ok (.getfield 25, 3) := by decide +kernel
theorem d_X_ask_4 : decode b_X_ask 4 = .ok (.iload_n 1, 1) := by decide +kernel
theorem d_X_ask_5 : decode b_X_ask 5 = .ok (.invokevirtual 152, 3) := by decide +kernel
theorem d_X_ask_8 : decode b_X_ask 8 = .ok (.ifCond .eq 12, 3) := by decide +kernel
theorem d_X_ask_11 : decode b_X_ask 11 = .ok (.iload_n 2, 1) := by decide +kernel
theorem d_X_ask_12 : decode b_X_ask 12 = .ok (.iconst 0, 1) := by decide +kernel
theorem d_X_ask_13 : decode b_X_ask 13 = .ok (.iconst 1, 1) := by decide +kernel
theorem d_X_ask_14 : decode b_X_ask 14 = .ok (.invokestatic 62, 3) := by decide +kernel
theorem d_X_ask_17 : decode b_X_ask 17 = .ok (.ifCond .ne 6, 3) := by decide +kernel
theorem d_X_ask_20 : decode b_X_ask 20 = .ok (.ldc 66, 2) := by decide +kernel
theorem d_X_ask_22 : decode b_X_ask 22 = .ok (.ireturn, 1) := by decide +kernel
theorem d_X_ask_23 : decode b_X_ask 23 = .ok (.aload_n 0, 1) := by decide +kernel
theorem d_X_ask_24 : decode b_X_ask 24 = .ok (.getfield 53, 3) := by decide +kernel
theorem d_X_ask_27 : decode b_X_ask 27 = .ok (.iconst 0, 1) := by decide +kernel
theorem d_X_ask_28 : decode b_X_ask 28 = .ok (.putfield 283, 3) := by decide +kernel
theorem d_X_ask_31 : decode b_X_ask 31 = .ok (.aload_n 0, 1) := by decide +kernel
theorem d_X_ask_32 : decode b_X_ask 32 = .ok (.getfield 25, 3) := by decide +kernel
theorem d_X_ask_35 : decode b_X_ask 35 = .ok (.getfield 171, 3) := by decide +kernel
theorem d_X_ask_38 : decode b_X_ask 38 = .ok (.iload_n 1, 1) := by decide +kernel
theorem d_X_ask_39 : decode b_X_ask 39 = .ok (.aaload, 1) := by decide +kernel
theorem d_X_ask_40 : decode b_X_ask 40 = .ok (.astore_n 3, 1) := by decide +kernel
theorem d_X_ask_41 : decode b_X_ask 41 = .ok (.aload_n 0, 1) := by decide +kernel
theorem d_X_ask_42 : decode b_X_ask 42 = .ok (.getfield 53, 3) := by decide +kernel
theorem d_X_ask_45 : decode b_X_ask 45 = .ok (.iload_n 2, 1) := by decide +kernel
theorem d_X_ask_46 : decode b_X_ask 46 = .ok (.aload_n 3, 1) := by decide +kernel
theorem d_X_ask_47 : decode b_X_ask 47 = .ok (.getfield 277, 3) := by decide +kernel
theorem d_X_ask_50 : decode b_X_ask 50 = .ok (.invokestatic 284, 3) := by decide +kernel
theorem d_X_ask_53 : decode b_X_ask 53 = .ok (.aload_n 3, 1) := by decide +kernel
theorem d_X_ask_54 : decode b_X_ask 54 = .ok (.iload_n 1, 1) := by decide +kernel
theorem d_X_ask_55 : decode b_X_ask 55 = .ok (.iconst 0, 1) := by decide +kernel
theorem d_X_ask_56 : decode b_X_ask 56 = .ok (.invokestatic 287, 3) := by decide +kernel
theorem d_X_ask_59 : decode b_X_ask 59 = .ok (.ireturn, 1) := by decide +kernel
theorem d_X_begin_0 : decode b_X_begin 0 = .ok (.iload 4, 2) := by decide +kernel
theorem d_X_begin_2 : decode b_X_begin 2 = .ok (.bipush 16, 2) := by decide +kernel
theorem d_X_begin_4 : decode b_X_begin 4 = .ok (.if_icmp .le 5, 3) := by decide +kernel
theorem d_X_begin_7 : decode b_X_begin 7 = .ok (.iconst 0, 1) := by decide +kernel
theorem d_X_begin_8 : decode b_X_begin 8 = .ok (.ireturn, 1) := by decide +kernel
theorem d_X_begin_9 : decode b_X_begin 9 = .ok (.aload_n 0, 1) := by decide +kernel
theorem d_X_begin_10 : decode b_X_begin 10 = .ok (.iload_n 1, 1) := by decide +kernel
theorem d_X_begin_11 : decode b_X_begin 11 = .ok (.invokevirtual 319, 3) := by decide +kernel
theorem d_X_begin_14 : decode b_X_begin 14 = .ok (.iload 4, 2) := by decide +kernel
theorem d_X_begin_16 : decode b_X_begin 16 = .ok (.iconst 1, 1) := by decide +kernel
theorem d_X_begin_17 : decode b_X_begin 17 = .ok (.iadd, 1) := by decide +kernel
theorem d_X_begin_18 : decode b_X_begin 18 = .ok (.istore 5, 2) := by decide +kernel
theorem d_X_begin_20 : decode b_X_begin 20 = .ok (.iload_n 1, 1) := by decide +kernel
theorem d_X_begin_21 : decode b_X_begin 21 = .ok (.tableswitch 221 10 24 #[75, 80, 108, 120, 134, 221, 221, 221, 221, 221, 147, 149, 165, 180, 208], 75) := by decide +kernel
theorem d_X_begin_96 : decode b_X_begin 96 = .ok (.aload_n 2, 1) := by decide +kernel
theorem d_X_begin_97 : decode b_X_begin 97 = .ok (.getfield 186, 3) := by decide +kernel
theorem d_X_begin_100 : decode b_X_begin 100 = .ok (.ireturn, 1) := by decide +kernel
theorem d_X_begin_101 : decode b_X_begin 101 = .ok (.aload_n 0, 1) := by decide +kernel
theorem d_X_begin_102 : decode b_X_begin 102 = .ok (.bipush 10, 2) := by decide +kernel
theorem d_X_begin_104 : decode b_X_begin 104 = .ok (.aload_n 2, 1) := by decide +kernel
theorem d_X_begin_105 : decode b_X_begin 105 = .ok (.iload_n 3, 1) := by decide +kernel
theorem d_X_begin_106 : decode b_X_begin 106 = .ok (.iload 5, 2) := by decide +kernel
theorem d_X_begin_108 : decode b_X_begin 108 = .ok (.invokestatic 287, 3) := by decide +kernel
theorem d_X_begin_111 : decode b_X_begin 111 = .ok (.aload_n 0, 1) := by decide +kernel
theorem d_X_begin_112 : decode b_X_begin 112 = .ok (.iconst 1, 1) := by decide +kernel
theorem d_X_begin_113 : decode b_X_begin 113 = .ok (.aload_n 2, 1) := by decide +kernel
theorem d_X_begin_114 : decode b_X_begin 114 = .ok (.getfield 277, 3) := by decide +kernel
theorem d_X_begin_117 : decode b_X_begin 117 = .ok (.invokestatic 284, 3) := by decide +kernel
theorem d_X_begin_120 : decode b_X_begin 120 = .ok (.aload_n 2, 1) := by decide +kernel
theorem d_X_begin_121 : decode b_X_begin 121 = .ok (.iload_n 3, 1) := by decide +kernel
theorem d_X_begin_122 : decode b_X_begin 122 = .ok (.iload 5, 2) := by decide +kernel
theorem d_X_begin_124 : decode b_X_begin 124 = .ok (.invokestatic 287, 3) := by decide +kernel
theorem d_X_begin_127 : decode b_X_begin 127 = .ok (.iadd, 1) := by decide +kernel
theorem d_X_begin_128 : decode b_X_begin 128 = .ok (.ireturn, 1) := by decide +kernel
theorem d_X_begin_129 : decode b_X_begin 129 = .ok (.aload_n 0, 1) := by decide +kernel
theorem d_X_begin_130 : decode b_X_begin 130 = .ok (.bipush 11, 2) := by decide +kernel
theorem d_X_begin_132 : decode b_X_begin 132 = .ok (.aload_n 2, 1) := by decide +kernel
theorem d_X_begin_133 : decode b_X_begin 133 = .ok (.iload_n 3, 1) := by decide +kernel
theorem d_X_begin_134 : decode b_X_begin 134 = .ok (.iload 5, 2) := by decide +kernel
theorem d_X_begin_136 : decode b_X_begin 136 = .ok (.invokestatic 287, 3) := by decide +kernel
theorem d_X_begin_139 : decode b_X_begin 139 = .ok (.ineg, 1) := by decide +kernel
theorem d_X_begin_140 : decode b_X_begin 140 = .ok (.ireturn, 1) := by decide +kernel
theorem d_X_begin_141 : decode b_X_begin 141 = .ok (.aload_n 0, 1) := by decide +kernel
theorem d_X_begin_142 : decode b_X_begin 142 = .ok (.bipush 10, 2) := by decide +kernel
theorem d_X_begin_144 : decode b_X_begin 144 = .ok (.aload_n 2, 1) := by decide +kernel
theorem d_X_begin_145 : decode b_X_begin 145 = .ok (.iload_n 3, 1) := by decide +kernel
theorem d_X_begin_146 : decode b_X_begin 146 = .ok (.iload 5, 2) := by decide +kernel
theorem d_X_begin_148 : decode b_X_begin 148 = .ok (.invokestatic 287, 3) := by decide +kernel
theorem d_X_begin_151 : decode b_X_begin 151 = .ok (.bipush 100, 2) := by decide +kernel
theorem d_X_begin_153 : decode b_X_begin 153 = .ok (.isub, 1) := by decide +kernel
theorem d_X_begin_154 : decode b_X_begin 154 = .ok (.ireturn, 1) := by decide +kernel
theorem d_X_begin_155 : decode b_X_begin 155 = .ok (.iconst 2, 1) := by decide +kernel
theorem d_X_begin_156 : decode b_X_begin 156 = .ok (.aload_n 0, 1) := by decide +kernel
theorem d_X_begin_157 : decode b_X_begin 157 = .ok (.bipush 13, 2) := by decide +kernel
theorem d_X_begin_159 : decode b_X_begin 159 = .ok (.aload_n 2, 1) := by decide +kernel
theorem d_X_begin_160 : decode b_X_begin 160 = .ok (.iload_n 3, 1) := by decide +kernel
theorem d_X_begin_161 : decode b_X_begin 161 = .ok (.iload 5, 2) := by decide +kernel
theorem d_X_begin_163 : decode b_X_begin 163 = .ok (.invokestatic 287, 3) := by decide +kernel
theorem d_X_begin_166 : decode b_X_begin 166 = .ok (.imul, 1) := by decide +kernel
theorem d_X_begin_167 : decode b_X_begin 167 = .ok (.ireturn, 1) := by decide +kernel
theorem d_X_begin_168 : decode b_X_begin 168 = .ok (.iload_n 3, 1) := by decide +kernel
theorem d_X_begin_169 : decode b_X_begin 169 = .ok (.ireturn, 1) := by decide +kernel
theorem d_X_begin_170 : decode b_X_begin 170 = .ok (.aload_n 0, 1) := by decide +kernel
theorem d_X_begin_171 : decode b_X_begin 171 = .ok (.bipush 20, 2) := by decide +kernel
theorem d_X_begin_173 : decode b_X_begin 173 = .ok (.aload_n 2, 1) := by decide +kernel
theorem d_X_begin_174 : decode b_X_begin 174 = .ok (.iload_n 3, 1) := by decide +kernel
theorem d_X_begin_175 : decode b_X_begin 175 = .ok (.iload 5, 2) := by decide +kernel
theorem d_X_begin_177 : decode b_X_begin 177 = .ok (.invokestatic 287, 3) := by decide +kernel
theorem d_X_begin_180 : decode b_X_begin 180 = .ok (.aload_n 2, 1) := by decide +kernel
theorem d_X_begin_181 : decode b_X_begin 181 = .ok (.getfield 192, 3) := by decide +kernel
theorem d_X_begin_184 : decode b_X_begin 184 = .ok (.iadd, 1) := by decide +kernel
theorem d_X_begin_185 : decode b_X_begin 185 = .ok (.ireturn, 1) := by decide +kernel
theorem d_X_begin_186 : decode b_X_begin 186 = .ok (.aload_n 0, 1) := by decide +kernel
theorem d_X_begin_187 : decode b_X_begin 187 = .ok (.bipush 21, 2) := by decide +kernel
theorem d_X_begin_189 : decode b_X_begin 189 = .ok (.aload_n 2, 1) := by decide +kernel
theorem d_X_begin_190 : decode b_X_begin 190 = .ok (.iload_n 3, 1) := by decide +kernel
theorem d_X_begin_191 : decode b_X_begin 191 = .ok (.iload 5, 2) := by decide +kernel
theorem d_X_begin_193 : decode b_X_begin 193 = .ok (.invokestatic 287, 3) := by decide +kernel
theorem d_X_begin_196 : decode b_X_begin 196 = .ok (.sipush 1000, 3) := by decide +kernel
theorem d_X_begin_199 : decode b_X_begin 199 = .ok (.isub, 1) := by decide +kernel
theorem d_X_begin_200 : decode b_X_begin 200 = .ok (.ireturn, 1) := by decide +kernel
theorem d_X_begin_201 : decode b_X_begin 201 = .ok (.aload_n 0, 1) := by decide +kernel
theorem d_X_begin_202 : decode b_X_begin 202 = .ok (.bipush 20, 2) := by decide +kernel
theorem d_X_begin_204 : decode b_X_begin 204 = .ok (.aload_n 2, 1) := by decide +kernel
theorem d_X_begin_205 : decode b_X_begin 205 = .ok (.iload_n 3, 1) := by decide +kernel
theorem d_X_begin_206 : decode b_X_begin 206 = .ok (.iload 5, 2) := by decide +kernel
theorem d_X_begin_208 : decode b_X_begin 208 = .ok (.invokestatic 287, 3) := by decide +kernel
theorem d_X_begin_211 : decode b_X_begin 211 = .ok (.aload_n 0, 1) := by decide +kernel
theorem d_X_begin_212 : decode b_X_begin 212 = .ok (.iconst 0, 1) := by decide +kernel
theorem d_X_begin_213 : decode b_X_begin 213 = .ok (.aload_n 2, 1) := by decide +kernel
theorem d_X_begin_214 : decode b_X_begin 214 = .ok (.getfield 277, 3) := by decide +kernel
theorem d_X_begin_217 : decode b_X_begin 217 = .ok (.invokestatic 284, 3) := by decide +kernel
theorem d_X_begin_220 : decode b_X_begin 220 = .ok (.aload_n 2, 1) := by decide +kernel
theorem d_X_begin_221 : decode b_X_begin 221 = .ok (.iload_n 3, 1) := by decide +kernel
theorem d_X_begin_222 : decode b_X_begin 222 = .ok (.iload 5, 2) := by decide +kernel
theorem d_X_begin_224 : decode b_X_begin 224 = .ok (.invokestatic 287, 3) := by decide +kernel
theorem d_X_begin_227 : decode b_X_begin 227 = .ok (.isub, 1) := by decide +kernel
theorem d_X_begin_228 : decode b_X_begin 228 = .ok (.ireturn, 1) := by decide +kernel
theorem d_X_begin_229 : decode b_X_begin 229 = .ok (.iconst 2, 1) := by decide +kernel
theorem d_X_begin_230 : decode b_X_begin 230 = .ok (.aload_n 0, 1) := by decide +kernel
theorem d_X_begin_231 : decode b_X_begin 231 = .ok (.bipush 21, 2) := by decide +kernel
theorem d_X_begin_233 : decode b_X_begin 233 = .ok (.aload_n 2, 1) := by decide +kernel
theorem d_X_begin_234 : decode b_X_begin 234 = .ok (.iload_n 3, 1) := by decide +kernel
theorem d_X_begin_235 : decode b_X_begin 235 = .ok (.iload 5, 2) := by decide +kernel
theorem d_X_begin_237 : decode b_X_begin 237 = .ok (.invokestatic 287, 3) := by decide +kernel
theorem d_X_begin_240 : decode b_X_begin 240 = .ok (.imul, 1) := by decide +kernel
theorem d_X_begin_241 : decode b_X_begin 241 = .ok (.ireturn, 1) := by decide +kernel
theorem d_X_begin_242 : decode b_X_begin 242 = .ok (.iconst 0, 1) := by decide +kernel
theorem d_X_begin_243 : decode b_X_begin 243 = .ok (.ireturn, 1) := by decide +kernel
theorem d_X_behind_0 : decode b_X_behind 0 = .ok (.aload_n 0, 1) := by decide +kernel
theorem d_X_behind_1 : decode b_X_behind 1 = .ok (.iload_n 1, 1) := by decide +kernel
theorem d_X_behind_2 : decode b_X_behind 2 = .ok (.iconst 0, 1) := by decide +kernel
theorem d_X_behind_3 : decode b_X_behind 3 = .ok (.bipush 60, 2) := by decide +kernel
theorem d_X_behind_5 : decode b_X_behind 5 = .ok (.invokestatic 62, 3) := by decide +kernel
theorem d_X_behind_8 : decode b_X_behind 8 = .ok (.invokevirtual 198, 3) := by decide +kernel
theorem d_X_behind_11 : decode b_X_behind 11 = .ok (.istore_n 2, 1) := by decide +kernel
theorem d_X_behind_12 : decode b_X_behind 12 = .ok (.iload_n 2, 1) := by decide +kernel
theorem d_X_behind_13 : decode b_X_behind 13 = .ok (.ifCond .eq 7, 3) := by decide +kernel
theorem d_X_behind_16 : decode b_X_behind 16 = .ok (.iload_n 2, 1) := by decide +kernel
theorem d_X_behind_17 : decode b_X_behind 17 = .ok (.goto 11, 3) := by decide +kernel
theorem d_X_behind_20 : decode b_X_behind 20 = .ok (.aload_n 0, 1) := by decide +kernel
theorem d_X_behind_21 : decode b_X_behind 21 = .ok (.iload_n 1, 1) := by decide +kernel
theorem d_X_behind_22 : decode b_X_behind 22 = .ok (.invokevirtual 202, 3) := by decide +kernel
theorem d_X_behind_25 : decode b_X_behind 25 = .ok (.getfield 149, 3) := by decide +kernel
theorem d_X_behind_28 : decode b_X_behind 28 = .ok (.ireturn, 1) := by decide +kernel
theorem d_X_bodyOf_0 : decode b_X_bodyOf 0 = .ok (.iload_n 1, 1) := by decide +kernel
theorem d_X_bodyOf_1 : decode b_X_bodyOf 1 = .ok (.iconst 0, 1) := by decide +kernel
theorem d_X_bodyOf_2 : decode b_X_bodyOf 2 = .ok (.iconst 5, 1) := by decide +kernel
theorem d_X_bodyOf_3 : decode b_X_bodyOf 3 = .ok (.invokestatic 62, 3) := by decide +kernel
theorem d_X_bodyOf_6 : decode b_X_bodyOf 6 = .ok (.ifCond .eq 7, 3) := by decide +kernel
theorem d_X_bodyOf_9 : decode b_X_bodyOf 9 = .ok (.iload_n 1, 1) := by decide +kernel
theorem d_X_bodyOf_10 : decode b_X_bodyOf 10 = .ok (.goto 4, 3) := by decide +kernel
theorem d_X_bodyOf_13 : decode b_X_bodyOf 13 = .ok (.iconst 0, 1) := by decide +kernel
theorem d_X_bodyOf_14 : decode b_X_bodyOf 14 = .ok (.istore_n 2, 1) := by decide +kernel
theorem d_X_bodyOf_15 : decode b_X_bodyOf 15 = .ok (.iload_n 0, 1) := by decide +kernel
theorem d_X_bodyOf_16 : decode b_X_bodyOf 16 = .ok (.ifCond .ne 11, 3) := by decide +kernel
theorem d_X_bodyOf_19 : decode b_X_bodyOf 19 = .ok (.getstatic 313, 3) := by decide +kernel
theorem d_X_bodyOf_22 : decode b_X_bodyOf 22 = .ok (.iload_n 2, 1) := by decide +kernel
theorem d_X_bodyOf_23 : decode b_X_bodyOf 23 = .ok (.iaload, 1) := by decide +kernel
theorem d_X_bodyOf_24 : decode b_X_bodyOf 24 = .ok (.goto 8, 3) := by decide +kernel
theorem d_X_bodyOf_27 : decode b_X_bodyOf 27 = .ok (.getstatic 316, 3) := by decide +kernel
theorem d_X_bodyOf_30 : decode b_X_bodyOf 30 = .ok (.iload_n 2, 1) := by decide +kernel
theorem d_X_bodyOf_31 : decode b_X_bodyOf 31 = .ok (.iaload, 1) := by decide +kernel
theorem d_X_bodyOf_32 : decode b_X_bodyOf 32 = .ok (.ireturn, 1) := by decide +kernel
theorem d_X_burden_0 : decode b_X_burden 0 = .ok (.aload_n 0, 1) := by decide +kernel
theorem d_X_burden_1 : decode b_X_burden 1 = .ok (.iload_n 1, 1) := by decide +kernel
theorem d_X_burden_2 : decode b_X_burden 2 = .ok (.iconst 0, 1) := by decide +kernel
theorem d_X_burden_3 : decode b_X_burden 3 = .ok (.bipush 60, 2) := by decide +kernel
theorem d_X_burden_5 : decode b_X_burden 5 = .ok (.invokestatic 62, 3) := by decide +kernel
theorem d_X_burden_8 : decode b_X_burden 8 = .ok (.invokevirtual 198, 3) := by decide +kernel
theorem d_X_burden_11 : decode b_X_burden 11 = .ok (.istore_n 2, 1) := by decide +kernel
theorem d_X_burden_12 : decode b_X_burden 12 = .ok (.iload_n 2, 1) := by decide +kernel
theorem d_X_burden_13 : decode b_X_burden 13 = .ok (.ifCond .eq 7, 3) := by decide +kernel
theorem d_X_burden_16 : decode b_X_burden 16 = .ok (.iload_n 2, 1) := by decide +kernel
theorem d_X_burden_17 : decode b_X_burden 17 = .ok (.goto 11, 3) := by decide +kernel
theorem d_X_burden_20 : decode b_X_burden 20 = .ok (.aload_n 0, 1) := by decide +kernel
theorem d_X_burden_21 : decode b_X_burden 21 = .ok (.iload_n 1, 1) := by decide +kernel
theorem d_X_burden_22 : decode b_X_burden 22 = .ok (.invokevirtual 202, 3) := by decide +kernel
theorem d_X_burden_25 : decode b_X_burden 25 = .ok (.invokevirtual 206, 3) := by decide +kernel
theorem d_X_burden_28 : decode b_X_burden 28 = .ok (.ireturn, 1) := by decide +kernel
theorem d_X_copy_0 : decode b_X_copy 0 = .ok (.iload_n 1, 1) := by decide +kernel
theorem d_X_copy_1 : decode b_X_copy 1 = .ok (.invokestatic 58, 3) := by decide +kernel
theorem d_X_copy_4 : decode b_X_copy 4 = .ok (.ifCond .eq 10, 3) := by decide +kernel
theorem d_X_copy_7 : decode b_X_copy 7 = .ok (.iload_n 3, 1) := by decide +kernel
theorem d_X_copy_8 : decode b_X_copy 8 = .ok (.invokestatic 58, 3) := by decide +kernel
theorem d_X_copy_11 : decode b_X_copy 11 = .ok (.ifCond .ne 6, 3) := by decide +kernel
theorem d_X_copy_14 : decode b_X_copy 14 = .ok (.ldc 66, 2) := by decide +kernel
theorem d_X_copy_16 : decode b_X_copy 16 = .ok (.ireturn, 1) := by decide +kernel
theorem d_X_copy_17 : decode b_X_copy 17 = .ok (.aload_n 0, 1) := by decide +kernel
theorem d_X_copy_18 : decode b_X_copy 18 = .ok (.getfield 11, 3) := by decide +kernel
theorem d_X_copy_21 : decode b_X_copy 21 = .ok (.iload_n 1, 1) := by decide +kernel
theorem d_X_copy_22 : decode b_X_copy 22 = .ok (.aaload, 1) := by decide +kernel
theorem d_X_copy_23 : decode b_X_copy 23 = .ok (.astore 6, 2) := by decide +kernel
theorem d_X_copy_25 : decode b_X_copy 25 = .ok (.aload_n 0, 1) := by decide +kernel
theorem d_X_copy_26 : decode b_X_copy 26 = .ok (.getfield 11, 3) := by decide +kernel
theorem d_X_copy_29 : decode b_X_copy 29 = .ok (.iload_n 3, 1) := by decide +kernel
theorem d_X_copy_30 : decode b_X_copy 30 = .ok (.aaload, 1) := by decide +kernel
theorem d_X_copy_31 : decode b_X_copy 31 = .ok (.astore 7, 2) := by decide +kernel
theorem d_X_copy_33 : decode b_X_copy 33 = .ok (.aload 6, 2) := by decide +kernel
theorem d_X_copy_35 : decode b_X_copy 35 = .ok (.getfield 78, 3) := by decide +kernel
theorem d_X_copy_38 : decode b_X_copy 38 = .ok (.ifCond .ne 11, 3) := by decide +kernel
theorem d_X_copy_41 : decode b_X_copy 41 = .ok (.aload 7, 2) := by decide +kernel
theorem d_X_copy_43 : decode b_X_copy 43 = .ok (.getfield 78, 3) := by decide +kernel
theorem d_X_copy_46 : decode b_X_copy 46 = .ok (.ifCond .eq 9, 3) := by decide +kernel
theorem d_X_copy_49 : decode b_X_copy 49 = .ok (.aload_n 0, 1) := by decide +kernel
theorem d_X_copy_50 : decode b_X_copy 50 = .ok (.iconst 1, 1) := by decide +kernel
theorem d_X_copy_51 : decode b_X_copy 51 = .ok (.invokevirtual 67, 3) := by decide +kernel
theorem d_X_copy_54 : decode b_X_copy 54 = .ok (.ireturn, 1) := by decide +kernel
theorem d_X_copy_55 : decode b_X_copy 55 = .ok (.aload 6, 2) := by decide +kernel
theorem d_X_copy_57 : decode b_X_copy 57 = .ok (.getfield 90, 3) := by decide +kernel
theorem d_X_copy_60 : decode b_X_copy 60 = .ok (.aload 7, 2) := by decide +kernel
theorem d_X_copy_62 : decode b_X_copy 62 = .ok (.getfield 90, 3) := by decide +kernel
theorem d_X_copy_65 : decode b_X_copy 65 = .ok (.if_icmp .eq 9, 3) := by decide +kernel
theorem d_X_copy_68 : decode b_X_copy 68 = .ok (.aload_n 0, 1) := by decide +kernel
theorem d_X_copy_69 : decode b_X_copy 69 = .ok (.iconst 5, 1) := by decide +kernel
theorem d_X_copy_70 : decode b_X_copy 70 = .ok (.invokevirtual 67, 3) := by decide +kernel
theorem d_X_copy_73 : decode b_X_copy 73 = .ok (.ireturn, 1) := by decide +kernel
theorem d_X_copy_74 : decode b_X_copy 74 = .ok (.aload 6, 2) := by decide +kernel
theorem d_X_copy_76 : decode b_X_copy 76 = .ok (.iload_n 2, 1) := by decide +kernel
theorem d_X_copy_77 : decode b_X_copy 77 = .ok (.iload 5, 2) := by decide +kernel
theorem d_X_copy_79 : decode b_X_copy 79 = .ok (.invokevirtual 82, 3) := by decide +kernel
theorem d_X_copy_82 : decode b_X_copy 82 = .ok (.ifCond .eq 15, 3) := by decide +kernel
theorem d_X_copy_85 : decode b_X_copy 85 = .ok (.aload 7, 2) := by decide +kernel
theorem d_X_copy_87 : decode b_X_copy 87 = .ok (.iload 4, 2) := by decide +kernel
theorem d_X_copy_89 : decode b_X_copy 89 = .ok (.iload 5, 2) := by decide +kernel
theorem d_X_copy_91 : decode b_X_copy 91 = .ok (.invokevirtual 82, 3) := by decide +kernel
theorem d_X_copy_94 : decode b_X_copy 94 = .ok (.ifCond .ne 9, 3) := by decide +kernel
theorem d_X_copy_97 : decode b_X_copy 97 = .ok (.aload_n 0, 1) := by decide +kernel
theorem d_X_copy_98 : decode b_X_copy 98 = .ok (.iconst 2, 1) := by decide +kernel
theorem d_X_copy_99 : decode b_X_copy 99 = .ok (.invokevirtual 67, 3) := by decide +kernel
theorem d_X_copy_102 : decode b_X_copy 102 = .ok (.ireturn, 1) := by decide +kernel
theorem d_X_copy_103 : decode b_X_copy 103 = .ok (.aload 6, 2) := by decide +kernel
theorem d_X_copy_105 : decode b_X_copy 105 = .ok (.getfield 94, 3) := by decide +kernel
theorem d_X_copy_108 : decode b_X_copy 108 = .ok (.iload_n 2, 1) := by decide +kernel
theorem d_X_copy_109 : decode b_X_copy 109 = .ok (.aload 7, 2) := by decide +kernel
theorem d_X_copy_111 : decode b_X_copy 111 = .ok (.getfield 94, 3) := by decide +kernel
theorem d_X_copy_114 : decode b_X_copy 114 = .ok (.iload 4, 2) := by decide +kernel
theorem d_X_copy_116 : decode b_X_copy 116 = .ok (.iload 5, 2) := by decide +kernel
theorem d_X_copy_118 : decode b_X_copy 118 = .ok (.invokestatic 98, 3) := by decide +kernel
theorem d_X_copy_121 : decode b_X_copy 121 = .ok (.aload_n 0, 1) := by decide +kernel
theorem d_X_copy_122 : decode b_X_copy 122 = .ok (.iload 5, 2) := by decide +kernel
theorem d_X_copy_124 : decode b_X_copy 124 = .ok (.invokevirtual 75, 3) := by decide +kernel
theorem d_X_copy_127 : decode b_X_copy 127 = .ok (.ireturn, 1) := by decide +kernel
theorem d_X_count_0 : decode b_X_count 0 = .ok (.iload_n 1, 1) := by decide +kernel
theorem d_X_count_1 : decode b_X_count 1 = .ok (.tableswitch 132 0 9 #[55, 60, 68, 76, 84, 92, 100, 108, 116, 124], 55) := by decide +kernel
theorem d_X_count_56 : decode b_X_count 56 = .ok (.aload_n 0, 1) := by decide +kernel
theorem d_X_count_57 : decode b_X_count 57 = .ok (.invokevirtual 294, 3) := by decide +kernel
theorem d_X_count_60 : decode b_X_count 60 = .ok (.ireturn, 1) := by decide +kernel
theorem d_X_count_61 : decode b_X_count 61 = .ok (.aload_n 0, 1) := by decide +kernel
theorem d_X_count_62 : decode b_X_count 62 = .ok (.getfield 25, 3) := by decide +kernel
theorem d_X_count_65 : decode b_X_count 65 = .ok (.getfield 129, 3) := by decide +kernel
theorem d_X_count_68 : decode b_X_count 68 = .ok (.ireturn, 1) := by decide +kernel
theorem d_X_count_69 : decode b_X_count 69 = .ok (.aload_n 0, 1) := by decide +kernel
theorem d_X_count_70 : decode b_X_count 70 = .ok (.getfield 25, 3) := by decide +kernel
theorem d_X_count_73 : decode b_X_count 73 = .ok (.getfield 139, 3) := by decide +kernel
theorem d_X_count_76 : decode b_X_count 76 = .ok (.ireturn, 1) := by decide +kernel
theorem d_X_count_77 : decode b_X_count 77 = .ok (.aload_n 0, 1) := by decide +kernel
theorem d_X_count_78 : decode b_X_count 78 = .ok (.getfield 25, 3) := by decide +kernel
theorem d_X_count_81 : decode b_X_count 81 = .ok (.getfield 149, 3) := by decide +kernel
theorem d_X_count_84 : decode b_X_count 84 = .ok (.ireturn, 1) := by decide +kernel
theorem d_X_count_85 : decode b_X_count 85 = .ok (.aload_n 0, 1) := by decide +kernel
theorem d_X_count_86 : decode b_X_count 86 = .ok (.getfield 25, 3) := by decide +kernel
theorem d_X_count_89 : decode b_X_count 89 = .ok (.invokevirtual 168, 3) := by decide +kernel
theorem d_X_count_92 : decode b_X_count 92 = .ok (.ireturn, 1) := by decide +kernel
theorem d_X_count_93 : decode b_X_count 93 = .ok (.aload_n 0, 1) := by decide +kernel
theorem d_X_count_94 : decode b_X_count 94 = .ok (.getfield 25, 3) := by decide +kernel
theorem d_X_count_97 : decode b_X_count 97 = .ok (.getfield 209, 3) := by decide +kernel
theorem d_X_count_100 : decode b_X_count 100 = .ok (.ireturn, 1) := by decide +kernel
theorem d_X_count_101 : decode b_X_count 101 = .ok (.aload_n 0, 1) := by decide +kernel
theorem d_X_count_102 : decode b_X_count 102 = .ok (.getfield 39, 3) := by decide +kernel
theorem d_X_count_105 : decode b_X_count 105 = .ok (.getfield 183, 3) := by decide +kernel
theorem d_X_count_108 : decode b_X_count 108 = .ok (.ireturn, 1) := by decide +kernel
theorem d_X_count_109 : decode b_X_count 109 = .ok (.aload_n 0, 1) := by decide +kernel
theorem d_X_count_110 : decode b_X_count 110 = .ok (.getfield 18, 3) := by decide +kernel
theorem d_X_count_113 : decode b_X_count 113 = .ok (.getfield 110, 3) := by decide +kernel
theorem d_X_count_116 : decode b_X_count 116 = .ok (.ireturn, 1) := by decide +kernel
theorem d_X_count_117 : decode b_X_count 117 = .ok (.aload_n 0, 1) := by decide +kernel
theorem d_X_count_118 : decode b_X_count 118 = .ok (.getfield 25, 3) := by decide +kernel
theorem d_X_count_121 : decode b_X_count 121 = .ok (.getfield 162, 3) := by decide +kernel
theorem d_X_count_124 : decode b_X_count 124 = .ok (.ireturn, 1) := by decide +kernel
theorem d_X_count_125 : decode b_X_count 125 = .ok (.aload_n 0, 1) := by decide +kernel
theorem d_X_count_126 : decode b_X_count 126 = .ok (.getfield 25, 3) := by decide +kernel
theorem d_X_count_129 : decode b_X_count 129 = .ok (.getfield 297, 3) := by decide +kernel
theorem d_X_count_132 : decode b_X_count 132 = .ok (.ireturn, 1) := by decide +kernel
theorem d_X_count_133 : decode b_X_count 133 = .ok (.ldc 66, 2) := by decide +kernel
theorem d_X_count_135 : decode b_X_count 135 = .ok (.ireturn, 1) := by decide +kernel
theorem d_X_days_0 : decode b_X_days 0 = .ok (.aload_n 0, 1) := by decide +kernel
theorem d_X_days_1 : decode b_X_days 1 = .ok (.getfield 25, 3) := by decide +kernel
theorem d_X_days_4 : decode b_X_days 4 = .ok (.getfield 135, 3) := by decide +kernel
theorem d_X_days_7 : decode b_X_days 7 = .ok (.ifCond .ne 6, 3) := by decide +kernel
theorem d_X_days_10 : decode b_X_days 10 = .ok (.ldc 138, 2) := by decide +kernel
theorem d_X_days_12 : decode b_X_days 12 = .ok (.ireturn, 1) := by decide +kernel
theorem d_X_days_13 : decode b_X_days 13 = .ok (.iload_n 1, 1) := by decide +kernel
theorem d_X_days_14 : decode b_X_days 14 = .ok (.iconst 1, 1) := by decide +kernel
theorem d_X_days_15 : decode b_X_days 15 = .ok (.bipush 24, 2) := by decide +kernel
theorem d_X_days_17 : decode b_X_days 17 = .ok (.invokestatic 62, 3) := by decide +kernel
theorem d_X_days_20 : decode b_X_days 20 = .ok (.ifCond .ne 6, 3) := by decide +kernel
theorem d_X_days_23 : decode b_X_days 23 = .ok (.ldc 66, 2) := by decide +kernel
theorem d_X_days_25 : decode b_X_days 25 = .ok (.ireturn, 1) := by decide +kernel
theorem d_X_days_26 : decode b_X_days 26 = .ok (.aload_n 0, 1) := by decide +kernel
theorem d_X_days_27 : decode b_X_days 27 = .ok (.getfield 25, 3) := by decide +kernel
theorem d_X_days_30 : decode b_X_days 30 = .ok (.getfield 139, 3) := by decide +kernel
theorem d_X_days_33 : decode b_X_days 33 = .ok (.iload_n 1, 1) := by decide +kernel
theorem d_X_days_34 : decode b_X_days 34 = .ok (.iadd, 1) := by decide +kernel
theorem d_X_days_35 : decode b_X_days 35 = .ok (.sipush 999, 3) := by decide +kernel
theorem d_X_days_38 : decode b_X_days 38 = .ok (.if_icmp .le 6, 3) := by decide +kernel
theorem d_X_days_41 : decode b_X_days 41 = .ok (.ldc 113, 2) := by decide +kernel
theorem d_X_days_43 : decode b_X_days 43 = .ok (.ireturn, 1) := by decide +kernel
theorem d_X_days_44 : decode b_X_days 44 = .ok (.iconst 0, 1) := by decide +kernel
theorem d_X_days_45 : decode b_X_days 45 = .ok (.istore_n 2, 1) := by decide +kernel
theorem d_X_days_46 : decode b_X_days 46 = .ok (.iload_n 2, 1) := by decide +kernel
theorem d_X_days_47 : decode b_X_days 47 = .ok (.iload_n 1, 1) := by decide +kernel
theorem d_X_days_48 : decode b_X_days 48 = .ok (.if_icmp .ge 28, 3) := by decide +kernel
theorem d_X_days_51 : decode b_X_days 51 = .ok (.aload_n 0, 1) := by decide +kernel
theorem d_X_days_52 : decode b_X_days 52 = .ok (.getfield 39, 3) := by decide +kernel
theorem d_X_days_55 : decode b_X_days 55 = .ok (.aload_n 0, 1) := by decide +kernel
theorem d_X_days_56 : decode b_X_days 56 = .ok (.getfield 25, 3) := by decide +kernel
theorem d_X_days_59 : decode b_X_days 59 = .ok (.invokevirtual 142, 3) := by decide +kernel
theorem d_X_days_62 : decode b_X_days 62 = .ok (.aload_n 0, 1) := by decide +kernel
theorem d_X_days_63 : decode b_X_days 63 = .ok (.getfield 25, 3) := by decide +kernel
theorem d_X_days_66 : decode b_X_days 66 = .ok (.invokevirtual 145, 3) := by decide +kernel
theorem d_X_days_69 : decode b_X_days 69 = .ok (.pop, 1) := by decide +kernel
theorem d_X_days_70 : decode b_X_days 70 = .ok (.iinc 2 1, 3) := by decide +kernel
theorem d_X_days_73 : decode b_X_days 73 = .ok (.goto (-27), 3) := by decide +kernel
theorem d_X_days_76 : decode b_X_days 76 = .ok (.aload_n 0, 1) := by decide +kernel
theorem d_X_days_77 : decode b_X_days 77 = .ok (.getfield 25, 3) := by decide +kernel
theorem d_X_days_80 : decode b_X_days 80 = .ok (.getfield 149, 3) := by decide +kernel
theorem d_X_days_83 : decode b_X_days 83 = .ok (.ireturn, 1) := by decide +kernel
theorem d_X_drawn_0 : decode b_X_drawn 0 = .ok (.aload_n 0, 1) := by decide +kernel
theorem d_X_drawn_1 : decode b_X_drawn 1 = .ok (.iload_n 1, 1) := by decide +kernel
theorem d_X_drawn_2 : decode b_X_drawn 2 = .ok (.iconst 0, 1) := by decide +kernel
theorem d_X_drawn_3 : decode b_X_drawn 3 = .ok (.bipush 60, 2) := by decide +kernel
theorem d_X_drawn_5 : decode b_X_drawn 5 = .ok (.invokestatic 62, 3) := by decide +kernel
theorem d_X_drawn_8 : decode b_X_drawn 8 = .ok (.ifCond .eq 27, 3) := by decide +kernel
theorem d_X_drawn_11 : decode b_X_drawn 11 = .ok (.iload_n 2, 1) := by decide +kernel
theorem d_X_drawn_12 : decode b_X_drawn 12 = .ok (.iconst 1, 1) := by decide +kernel
theorem d_X_drawn_13 : decode b_X_drawn 13 = .ok (.ldc_w 268, 3) := by decide +kernel
theorem d_X_drawn_16 : decode b_X_drawn 16 = .ok (.invokestatic 62, 3) := by decide +kernel
theorem d_X_drawn_19 : decode b_X_drawn 19 = .ok (.ifCond .eq 16, 3) := by decide +kernel
theorem d_X_drawn_22 : decode b_X_drawn 22 = .ok (.iload_n 3, 1) := by decide +kernel
theorem d_X_drawn_23 : decode b_X_drawn 23 = .ok (.iconst 0, 1) := by decide +kernel
theorem d_X_drawn_24 : decode b_X_drawn 24 = .ok (.iconst 1, 1) := by decide +kernel
theorem d_X_drawn_25 : decode b_X_drawn 25 = .ok (.invokestatic 62, 3) := by decide +kernel
theorem d_X_drawn_28 : decode b_X_drawn 28 = .ok (.ifCond .eq 7, 3) := by decide +kernel
theorem d_X_drawn_31 : decode b_X_drawn 31 = .ok (.iconst 1, 1) := by decide +kernel
theorem d_X_drawn_32 : decode b_X_drawn 32 = .ok (.goto 4, 3) := by decide +kernel
theorem d_X_drawn_35 : decode b_X_drawn 35 = .ok (.iconst 0, 1) := by decide +kernel
theorem d_X_drawn_36 : decode b_X_drawn 36 = .ok (.invokevirtual 198, 3) := by decide +kernel
theorem d_X_drawn_39 : decode b_X_drawn 39 = .ok (.istore 4, 2) := by decide +kernel
theorem d_X_drawn_41 : decode b_X_drawn 41 = .ok (.iload 4, 2) := by decide +kernel
theorem d_X_drawn_43 : decode b_X_drawn 43 = .ok (.ifCond .eq 6, 3) := by decide +kernel
theorem d_X_drawn_46 : decode b_X_drawn 46 = .ok (.iload 4, 2) := by decide +kernel
theorem d_X_drawn_48 : decode b_X_drawn 48 = .ok (.ireturn, 1) := by decide +kernel
theorem d_X_drawn_49 : decode b_X_drawn 49 = .ok (.aload_n 0, 1) := by decide +kernel
theorem d_X_drawn_50 : decode b_X_drawn 50 = .ok (.getfield 29, 3) := by decide +kernel
theorem d_X_drawn_53 : decode b_X_drawn 53 = .ok (.aload_n 0, 1) := by decide +kernel
theorem d_X_drawn_54 : decode b_X_drawn 54 = .ok (.getfield 25, 3) := by decide +kernel
theorem d_X_drawn_57 : decode b_X_drawn 57 = .ok (.invokevirtual 122, 3) := by decide +kernel
theorem d_X_drawn_60 : decode b_X_drawn 60 = .ok (.iload_n 2, 1) := by decide +kernel
theorem d_X_drawn_61 : decode b_X_drawn 61 = .ok (.i2l, 1) := by decide +kernel
theorem d_X_drawn_62 : decode b_X_drawn 62 = .ok (.lstore 5, 2) := by decide +kernel
theorem d_X_drawn_64 : decode b_X_drawn 64 = .ok (.iconst 0, 1) := by decide +kernel
theorem d_X_drawn_65 : decode b_X_drawn 65 = .ok (.istore 7, 2) := by decide +kernel
theorem d_X_drawn_67 : decode b_X_drawn 67 = .ok (.iload 7, 2) := by decide +kernel
theorem d_X_drawn_69 : decode b_X_drawn 69 = .ok (.iload_n 1, 1) := by decide +kernel
theorem d_X_drawn_70 : decode b_X_drawn 70 = .ok (.if_icmp .ge 38, 3) := by decide +kernel
theorem d_X_drawn_73 : decode b_X_drawn 73 = .ok (.lload 5, 2) := by decide +kernel
theorem d_X_drawn_75 : decode b_X_drawn 75 = .ok (.ldc2_w 269, 3) := by decide +kernel
theorem d_X_drawn_78 : decode b_X_drawn 78 = .ok (.lmul, 1) := by decide +kernel
theorem d_X_drawn_79 : decode b_X_drawn 79 = .ok (.ldc2_w 271, 3) := by decide +kernel
theorem d_X_drawn_82 : decode b_X_drawn 82 = .ok (.lrem, 1) := by decide +kernel
theorem d_X_drawn_83 : decode b_X_drawn 83 = .ok (.lstore 5, 2) := by decide +kernel
theorem d_X_drawn_85 : decode b_X_drawn 85 = .ok (.aload_n 0, 1) := by decide +kernel
theorem d_X_drawn_86 : decode b_X_drawn 86 = .ok (.getfield 29, 3) := by decide +kernel
theorem d_X_drawn_89 : decode b_X_drawn 89 = .ok (.lload 5, 2) := by decide +kernel
theorem d_X_drawn_91 : decode b_X_drawn 91 = .ok (.invokevirtual 273, 3) := by decide +kernel
theorem d_X_drawn_94 : decode b_X_drawn 94 = .ok (.aload_n 0, 1) := by decide +kernel
theorem d_X_drawn_95 : decode b_X_drawn 95 = .ok (.getfield 29, 3) := by decide +kernel
theorem d_X_drawn_98 : decode b_X_drawn 98 = .ok (.invokevirtual 145, 3) := by decide +kernel
theorem d_X_drawn_101 : decode b_X_drawn 101 = .ok (.pop, 1) := by decide +kernel
theorem d_X_drawn_102 : decode b_X_drawn 102 = .ok (.iinc 7 1, 3) := by decide +kernel
theorem d_X_drawn_105 : decode b_X_drawn 105 = .ok (.goto (-38), 3) := by decide +kernel
theorem d_X_drawn_108 : decode b_X_drawn 108 = .ok (.iload_n 3, 1) := by decide +kernel
theorem d_X_drawn_109 : decode b_X_drawn 109 = .ok (.ifCond .ne 13, 3) := by decide +kernel
theorem d_X_drawn_112 : decode b_X_drawn 112 = .ok (.aload_n 0, 1) := by decide +kernel
theorem d_X_drawn_113 : decode b_X_drawn 113 = .ok (.getfield 29, 3) := by decide +kernel
theorem d_X_drawn_116 : decode b_X_drawn 116 = .ok (.getfield 209, 3) := by decide +kernel
theorem d_X_drawn_119 : decode b_X_drawn 119 = .ok (.goto 10, 3) := by decide +kernel
theorem d_X_drawn_122 : decode b_X_drawn 122 = .ok (.aload_n 0, 1) := by decide +kernel
theorem d_X_drawn_123 : decode b_X_drawn 123 = .ok (.getfield 29, 3) := by decide +kernel
theorem d_X_drawn_126 : decode b_X_drawn 126 = .ok (.getfield 162, 3) := by decide +kernel
theorem d_X_drawn_129 : decode b_X_drawn 129 = .ok (.ireturn, 1) := by decide +kernel
theorem d_X_dread_0 : decode b_X_dread 0 = .ok (.aload_n 0, 1) := by decide +kernel
theorem d_X_dread_1 : decode b_X_dread 1 = .ok (.getfield 25, 3) := by decide +kernel
theorem d_X_dread_4 : decode b_X_dread 4 = .ok (.iload_n 1, 1) := by decide +kernel
theorem d_X_dread_5 : decode b_X_dread 5 = .ok (.invokevirtual 152, 3) := by decide +kernel
theorem d_X_dread_8 : decode b_X_dread 8 = .ok (.ifCond .eq 13, 3) := by decide +kernel
theorem d_X_dread_11 : decode b_X_dread 11 = .ok (.iload_n 2, 1) := by decide +kernel
theorem d_X_dread_12 : decode b_X_dread 12 = .ok (.iconst 0, 1) := by decide +kernel
theorem d_X_dread_13 : decode b_X_dread 13 = .ok (.bipush 9, 2) := by decide +kernel
theorem d_X_dread_15 : decode b_X_dread 15 = .ok (.invokestatic 62, 3) := by decide +kernel
theorem d_X_dread_18 : decode b_X_dread 18 = .ok (.ifCond .ne 6, 3) := by decide +kernel
theorem d_X_dread_21 : decode b_X_dread 21 = .ok (.ldc 66, 2) := by decide +kernel
theorem d_X_dread_23 : decode b_X_dread 23 = .ok (.ireturn, 1) := by decide +kernel
theorem d_X_dread_24 : decode b_X_dread 24 = .ok (.aload_n 0, 1) := by decide +kernel
theorem d_X_dread_25 : decode b_X_dread 25 = .ok (.getfield 39, 3) := by decide +kernel
theorem d_X_dread_28 : decode b_X_dread 28 = .ok (.aload_n 0, 1) := by decide +kernel
theorem d_X_dread_29 : decode b_X_dread 29 = .ok (.getfield 25, 3) := by decide +kernel
theorem d_X_dread_32 : decode b_X_dread 32 = .ok (.invokevirtual 142, 3) := by decide +kernel
theorem d_X_dread_35 : decode b_X_dread 35 = .ok (.aload_n 0, 1) := by decide +kernel
theorem d_X_dread_36 : decode b_X_dread 36 = .ok (.getfield 25, 3) := by decide +kernel
theorem d_X_dread_39 : decode b_X_dread 39 = .ok (.getfield 171, 3) := by decide +kernel
theorem d_X_dread_42 : decode b_X_dread 42 = .ok (.iload_n 1, 1) := by decide +kernel
theorem d_X_dread_43 : decode b_X_dread 43 = .ok (.aaload, 1) := by decide +kernel
theorem d_X_dread_44 : decode b_X_dread 44 = .ok (.getfield 175, 3) := by decide +kernel
theorem d_X_dread_47 : decode b_X_dread 47 = .ok (.istore_n 3, 1) := by decide +kernel
theorem d_X_dread_48 : decode b_X_dread 48 = .ok (.aload_n 0, 1) := by decide +kernel
theorem d_X_dread_49 : decode b_X_dread 49 = .ok (.getfield 25, 3) := by decide +kernel
theorem d_X_dread_52 : decode b_X_dread 52 = .ok (.getfield 171, 3) := by decide +kernel
theorem d_X_dread_55 : decode b_X_dread 55 = .ok (.iload_n 1, 1) := by decide +kernel
theorem d_X_dread_56 : decode b_X_dread 56 = .ok (.aaload, 1) := by decide +kernel
theorem d_X_dread_57 : decode b_X_dread 57 = .ok (.iload_n 2, 1) := by decide +kernel
theorem d_X_dread_58 : decode b_X_dread 58 = .ok (.putfield 175, 3) := by decide +kernel
theorem d_X_dread_61 : decode b_X_dread 61 = .ok (.iload_n 3, 1) := by decide +kernel
theorem d_X_dread_62 : decode b_X_dread 62 = .ok (.ireturn, 1) := by decide +kernel
theorem d_X_drop_0 : decode b_X_drop 0 = .ok (.iload_n 1, 1) := by decide +kernel
theorem d_X_drop_1 : decode b_X_drop 1 = .ok (.invokestatic 58, 3) := by decide +kernel
theorem d_X_drop_4 : decode b_X_drop 4 = .ok (.ifCond .ne 6, 3) := by decide +kernel
theorem d_X_drop_7 : decode b_X_drop 7 = .ok (.ldc 66, 2) := by decide +kernel
theorem d_X_drop_9 : decode b_X_drop 9 = .ok (.ireturn, 1) := by decide +kernel
theorem d_X_drop_10 : decode b_X_drop 10 = .ok (.aload_n 0, 1) := by decide +kernel
theorem d_X_drop_11 : decode b_X_drop 11 = .ok (.getfield 11, 3) := by decide +kernel
theorem d_X_drop_14 : decode b_X_drop 14 = .ok (.iload_n 1, 1) := by decide +kernel
theorem d_X_drop_15 : decode b_X_drop 15 = .ok (.aaload, 1) := by decide +kernel
theorem d_X_drop_16 : decode b_X_drop 16 = .ok (.getfield 78, 3) := by decide +kernel
theorem d_X_drop_19 : decode b_X_drop 19 = .ok (.ifCond .eq 9, 3) := by decide +kernel
theorem d_X_drop_22 : decode b_X_drop 22 = .ok (.aload_n 0, 1) := by decide +kernel
theorem d_X_drop_23 : decode b_X_drop 23 = .ok (.iconst 1, 1) := by decide +kernel
theorem d_X_drop_24 : decode b_X_drop 24 = .ok (.invokevirtual 67, 3) := by decide +kernel
theorem d_X_drop_27 : decode b_X_drop 27 = .ok (.ireturn, 1) := by decide +kernel
theorem d_X_drop_28 : decode b_X_drop 28 = .ok (.aload_n 0, 1) := by decide +kernel
theorem d_X_drop_29 : decode b_X_drop 29 = .ok (.getfield 11, 3) := by decide +kernel
theorem d_X_drop_32 : decode b_X_drop 32 = .ok (.iload_n 1, 1) := by decide +kernel
theorem d_X_drop_33 : decode b_X_drop 33 = .ok (.aaload, 1) := by decide +kernel
theorem d_X_drop_34 : decode b_X_drop 34 = .ok (.iconst 1, 1) := by decide +kernel
theorem d_X_drop_35 : decode b_X_drop 35 = .ok (.putfield 78, 3) := by decide +kernel
theorem d_X_drop_38 : decode b_X_drop 38 = .ok (.aload_n 0, 1) := by decide +kernel
theorem d_X_drop_39 : decode b_X_drop 39 = .ok (.aload_n 0, 1) := by decide +kernel
theorem d_X_drop_40 : decode b_X_drop 40 = .ok (.getfield 11, 3) := by decide +kernel
theorem d_X_drop_43 : decode b_X_drop 43 = .ok (.iload_n 1, 1) := by decide +kernel
theorem d_X_drop_44 : decode b_X_drop 44 = .ok (.aaload, 1) := by decide +kernel
theorem d_X_drop_45 : decode b_X_drop 45 = .ok (.getfield 104, 3) := by decide +kernel
theorem d_X_drop_48 : decode b_X_drop 48 = .ok (.invokevirtual 75, 3) := by decide +kernel
theorem d_X_drop_51 : decode b_X_drop 51 = .ok (.ireturn, 1) := by decide +kernel
theorem d_X_ease_0 : decode b_X_ease 0 = .ok (.aload_n 0, 1) := by decide +kernel
theorem d_X_ease_1 : decode b_X_ease 1 = .ok (.iload_n 1, 1) := by decide +kernel
theorem d_X_ease_2 : decode b_X_ease 2 = .ok (.iconst 1, 1) := by decide +kernel
theorem d_X_ease_3 : decode b_X_ease 3 = .ok (.bipush 60, 2) := by decide +kernel
theorem d_X_ease_5 : decode b_X_ease 5 = .ok (.invokestatic 62, 3) := by decide +kernel
theorem d_X_ease_8 : decode b_X_ease 8 = .ok (.ifCond .eq 27, 3) := by decide +kernel
theorem d_X_ease_11 : decode b_X_ease 11 = .ok (.iload_n 2, 1) := by decide +kernel
theorem d_X_ease_12 : decode b_X_ease 12 = .ok (.iconst 0, 1) := by decide +kernel
theorem d_X_ease_13 : decode b_X_ease 13 = .ok (.sipush 300, 3) := by decide +kernel
theorem d_X_ease_16 : decode b_X_ease 16 = .ok (.invokestatic 62, 3) := by decide +kernel
theorem d_X_ease_19 : decode b_X_ease 19 = .ok (.ifCond .eq 16, 3) := by decide +kernel
theorem d_X_ease_22 : decode b_X_ease 22 = .ok (.iload_n 3, 1) := by decide +kernel
theorem d_X_ease_23 : decode b_X_ease 23 = .ok (.iconst 0, 1) := by decide +kernel
theorem d_X_ease_24 : decode b_X_ease 24 = .ok (.iconst 1, 1) := by decide +kernel
theorem d_X_ease_25 : decode b_X_ease 25 = .ok (.invokestatic 62, 3) := by decide +kernel
theorem d_X_ease_28 : decode b_X_ease 28 = .ok (.ifCond .eq 7, 3) := by decide +kernel
theorem d_X_ease_31 : decode b_X_ease 31 = .ok (.iconst 1, 1) := by decide +kernel
theorem d_X_ease_32 : decode b_X_ease 32 = .ok (.goto 4, 3) := by decide +kernel
theorem d_X_ease_35 : decode b_X_ease 35 = .ok (.iconst 0, 1) := by decide +kernel
theorem d_X_ease_36 : decode b_X_ease 36 = .ok (.invokevirtual 198, 3) := by decide +kernel
theorem d_X_ease_39 : decode b_X_ease 39 = .ok (.istore 4, 2) := by decide +kernel
theorem d_X_ease_41 : decode b_X_ease 41 = .ok (.iload 4, 2) := by decide +kernel
theorem d_X_ease_43 : decode b_X_ease 43 = .ok (.ifCond .eq 6, 3) := by decide +kernel
theorem d_X_ease_46 : decode b_X_ease 46 = .ok (.iload 4, 2) := by decide +kernel
theorem d_X_ease_48 : decode b_X_ease 48 = .ok (.ireturn, 1) := by decide +kernel
theorem d_X_ease_49 : decode b_X_ease 49 = .ok (.aload_n 0, 1) := by decide +kernel
theorem d_X_ease_50 : decode b_X_ease 50 = .ok (.getfield 25, 3) := by decide +kernel
theorem d_X_ease_53 : decode b_X_ease 53 = .ok (.getfield 149, 3) := by decide +kernel
theorem d_X_ease_56 : decode b_X_ease 56 = .ok (.istore 5, 2) := by decide +kernel
theorem d_X_ease_58 : decode b_X_ease 58 = .ok (.iconst 0, 1) := by decide +kernel
theorem d_X_ease_59 : decode b_X_ease 59 = .ok (.istore 6, 2) := by decide +kernel
theorem d_X_ease_61 : decode b_X_ease 61 = .ok (.iload 6, 2) := by decide +kernel
theorem d_X_ease_63 : decode b_X_ease 63 = .ok (.bipush 64, 2) := by decide +kernel
theorem d_X_ease_65 : decode b_X_ease 65 = .ok (.if_icmp .ge 35, 3) := by decide +kernel
theorem d_X_ease_68 : decode b_X_ease 68 = .ok (.aload_n 0, 1) := by decide +kernel
theorem d_X_ease_69 : decode b_X_ease 69 = .ok (.iload 6, 2) := by decide +kernel
theorem d_X_ease_71 : decode b_X_ease 71 = .ok (.iload 5, 2) := by decide +kernel
theorem d_X_ease_73 : decode b_X_ease 73 = .ok (.invokevirtual 228, 3) := by decide +kernel
theorem d_X_ease_76 : decode b_X_ease 76 = .ok (.ifCond .eq 18, 3) := by decide +kernel
theorem d_X_ease_79 : decode b_X_ease 79 = .ok (.aload_n 0, 1) := by decide +kernel
theorem d_X_ease_80 : decode b_X_ease 80 = .ok (.iload 6, 2) := by decide +kernel
theorem d_X_ease_82 : decode b_X_ease 82 = .ok (.iload_n 1, 1) := by decide +kernel
theorem d_X_ease_83 : decode b_X_ease 83 = .ok (.iload_n 2, 1) := by decide +kernel
theorem d_X_ease_84 : decode b_X_ease 84 = .ok (.invokevirtual 234, 3) := by decide +kernel
theorem d_X_ease_87 : decode b_X_ease 87 = .ok (.ifCond .eq 7, 3) := by decide +kernel
theorem d_X_ease_90 : decode b_X_ease 90 = .ok (.iload 6, 2) := by decide +kernel
theorem d_X_ease_92 : decode b_X_ease 92 = .ok (.istore 5, 2) := by decide +kernel
theorem d_X_ease_94 : decode b_X_ease 94 = .ok (.iinc 6 1, 3) := by decide +kernel
theorem d_X_ease_97 : decode b_X_ease 97 = .ok (.goto (-36), 3) := by decide +kernel
theorem d_X_ease_100 : decode b_X_ease 100 = .ok (.iload_n 3, 1) := by decide +kernel
theorem d_X_ease_101 : decode b_X_ease 101 = .ok (.ifCond .ne 11, 3) := by decide +kernel
theorem d_X_ease_104 : decode b_X_ease 104 = .ok (.iload 5, 2) := by decide +kernel
theorem d_X_ease_106 : decode b_X_ease 106 = .ok (.invokestatic 213, 3) := by decide +kernel
theorem d_X_ease_109 : decode b_X_ease 109 = .ok (.goto 5, 3) := by decide +kernel
theorem d_X_ease_112 : decode b_X_ease 112 = .ok (.iload 5, 2) := by decide +kernel
theorem d_X_ease_114 : decode b_X_ease 114 = .ok (.ireturn, 1) := by decide +kernel
theorem d_X_falls_0 : decode b_X_falls 0 = .ok (.aload_n 0, 1) := by decide +kernel
theorem d_X_falls_1 : decode b_X_falls 1 = .ok (.iload_n 1, 1) := by decide +kernel
theorem d_X_falls_2 : decode b_X_falls 2 = .ok (.iconst 0, 1) := by decide +kernel
theorem d_X_falls_3 : decode b_X_falls 3 = .ok (.iconst 1, 1) := by decide +kernel
theorem d_X_falls_4 : decode b_X_falls 4 = .ok (.invokestatic 62, 3) := by decide +kernel
theorem d_X_falls_7 : decode b_X_falls 7 = .ok (.invokevirtual 198, 3) := by decide +kernel
theorem d_X_falls_10 : decode b_X_falls 10 = .ok (.istore_n 2, 1) := by decide +kernel
theorem d_X_falls_11 : decode b_X_falls 11 = .ok (.iload_n 2, 1) := by decide +kernel
theorem d_X_falls_12 : decode b_X_falls 12 = .ok (.ifCond .eq 5, 3) := by decide +kernel
theorem d_X_falls_15 : decode b_X_falls 15 = .ok (.iload_n 2, 1) := by decide +kernel
theorem d_X_falls_16 : decode b_X_falls 16 = .ok (.ireturn, 1) := by decide +kernel
theorem d_X_falls_17 : decode b_X_falls 17 = .ok (.aload_n 0, 1) := by decide +kernel
theorem d_X_falls_18 : decode b_X_falls 18 = .ok (.getfield 29, 3) := by decide +kernel
theorem d_X_falls_21 : decode b_X_falls 21 = .ok (.aload_n 0, 1) := by decide +kernel
theorem d_X_falls_22 : decode b_X_falls 22 = .ok (.getfield 25, 3) := by decide +kernel
theorem d_X_falls_25 : decode b_X_falls 25 = .ok (.invokevirtual 122, 3) := by decide +kernel
theorem d_X_falls_28 : decode b_X_falls 28 = .ok (.iconst 1, 1) := by decide +kernel
theorem d_X_falls_29 : decode b_X_falls 29 = .ok (.istore_n 3, 1) := by decide +kernel
theorem d_X_falls_30 : decode b_X_falls 30 = .ok (.iload_n 3, 1) := by decide +kernel
theorem d_X_falls_31 : decode b_X_falls 31 = .ok (.bipush 60, 2) := by decide +kernel
theorem d_X_falls_33 : decode b_X_falls 33 = .ok (.if_icmp .gt 36, 3) := by decide +kernel
theorem d_X_falls_36 : decode b_X_falls 36 = .ok (.aload_n 0, 1) := by decide +kernel
theorem d_X_falls_37 : decode b_X_falls 37 = .ok (.getfield 29, 3) := by decide +kernel
theorem d_X_falls_40 : decode b_X_falls 40 = .ok (.invokevirtual 145, 3) := by decide +kernel
theorem d_X_falls_43 : decode b_X_falls 43 = .ok (.istore 4, 2) := by decide +kernel
theorem d_X_falls_45 : decode b_X_falls 45 = .ok (.iload 4, 2) := by decide +kernel
theorem d_X_falls_47 : decode b_X_falls 47 = .ok (.ldc 212, 2) := by decide +kernel
theorem d_X_falls_49 : decode b_X_falls 49 = .ok (.if_icmp .eq 14, 3) := by decide +kernel
theorem d_X_falls_52 : decode b_X_falls 52 = .ok (.iload_n 1, 1) := by decide +kernel
theorem d_X_falls_53 : decode b_X_falls 53 = .ok (.ifCond .ne 7, 3) := by decide +kernel
theorem d_X_falls_56 : decode b_X_falls 56 = .ok (.iload_n 3, 1) := by decide +kernel
theorem d_X_falls_57 : decode b_X_falls 57 = .ok (.goto 5, 3) := by decide +kernel
theorem d_X_falls_60 : decode b_X_falls 60 = .ok (.iload 4, 2) := by decide +kernel
theorem d_X_falls_62 : decode b_X_falls 62 = .ok (.ireturn, 1) := by decide +kernel
theorem d_X_falls_63 : decode b_X_falls 63 = .ok (.iinc 3 1, 3) := by decide +kernel
theorem d_X_falls_66 : decode b_X_falls 66 = .ok (.goto (-36), 3) := by decide +kernel
theorem d_X_falls_69 : decode b_X_falls 69 = .ok (.ldc 212, 2) := by decide +kernel
theorem d_X_falls_71 : decode b_X_falls 71 = .ok (.ireturn, 1) := by decide +kernel
theorem d_X_fault_0 : decode b_X_fault 0 = .ok (.aload_n 0, 1) := by decide +kernel
theorem d_X_fault_1 : decode b_X_fault 1 = .ok (.getfield 18, 3) := by decide +kernel
theorem d_X_fault_4 : decode b_X_fault 4 = .ok (.getfield 132, 3) := by decide +kernel
theorem d_X_fault_7 : decode b_X_fault 7 = .ok (.ireturn, 1) := by decide +kernel
theorem d_X_feed_0 : decode b_X_feed 0 = .ok (.iload_n 1, 1) := by decide +kernel
theorem d_X_feed_1 : decode b_X_feed 1 = .ok (.iconst 0, 1) := by decide +kernel
theorem d_X_feed_2 : decode b_X_feed 2 = .ok (.sipush 255, 3) := by decide +kernel
theorem d_X_feed_5 : decode b_X_feed 5 = .ok (.invokestatic 62, 3) := by decide +kernel
theorem d_X_feed_8 : decode b_X_feed 8 = .ok (.ifCond .ne 6, 3) := by decide +kernel
theorem d_X_feed_11 : decode b_X_feed 11 = .ok (.ldc 66, 2) := by decide +kernel
theorem d_X_feed_13 : decode b_X_feed 13 = .ok (.ireturn, 1) := by decide +kernel
theorem d_X_feed_14 : decode b_X_feed 14 = .ok (.aload_n 0, 1) := by decide +kernel
theorem d_X_feed_15 : decode b_X_feed 15 = .ok (.getfield 18, 3) := by decide +kernel
theorem d_X_feed_18 : decode b_X_feed 18 = .ok (.iload_n 1, 1) := by decide +kernel
theorem d_X_feed_19 : decode b_X_feed 19 = .ok (.invokevirtual 107, 3) := by decide +kernel
theorem d_X_feed_22 : decode b_X_feed 22 = .ok (.ifCond .eq 13, 3) := by decide +kernel
theorem d_X_feed_25 : decode b_X_feed 25 = .ok (.aload_n 0, 1) := by decide +kernel
theorem d_X_feed_26 : decode b_X_feed 26 = .ok (.getfield 18, 3) := by decide +kernel
theorem d_X_feed_29 : decode b_X_feed 29 = .ok (.getfield 110, 3) := by decide +kernel
theorem d_X_feed_32 : decode b_X_feed 32 = .ok (.goto 5, 3) := by decide +kernel
theorem d_X_feed_35 : decode b_X_feed 35 = .ok (.ldc 113, 2) := by decide +kernel
theorem d_X_feed_37 : decode b_X_feed 37 = .ok (.ireturn, 1) := by decide +kernel
theorem d_X_fits_0 : decode b_X_fits 0 = .ok (.aload_n 0, 1) := by decide +kernel
theorem d_X_fits_1 : decode b_X_fits 1 = .ok (.getfield 25, 3) := by decide +kernel
theorem d_X_fits_4 : decode b_X_fits 4 = .ok (.iload_n 1, 1) := by decide +kernel
theorem d_X_fits_5 : decode b_X_fits 5 = .ok (.invokevirtual 152, 3) := by decide +kernel
theorem d_X_fits_8 : decode b_X_fits 8 = .ok (.ifCond .eq 31, 3) := by decide +kernel
theorem d_X_fits_11 : decode b_X_fits 11 = .ok (.iload_n 2, 1) := by decide +kernel
theorem d_X_fits_12 : decode b_X_fits 12 = .ok (.invokestatic 58, 3) := by decide +kernel
theorem d_X_fits_15 : decode b_X_fits 15 = .ok (.ifCond .eq 24, 3) := by decide +kernel
theorem d_X_fits_18 : decode b_X_fits 18 = .ok (.iload 4, 2) := by decide +kernel
theorem d_X_fits_20 : decode b_X_fits 20 = .ok (.iconst 1, 1) := by decide +kernel
theorem d_X_fits_21 : decode b_X_fits 21 = .ok (.bipush 16, 2) := by decide +kernel
theorem d_X_fits_23 : decode b_X_fits 23 = .ok (.invokestatic 62, 3) := by decide +kernel
theorem d_X_fits_26 : decode b_X_fits 26 = .ok (.ifCond .eq 13, 3) := by decide +kernel
theorem d_X_fits_29 : decode b_X_fits 29 = .ok (.iload 5, 2) := by decide +kernel
theorem d_X_fits_31 : decode b_X_fits 31 = .ok (.iconst 0, 1) := by decide +kernel
theorem d_X_fits_32 : decode b_X_fits 32 = .ok (.iconst 2, 1) := by decide +kernel
theorem d_X_fits_33 : decode b_X_fits 33 = .ok (.invokestatic 62, 3) := by decide +kernel
theorem d_X_fits_36 : decode b_X_fits 36 = .ok (.ifCond .ne 6, 3) := by decide +kernel
theorem d_X_fits_39 : decode b_X_fits 39 = .ok (.ldc 66, 2) := by decide +kernel
theorem d_X_fits_41 : decode b_X_fits 41 = .ok (.ireturn, 1) := by decide +kernel
theorem d_X_fits_42 : decode b_X_fits 42 = .ok (.aload_n 0, 1) := by decide +kernel
theorem d_X_fits_43 : decode b_X_fits 43 = .ok (.getfield 11, 3) := by decide +kernel
theorem d_X_fits_46 : decode b_X_fits 46 = .ok (.iload_n 2, 1) := by decide +kernel
theorem d_X_fits_47 : decode b_X_fits 47 = .ok (.aaload, 1) := by decide +kernel
theorem d_X_fits_48 : decode b_X_fits 48 = .ok (.iload_n 3, 1) := by decide +kernel
theorem d_X_fits_49 : decode b_X_fits 49 = .ok (.iload 4, 2) := by decide +kernel
theorem d_X_fits_51 : decode b_X_fits 51 = .ok (.invokestatic 237, 3) := by decide +kernel
theorem d_X_fits_54 : decode b_X_fits 54 = .ok (.istore 6, 2) := by decide +kernel
theorem d_X_fits_56 : decode b_X_fits 56 = .ok (.iload 6, 2) := by decide +kernel
theorem d_X_fits_58 : decode b_X_fits 58 = .ok (.ifCond .eq 10, 3) := by decide +kernel
theorem d_X_fits_61 : decode b_X_fits 61 = .ok (.aload_n 0, 1) := by decide +kernel
theorem d_X_fits_62 : decode b_X_fits 62 = .ok (.iload 6, 2) := by decide +kernel
theorem d_X_fits_64 : decode b_X_fits 64 = .ok (.invokevirtual 67, 3) := by decide +kernel
theorem d_X_fits_67 : decode b_X_fits 67 = .ok (.ireturn, 1) := by decide +kernel
theorem d_X_fits_68 : decode b_X_fits 68 = .ok (.iconst 0, 1) := by decide +kernel
theorem d_X_fits_69 : decode b_X_fits 69 = .ok (.istore 7, 2) := by decide +kernel
theorem d_X_fits_71 : decode b_X_fits 71 = .ok (.iload 5, 2) := by decide +kernel
theorem d_X_fits_73 : decode b_X_fits 73 = .ok (.invokestatic 241, 3) := by decide +kernel
theorem d_X_fits_76 : decode b_X_fits 76 = .ok (.istore 8, 2) := by decide +kernel
theorem d_X_fits_78 : decode b_X_fits 78 = .ok (.iload 8, 2) := by decide +kernel
theorem d_X_fits_80 : decode b_X_fits 80 = .ok (.iload 5, 2) := by decide +kernel
theorem d_X_fits_82 : decode b_X_fits 82 = .ok (.invokestatic 244, 3) := by decide +kernel
theorem d_X_fits_85 : decode b_X_fits 85 = .ok (.if_icmp .gt 61, 3) := by decide +kernel
theorem d_X_fits_88 : decode b_X_fits 88 = .ok (.aload_n 0, 1) := by decide +kernel
theorem d_X_fits_89 : decode b_X_fits 89 = .ok (.getfield 29, 3) := by decide +kernel
theorem d_X_fits_92 : decode b_X_fits 92 = .ok (.aload_n 0, 1) := by decide +kernel
theorem d_X_fits_93 : decode b_X_fits 93 = .ok (.getfield 25, 3) := by decide +kernel
theorem d_X_fits_96 : decode b_X_fits 96 = .ok (.invokevirtual 122, 3) := by decide +kernel
theorem d_X_fits_99 : decode b_X_fits 99 = .ok (.aload_n 0, 1) := by decide +kernel
theorem d_X_fits_100 : decode b_X_fits 100 = .ok (.getfield 29, 3) := by decide +kernel
theorem d_X_fits_103 : decode b_X_fits 103 = .ok (.getfield 171, 3) := by decide +kernel
theorem d_X_fits_106 : decode b_X_fits 106 = .ok (.iload_n 1, 1) := by decide +kernel
theorem d_X_fits_107 : decode b_X_fits 107 = .ok (.aaload, 1) := by decide +kernel
theorem d_X_fits_108 : decode b_X_fits 108 = .ok (.iload 5, 2) := by decide +kernel
theorem d_X_fits_110 : decode b_X_fits 110 = .ok (.iload 8, 2) := by decide +kernel
theorem d_X_fits_112 : decode b_X_fits 112 = .ok (.invokevirtual 247, 3) := by decide +kernel
theorem d_X_fits_115 : decode b_X_fits 115 = .ok (.aload_n 0, 1) := by decide +kernel
theorem d_X_fits_116 : decode b_X_fits 116 = .ok (.aload_n 0, 1) := by decide +kernel
theorem d_X_fits_117 : decode b_X_fits 117 = .ok (.getfield 11, 3) := by decide +kernel
theorem d_X_fits_120 : decode b_X_fits 120 = .ok (.iload_n 2, 1) := by decide +kernel
theorem d_X_fits_121 : decode b_X_fits 121 = .ok (.aaload, 1) := by decide +kernel
theorem d_X_fits_122 : decode b_X_fits 122 = .ok (.iload_n 3, 1) := by decide +kernel
theorem d_X_fits_123 : decode b_X_fits 123 = .ok (.iload 4, 2) := by decide +kernel
theorem d_X_fits_125 : decode b_X_fits 125 = .ok (.invokevirtual 250, 3) := by decide +kernel
theorem d_X_fits_128 : decode b_X_fits 128 = .ok (.ifCond .eq 12, 3) := by decide +kernel
theorem d_X_fits_131 : decode b_X_fits 131 = .ok (.iload 7, 2) := by decide +kernel
theorem d_X_fits_133 : decode b_X_fits 133 = .ok (.iconst 1, 1) := by decide +kernel
theorem d_X_fits_134 : decode b_X_fits 134 = .ok (.iload 8, 2) := by decide +kernel
theorem d_X_fits_136 : decode b_X_fits 136 = .ok (.ishl, 1) := by decide +kernel
theorem d_X_fits_137 : decode b_X_fits 137 = .ok (.ior, 1) := by decide +kernel
theorem d_X_fits_138 : decode b_X_fits 138 = .ok (.istore 7, 2) := by decide +kernel
theorem d_X_fits_140 : decode b_X_fits 140 = .ok (.iinc 8 1, 3) := by decide +kernel
theorem d_X_fits_143 : decode b_X_fits 143 = .ok (.goto (-65), 3) := by decide +kernel
theorem d_X_fits_146 : decode b_X_fits 146 = .ok (.aload_n 0, 1) := by decide +kernel
theorem d_X_fits_147 : decode b_X_fits 147 = .ok (.iload 7, 2) := by decide +kernel
theorem d_X_fits_149 : decode b_X_fits 149 = .ok (.invokevirtual 75, 3) := by decide +kernel
theorem d_X_fits_152 : decode b_X_fits 152 = .ok (.ireturn, 1) := by decide +kernel
theorem d_X_flawOf_0 : decode b_X_flawOf 0 = .ok (.aload_n 0, 1) := by decide +kernel
theorem d_X_flawOf_1 : decode b_X_flawOf 1 = .ok (.getfield 78, 3) := by decide +kernel
theorem d_X_flawOf_4 : decode b_X_flawOf 4 = .ok (.ifCond .eq 5, 3) := by decide +kernel
theorem d_X_flawOf_7 : decode b_X_flawOf 7 = .ok (.iconst 1, 1) := by decide +kernel
theorem d_X_flawOf_8 : decode b_X_flawOf 8 = .ok (.ireturn, 1) := by decide +kernel
theorem d_X_flawOf_9 : decode b_X_flawOf 9 = .ok (.aload_n 0, 1) := by decide +kernel
theorem d_X_flawOf_10 : decode b_X_flawOf 10 = .ok (.iload_n 1, 1) := by decide +kernel
theorem d_X_flawOf_11 : decode b_X_flawOf 11 = .ok (.iload_n 2, 1) := by decide +kernel
theorem d_X_flawOf_12 : decode b_X_flawOf 12 = .ok (.invokevirtual 82, 3) := by decide +kernel
theorem d_X_flawOf_15 : decode b_X_flawOf 15 = .ok (.ifCond .eq 7, 3) := by decide +kernel
theorem d_X_flawOf_18 : decode b_X_flawOf 18 = .ok (.iconst 0, 1) := by decide +kernel
theorem d_X_flawOf_19 : decode b_X_flawOf 19 = .ok (.goto 4, 3) := by decide +kernel
theorem d_X_flawOf_22 : decode b_X_flawOf 22 = .ok (.iconst 2, 1) := by decide +kernel
theorem d_X_flawOf_23 : decode b_X_flawOf 23 = .ok (.ireturn, 1) := by decide +kernel
theorem d_X_foretell_0 : decode b_X_foretell 0 = .ok (.aload_n 0, 1) := by decide +kernel
theorem d_X_foretell_1 : decode b_X_foretell 1 = .ok (.getfield 29, 3) := by decide +kernel
theorem d_X_foretell_4 : decode b_X_foretell 4 = .ok (.aload_n 0, 1) := by decide +kernel
theorem d_X_foretell_5 : decode b_X_foretell 5 = .ok (.getfield 25, 3) := by decide +kernel
theorem d_X_foretell_8 : decode b_X_foretell 8 = .ok (.invokevirtual 122, 3) := by decide +kernel
theorem d_X_foretell_11 : decode b_X_foretell 11 = .ok (.iconst 0, 1) := by decide +kernel
theorem d_X_foretell_12 : decode b_X_foretell 12 = .ok (.istore_n 2, 1) := by decide +kernel
theorem d_X_foretell_13 : decode b_X_foretell 13 = .ok (.iload_n 2, 1) := by decide +kernel
theorem d_X_foretell_14 : decode b_X_foretell 14 = .ok (.iload_n 1, 1) := by decide +kernel
theorem d_X_foretell_15 : decode b_X_foretell 15 = .ok (.if_icmp .ge 17, 3) := by decide +kernel
theorem d_X_foretell_18 : decode b_X_foretell 18 = .ok (.aload_n 0, 1) := by decide +kernel
theorem d_X_foretell_19 : decode b_X_foretell 19 = .ok (.getfield 29, 3) := by decide +kernel
theorem d_X_foretell_22 : decode b_X_foretell 22 = .ok (.invokevirtual 145, 3) := by decide +kernel
theorem d_X_foretell_25 : decode b_X_foretell 25 = .ok (.pop, 1) := by decide +kernel
theorem d_X_foretell_26 : decode b_X_foretell 26 = .ok (.iinc 2 1, 3) := by decide +kernel
theorem d_X_foretell_29 : decode b_X_foretell 29 = .ok (.goto (-16), 3) := by decide +kernel
theorem d_X_foretell_32 : decode b_X_foretell 32 = .ok (.aload_n 0, 1) := by decide +kernel
theorem d_X_foretell_33 : decode b_X_foretell 33 = .ok (.getfield 29, 3) := by decide +kernel
theorem d_X_foretell_36 : decode b_X_foretell 36 = .ok (.areturn, 1) := by decide +kernel
theorem d_X_foretellWithout_0 : decode b_X_foretellWithout 0 = .ok (.aload_n 0, 1) := by decide +kernel
theorem d_X_foretellWithout_1 : decode b_X_foretellWithout 1 = .ok (.getfield 29, 3) := by decide +kernel
theorem d_X_foretellWithout_4 : decode b_X_foretellWithout 4 = .ok (.aload_n 0, 1) := by decide +kernel
theorem d_X_foretellWithout_5 : decode b_X_foretellWithout 5 = .ok (.getfield 25, 3) := by decide +kernel
theorem d_X_foretellWithout_8 : decode b_X_foretellWithout 8 = .ok (.invokevirtual 122, 3) := by decide +kernel
theorem d_X_foretellWithout_11 : decode b_X_foretellWithout 11 = .ok (.aload_n 0, 1) := by decide +kernel
theorem d_X_foretellWithout_12 : decode b_X_foretellWithout 12 = .ok (.getfield 29, 3) := by decide +kernel
theorem d_X_foretellWithout_15 : decode b_X_foretellWithout 15 = .ok (.aload_n 0, 1) := by decide +kernel
theorem d_X_foretellWithout_16 : decode b_X_foretellWithout 16 = .ok (.getfield 25, 3) := by decide +kernel
theorem d_X_foretellWithout_19 : decode b_X_foretellWithout 19 = .ok (.getfield 149, 3) := by decide +kernel
theorem d_X_foretellWithout_22 : decode b_X_foretellWithout 22 = .ok (.iload_n 1, 1) := by decide +kernel
theorem d_X_foretellWithout_23 : decode b_X_foretellWithout 23 = .ok (.iconst (-1), 1) := by decide +kernel
theorem d_X_foretellWithout_24 : decode b_X_foretellWithout 24 = .ok (.ixor, 1) := by decide +kernel
theorem d_X_foretellWithout_25 : decode b_X_foretellWithout 25 = .ok (.iand, 1) := by decide +kernel
theorem d_X_foretellWithout_26 : decode b_X_foretellWithout 26 = .ok (.putfield 149, 3) := by decide +kernel
theorem d_X_foretellWithout_29 : decode b_X_foretellWithout 29 = .ok (.return_, 1) := by decide +kernel
theorem d_X_found_0 : decode b_X_found 0 = .ok (.aload_n 0, 1) := by decide +kernel
theorem d_X_found_1 : decode b_X_found 1 = .ok (.iload_n 1, 1) := by decide +kernel
theorem d_X_found_2 : decode b_X_found 2 = .ok (.putfield 300, 3) := by decide +kernel
theorem d_X_found_5 : decode b_X_found 5 = .ok (.ldc_w 303, 3) := by decide +kernel
theorem d_X_found_8 : decode b_X_found 8 = .ok (.iload_n 1, 1) := by decide +kernel
theorem d_X_found_9 : decode b_X_found 9 = .ok (.isub, 1) := by decide +kernel
theorem d_X_found_10 : decode b_X_found 10 = .ok (.ireturn, 1) := by decide +kernel
theorem d_X_foundNothing_0 : decode b_X_foundNothing 0 = .ok (.aload_n 0, 1) := by decide +kernel
theorem d_X_foundNothing_1 : decode b_X_foundNothing 1 = .ok (.iconst 0, 1) := by decide +kernel
theorem d_X_foundNothing_2 : decode b_X_foundNothing 2 = .ok (.putfield 300, 3) := by decide +kernel
theorem d_X_foundNothing_5 : decode b_X_foundNothing 5 = .ok (.iload_n 1, 1) := by decide +kernel
theorem d_X_foundNothing_6 : decode b_X_foundNothing 6 = .ok (.ireturn, 1) := by decide +kernel
theorem d_X_greatestShared_0 : decode b_X_greatestShared 0 = .ok (.iload_n 0, 1) := by decide +kernel
theorem d_X_greatestShared_1 : decode b_X_greatestShared 1 = .ok (.istore_n 2, 1) := by decide +kernel
theorem d_X_greatestShared_2 : decode b_X_greatestShared 2 = .ok (.iload_n 1, 1) := by decide +kernel
theorem d_X_greatestShared_3 : decode b_X_greatestShared 3 = .ok (.istore_n 3, 1) := by decide +kernel
theorem d_X_greatestShared_4 : decode b_X_greatestShared 4 = .ok (.iconst 0, 1) := by decide +kernel
theorem d_X_greatestShared_5 : decode b_X_greatestShared 5 = .ok (.istore 4, 2) := by decide +kernel
theorem d_X_greatestShared_7 : decode b_X_greatestShared 7 = .ok (.iload 4, 2) := by decide +kernel
theorem d_X_greatestShared_9 : decode b_X_greatestShared 9 = .ok (.bipush 32, 2) := by decide +kernel
theorem d_X_greatestShared_11 : decode b_X_greatestShared 11 = .ok (.if_icmp .ge 23, 3) := by decide +kernel
theorem d_X_greatestShared_14 : decode b_X_greatestShared 14 = .ok (.iload_n 3, 1) := by decide +kernel
theorem d_X_greatestShared_15 : decode b_X_greatestShared 15 = .ok (.ifCond .eq 19, 3) := by decide +kernel
theorem d_X_greatestShared_18 : decode b_X_greatestShared 18 = .ok (.iload_n 2, 1) := by decide +kernel
theorem d_X_greatestShared_19 : decode b_X_greatestShared 19 = .ok (.iload_n 3, 1) := by decide +kernel
theorem d_X_greatestShared_20 : decode b_X_greatestShared 20 = .ok (.irem, 1) := by decide +kernel
theorem d_X_greatestShared_21 : decode b_X_greatestShared 21 = .ok (.istore 5, 2) := by decide +kernel
theorem d_X_greatestShared_23 : decode b_X_greatestShared 23 = .ok (.iload_n 3, 1) := by decide +kernel
theorem d_X_greatestShared_24 : decode b_X_greatestShared 24 = .ok (.istore_n 2, 1) := by decide +kernel
theorem d_X_greatestShared_25 : decode b_X_greatestShared 25 = .ok (.iload 5, 2) := by decide +kernel
theorem d_X_greatestShared_27 : decode b_X_greatestShared 27 = .ok (.istore_n 3, 1) := by decide +kernel
theorem d_X_greatestShared_28 : decode b_X_greatestShared 28 = .ok (.iinc 4 1, 3) := by decide +kernel
theorem d_X_greatestShared_31 : decode b_X_greatestShared 31 = .ok (.goto (-24), 3) := by decide +kernel
theorem d_X_greatestShared_34 : decode b_X_greatestShared 34 = .ok (.iload_n 2, 1) := by decide +kernel
theorem d_X_greatestShared_35 : decode b_X_greatestShared 35 = .ok (.ireturn, 1) := by decide +kernel
theorem d_X_hold_0 : decode b_X_hold 0 = .ok (.aload_n 0, 1) := by decide +kernel
theorem d_X_hold_1 : decode b_X_hold 1 = .ok (.iload_n 1, 1) := by decide +kernel
theorem d_X_hold_2 : decode b_X_hold 2 = .ok (.iconst 1, 1) := by decide +kernel
theorem d_X_hold_3 : decode b_X_hold 3 = .ok (.bipush 60, 2) := by decide +kernel
theorem d_X_hold_5 : decode b_X_hold 5 = .ok (.invokestatic 62, 3) := by decide +kernel
theorem d_X_hold_8 : decode b_X_hold 8 = .ok (.ifCond .eq 16, 3) := by decide +kernel
theorem d_X_hold_11 : decode b_X_hold 11 = .ok (.iload_n 2, 1) := by decide +kernel
theorem d_X_hold_12 : decode b_X_hold 12 = .ok (.iconst 0, 1) := by decide +kernel
theorem d_X_hold_13 : decode b_X_hold 13 = .ok (.iconst 1, 1) := by decide +kernel
theorem d_X_hold_14 : decode b_X_hold 14 = .ok (.invokestatic 62, 3) := by decide +kernel
theorem d_X_hold_17 : decode b_X_hold 17 = .ok (.ifCond .eq 7, 3) := by decide +kernel
theorem d_X_hold_20 : decode b_X_hold 20 = .ok (.iconst 1, 1) := by decide +kernel
theorem d_X_hold_21 : decode b_X_hold 21 = .ok (.goto 4, 3) := by decide +kernel
theorem d_X_hold_24 : decode b_X_hold 24 = .ok (.iconst 0, 1) := by decide +kernel
theorem d_X_hold_25 : decode b_X_hold 25 = .ok (.invokevirtual 198, 3) := by decide +kernel
theorem d_X_hold_28 : decode b_X_hold 28 = .ok (.istore_n 3, 1) := by decide +kernel
theorem d_X_hold_29 : decode b_X_hold 29 = .ok (.iload_n 3, 1) := by decide +kernel
theorem d_X_hold_30 : decode b_X_hold 30 = .ok (.ifCond .eq 5, 3) := by decide +kernel
theorem d_X_hold_33 : decode b_X_hold 33 = .ok (.iload_n 3, 1) := by decide +kernel
theorem d_X_hold_34 : decode b_X_hold 34 = .ok (.ireturn, 1) := by decide +kernel
theorem d_X_hold_35 : decode b_X_hold 35 = .ok (.aload_n 0, 1) := by decide +kernel
theorem d_X_hold_36 : decode b_X_hold 36 = .ok (.getfield 25, 3) := by decide +kernel
theorem d_X_hold_39 : decode b_X_hold 39 = .ok (.getfield 149, 3) := by decide +kernel
theorem d_X_hold_42 : decode b_X_hold 42 = .ok (.istore 4, 2) := by decide +kernel
theorem d_X_hold_44 : decode b_X_hold 44 = .ok (.iconst 0, 1) := by decide +kernel
theorem d_X_hold_45 : decode b_X_hold 45 = .ok (.istore 5, 2) := by decide +kernel
theorem d_X_hold_47 : decode b_X_hold 47 = .ok (.iload 5, 2) := by decide +kernel
theorem d_X_hold_49 : decode b_X_hold 49 = .ok (.bipush 64, 2) := by decide +kernel
theorem d_X_hold_51 : decode b_X_hold 51 = .ok (.if_icmp .ge 34, 3) := by decide +kernel
theorem d_X_hold_54 : decode b_X_hold 54 = .ok (.aload_n 0, 1) := by decide +kernel
theorem d_X_hold_55 : decode b_X_hold 55 = .ok (.iload 5, 2) := by decide +kernel
theorem d_X_hold_57 : decode b_X_hold 57 = .ok (.iload 4, 2) := by decide +kernel
theorem d_X_hold_59 : decode b_X_hold 59 = .ok (.invokevirtual 228, 3) := by decide +kernel
theorem d_X_hold_62 : decode b_X_hold 62 = .ok (.ifCond .eq 17, 3) := by decide +kernel
theorem d_X_hold_65 : decode b_X_hold 65 = .ok (.aload_n 0, 1) := by decide +kernel
theorem d_X_hold_66 : decode b_X_hold 66 = .ok (.iload 5, 2) := by decide +kernel
theorem d_X_hold_68 : decode b_X_hold 68 = .ok (.iload_n 1, 1) := by decide +kernel
theorem d_X_hold_69 : decode b_X_hold 69 = .ok (.invokevirtual 231, 3) := by decide +kernel
theorem d_X_hold_72 : decode b_X_hold 72 = .ok (.ifCond .eq 7, 3) := by decide +kernel
theorem d_X_hold_75 : decode b_X_hold 75 = .ok (.iload 5, 2) := by decide +kernel
theorem d_X_hold_77 : decode b_X_hold 77 = .ok (.istore 4, 2) := by decide +kernel
theorem d_X_hold_79 : decode b_X_hold 79 = .ok (.iinc 5 1, 3) := by decide +kernel
theorem d_X_hold_82 : decode b_X_hold 82 = .ok (.goto (-35), 3) := by decide +kernel
theorem d_X_hold_85 : decode b_X_hold 85 = .ok (.iload_n 2, 1) := by decide +kernel
theorem d_X_hold_86 : decode b_X_hold 86 = .ok (.ifCond .ne 11, 3) := by decide +kernel
theorem d_X_hold_89 : decode b_X_hold 89 = .ok (.iload 4, 2) := by decide +kernel
theorem d_X_hold_91 : decode b_X_hold 91 = .ok (.invokestatic 213, 3) := by decide +kernel
theorem d_X_hold_94 : decode b_X_hold 94 = .ok (.goto 5, 3) := by decide +kernel
theorem d_X_hold_97 : decode b_X_hold 97 = .ok (.iload 4, 2) := by decide +kernel
theorem d_X_hold_99 : decode b_X_hold 99 = .ok (.ireturn, 1) := by decide +kernel
theorem d_X_house_0 : decode b_X_house 0 = .ok (.aload_n 0, 1) := by decide +kernel
theorem d_X_house_1 : decode b_X_house 1 = .ok (.getfield 18, 3) := by decide +kernel
theorem d_X_house_4 : decode b_X_house 4 = .ok (.aload_n 0, 1) := by decide +kernel
theorem d_X_house_5 : decode b_X_house 5 = .ok (.getfield 29, 3) := by decide +kernel
theorem d_X_house_8 : decode b_X_house 8 = .ok (.invokevirtual 114, 3) := by decide +kernel
theorem d_X_house_11 : decode b_X_house 11 = .ok (.istore_n 1, 1) := by decide +kernel
theorem d_X_house_12 : decode b_X_house 12 = .ok (.aload_n 0, 1) := by decide +kernel
theorem d_X_house_13 : decode b_X_house 13 = .ok (.getfield 18, 3) := by decide +kernel
theorem d_X_house_16 : decode b_X_house 16 = .ok (.iconst 0, 1) := by decide +kernel
theorem d_X_house_17 : decode b_X_house 17 = .ok (.putfield 110, 3) := by decide +kernel
theorem d_X_house_20 : decode b_X_house 20 = .ok (.iload_n 1, 1) := by decide +kernel
theorem d_X_house_21 : decode b_X_house 21 = .ok (.ifCond .ne 14, 3) := by decide +kernel
theorem d_X_house_24 : decode b_X_house 24 = .ok (.ldc 118, 2) := by decide +kernel
theorem d_X_house_26 : decode b_X_house 26 = .ok (.aload_n 0, 1) := by decide +kernel
theorem d_X_house_27 : decode b_X_house 27 = .ok (.getfield 18, 3) := by decide +kernel
theorem d_X_house_30 : decode b_X_house 30 = .ok (.getfield 119, 3) := by decide +kernel
theorem d_X_house_33 : decode b_X_house 33 = .ok (.isub, 1) := by decide +kernel
theorem d_X_house_34 : decode b_X_house 34 = .ok (.ireturn, 1) := by decide +kernel
theorem d_X_house_35 : decode b_X_house 35 = .ok (.aload_n 0, 1) := by decide +kernel
theorem d_X_house_36 : decode b_X_house 36 = .ok (.getfield 25, 3) := by decide +kernel
theorem d_X_house_39 : decode b_X_house 39 = .ok (.aload_n 0, 1) := by decide +kernel
theorem d_X_house_40 : decode b_X_house 40 = .ok (.getfield 29, 3) := by decide +kernel
theorem d_X_house_43 : decode b_X_house 43 = .ok (.invokevirtual 122, 3) := by decide +kernel
theorem d_X_house_46 : decode b_X_house 46 = .ok (.aload_n 0, 1) := by decide +kernel
theorem d_X_house_47 : decode b_X_house 47 = .ok (.getfield 39, 3) := by decide +kernel
theorem d_X_house_50 : decode b_X_house 50 = .ok (.invokevirtual 126, 3) := by decide +kernel
theorem d_X_house_53 : decode b_X_house 53 = .ok (.aload_n 0, 1) := by decide +kernel
theorem d_X_house_54 : decode b_X_house 54 = .ok (.getfield 25, 3) := by decide +kernel
theorem d_X_house_57 : decode b_X_house 57 = .ok (.getfield 129, 3) := by decide +kernel
theorem d_X_house_60 : decode b_X_house 60 = .ok (.ireturn, 1) := by decide +kernel
theorem d_X_image_0 : decode b_X_image 0 = .ok (.iload_n 1, 1) := by decide +kernel
theorem d_X_image_1 : decode b_X_image 1 = .ok (.iconst 0, 1) := by decide +kernel
theorem d_X_image_2 : decode b_X_image 2 = .ok (.iconst 1, 1) := by decide +kernel
theorem d_X_image_3 : decode b_X_image 3 = .ok (.invokestatic 62, 3) := by decide +kernel
theorem d_X_image_6 : decode b_X_image 6 = .ok (.ifCond .ne 6, 3) := by decide +kernel
theorem d_X_image_9 : decode b_X_image 9 = .ok (.ldc 66, 2) := by decide +kernel
theorem d_X_image_11 : decode b_X_image 11 = .ok (.ireturn, 1) := by decide +kernel
theorem d_X_image_12 : decode b_X_image 12 = .ok (.aload_n 0, 1) := by decide +kernel
theorem d_X_image_13 : decode b_X_image 13 = .ok (.getfield 25, 3) := by decide +kernel
theorem d_X_image_16 : decode b_X_image 16 = .ok (.getfield 135, 3) := by decide +kernel
theorem d_X_image_19 : decode b_X_image 19 = .ok (.ifCond .ne 6, 3) := by decide +kernel
theorem d_X_image_22 : decode b_X_image 22 = .ok (.ldc 138, 2) := by decide +kernel
theorem d_X_image_24 : decode b_X_image 24 = .ok (.ireturn, 1) := by decide +kernel
theorem d_X_image_25 : decode b_X_image 25 = .ok (.aload_n 0, 1) := by decide +kernel
theorem d_X_image_26 : decode b_X_image 26 = .ok (.getfield 32, 3) := by decide +kernel
theorem d_X_image_29 : decode b_X_image 29 = .ok (.iload_n 1, 1) := by decide +kernel
theorem d_X_image_30 : decode b_X_image 30 = .ok (.aaload, 1) := by decide +kernel
theorem d_X_image_31 : decode b_X_image 31 = .ok (.aload_n 0, 1) := by decide +kernel
theorem d_X_image_32 : decode b_X_image 32 = .ok (.getfield 25, 3) := by decide +kernel
theorem d_X_image_35 : decode b_X_image 35 = .ok (.invokevirtual 122, 3) := by decide +kernel
theorem d_X_image_38 : decode b_X_image 38 = .ok (.iconst 1, 1) := by decide +kernel
theorem d_X_image_39 : decode b_X_image 39 = .ok (.ireturn, 1) := by decide +kernel
theorem d_X_init_0 : decode b_X_init 0 = .ok (.aload_n 0, 1) := by decide +kernel
theorem d_X_init_1 : decode b_X_init 1 = .ok (.invokespecial 3, 3) := by decide +kernel
theorem d_X_init_4 : decode b_X_init 4 = .ok (.aload_n 0, 1) := by decide +kernel
theorem d_X_init_5 : decode b_X_init 5 = .ok (.bipush 8, 2) := by decide +kernel
theorem d_X_init_7 : decode b_X_init 7 = .ok (.anewarray 9, 3) := by decide +kernel
theorem d_X_init_10 : decode b_X_init 10 = .ok (.putfield 11, 3) := by decide +kernel
theorem d_X_init_13 : decode b_X_init 13 = .ok (.aload_n 0, 1) := by decide +kernel
theorem d_X_init_14 : decode b_X_init 14 = .ok (.new 15, 3) := by decide +kernel
theorem d_X_init_17 : decode b_X_init 17 = .ok (.dup, 1) := by decide +kernel
theorem d_X_init_18 : decode b_X_init 18 = .ok (.invokespecial 17, 3) := by decide +kernel
theorem d_X_init_21 : decode b_X_init 21 = .ok (.putfield 18, 3) := by decide +kernel
theorem d_X_init_24 : decode b_X_init 24 = .ok (.aload_n 0, 1) := by decide +kernel
theorem d_X_init_25 : decode b_X_init 25 = .ok (.new 22, 3) := by decide +kernel
theorem d_X_init_28 : decode b_X_init 28 = .ok (.dup, 1) := by decide +kernel
theorem d_X_init_29 : decode b_X_init 29 = .ok (.invokespecial 24, 3) := by decide +kernel
theorem d_X_init_32 : decode b_X_init 32 = .ok (.putfield 25, 3) := by decide +kernel
theorem d_X_init_35 : decode b_X_init 35 = .ok (.aload_n 0, 1) := by decide +kernel
theorem d_X_init_36 : decode b_X_init 36 = .ok (.new 22, 3) := by decide +kernel
theorem d_X_init_39 : decode b_X_init 39 = .ok (.dup, 1) := by decide +kernel
theorem d_X_init_40 : decode b_X_init 40 = .ok (.invokespecial 24, 3) := by decide +kernel
theorem d_X_init_43 : decode b_X_init 43 = .ok (.putfield 29, 3) := by decide +kernel
theorem d_X_init_46 : decode b_X_init 46 = .ok (.aload_n 0, 1) := by decide +kernel
theorem d_X_init_47 : decode b_X_init 47 = .ok (.iconst 2, 1) := by decide +kernel
theorem d_X_init_48 : decode b_X_init 48 = .ok (.anewarray 22, 3) := by decide +kernel
theorem d_X_init_51 : decode b_X_init 51 = .ok (.putfield 32, 3) := by decide +kernel
theorem d_X_init_54 : decode b_X_init 54 = .ok (.aload_n 0, 1) := by decide +kernel
theorem d_X_init_55 : decode b_X_init 55 = .ok (.new 36, 3) := by decide +kernel
theorem d_X_init_58 : decode b_X_init 58 = .ok (.dup, 1) := by decide +kernel
theorem d_X_init_59 : decode b_X_init 59 = .ok (.invokespecial 38, 3) := by decide +kernel
theorem d_X_init_62 : decode b_X_init 62 = .ok (.putfield 39, 3) := by decide +kernel
theorem d_X_init_65 : decode b_X_init 65 = .ok (.aload_n 0, 1) := by decide +kernel
theorem d_X_init_66 : decode b_X_init 66 = .ok (.new 43, 3) := by decide +kernel
theorem d_X_init_69 : decode b_X_init 69 = .ok (.dup, 1) := by decide +kernel
theorem d_X_init_70 : decode b_X_init 70 = .ok (.invokespecial 45, 3) := by decide +kernel
theorem d_X_init_73 : decode b_X_init 73 = .ok (.putfield 46, 3) := by decide +kernel
theorem d_X_init_76 : decode b_X_init 76 = .ok (.aload_n 0, 1) := by decide +kernel
theorem d_X_init_77 : decode b_X_init 77 = .ok (.new 50, 3) := by decide +kernel
theorem d_X_init_80 : decode b_X_init 80 = .ok (.dup, 1) := by decide +kernel
theorem d_X_init_81 : decode b_X_init 81 = .ok (.invokespecial 52, 3) := by decide +kernel
theorem d_X_init_84 : decode b_X_init 84 = .ok (.putfield 53, 3) := by decide +kernel
theorem d_X_init_87 : decode b_X_init 87 = .ok (.iconst 0, 1) := by decide +kernel
theorem d_X_init_88 : decode b_X_init 88 = .ok (.istore_n 1, 1) := by decide +kernel
theorem d_X_init_89 : decode b_X_init 89 = .ok (.iload_n 1, 1) := by decide +kernel
theorem d_X_init_90 : decode b_X_init 90 = .ok (.aload_n 0, 1) := by decide +kernel
theorem d_X_init_91 : decode b_X_init 91 = .ok (.getfield 11, 3) := by decide +kernel
theorem d_X_init_94 : decode b_X_init 94 = .ok (.arraylength, 1) := by decide +kernel
theorem d_X_init_95 : decode b_X_init 95 = .ok (.if_icmp .ge 22, 3) := by decide +kernel
theorem d_X_init_98 : decode b_X_init 98 = .ok (.aload_n 0, 1) := by decide +kernel
theorem d_X_init_99 : decode b_X_init 99 = .ok (.getfield 11, 3) := by decide +kernel
theorem d_X_init_102 : decode b_X_init 102 = .ok (.iload_n 1, 1) := by decide +kernel
theorem d_X_init_103 : decode b_X_init 103 = .ok (.new 9, 3) := by decide +kernel
theorem d_X_init_106 : decode b_X_init 106 = .ok (.dup, 1) := by decide +kernel
theorem d_X_init_107 : decode b_X_init 107 = .ok (.invokespecial 57, 3) := by decide +kernel
theorem d_X_init_110 : decode b_X_init 110 = .ok (.aastore, 1) := by decide +kernel
theorem d_X_init_111 : decode b_X_init 111 = .ok (.iinc 1 1, 3) := by decide +kernel
theorem d_X_init_114 : decode b_X_init 114 = .ok (.goto (-25), 3) := by decide +kernel
theorem d_X_init_117 : decode b_X_init 117 = .ok (.iconst 0, 1) := by decide +kernel
theorem d_X_init_118 : decode b_X_init 118 = .ok (.istore_n 1, 1) := by decide +kernel
theorem d_X_init_119 : decode b_X_init 119 = .ok (.iload_n 1, 1) := by decide +kernel
theorem d_X_init_120 : decode b_X_init 120 = .ok (.aload_n 0, 1) := by decide +kernel
theorem d_X_init_121 : decode b_X_init 121 = .ok (.getfield 32, 3) := by decide +kernel
theorem d_X_init_124 : decode b_X_init 124 = .ok (.arraylength, 1) := by decide +kernel
theorem d_X_init_125 : decode b_X_init 125 = .ok (.if_icmp .ge 22, 3) := by decide +kernel
theorem d_X_init_128 : decode b_X_init 128 = .ok (.aload_n 0, 1) := by decide +kernel
theorem d_X_init_129 : decode b_X_init 129 = .ok (.getfield 32, 3) := by decide +kernel
theorem d_X_init_132 : decode b_X_init 132 = .ok (.iload_n 1, 1) := by decide +kernel
theorem d_X_init_133 : decode b_X_init 133 = .ok (.new 22, 3) := by decide +kernel
theorem d_X_init_136 : decode b_X_init 136 = .ok (.dup, 1) := by decide +kernel
theorem d_X_init_137 : decode b_X_init 137 = .ok (.invokespecial 24, 3) := by decide +kernel
theorem d_X_init_140 : decode b_X_init 140 = .ok (.aastore, 1) := by decide +kernel
theorem d_X_init_141 : decode b_X_init 141 = .ok (.iinc 1 1, 3) := by decide +kernel
theorem d_X_init_144 : decode b_X_init 144 = .ok (.goto (-25), 3) := by decide +kernel
theorem d_X_init_147 : decode b_X_init 147 = .ok (.return_, 1) := by decide +kernel
theorem d_X_isOfKind_0 : decode b_X_isOfKind 0 = .ok (.iload_n 0, 1) := by decide +kernel
theorem d_X_isOfKind_1 : decode b_X_isOfKind 1 = .ok (.iload_n 1, 1) := by decide +kernel
theorem d_X_isOfKind_2 : decode b_X_isOfKind 2 = .ok (.if_icmp .eq 15, 3) := by decide +kernel
theorem d_X_isOfKind_5 : decode b_X_isOfKind 5 = .ok (.iload_n 1, 1) := by decide +kernel
theorem d_X_isOfKind_6 : decode b_X_isOfKind 6 = .ok (.ifCond .eq 11, 3) := by decide +kernel
theorem d_X_isOfKind_9 : decode b_X_isOfKind 9 = .ok (.iload_n 0, 1) := by decide +kernel
theorem d_X_isOfKind_10 : decode b_X_isOfKind 10 = .ok (.invokestatic 307, 3) := by decide +kernel
theorem d_X_isOfKind_13 : decode b_X_isOfKind 13 = .ok (.iload_n 1, 1) := by decide +kernel
theorem d_X_isOfKind_14 : decode b_X_isOfKind 14 = .ok (.if_icmp .ne 7, 3) := by decide +kernel
theorem d_X_isOfKind_17 : decode b_X_isOfKind 17 = .ok (.iconst 1, 1) := by decide +kernel
theorem d_X_isOfKind_18 : decode b_X_isOfKind 18 = .ok (.goto 4, 3) := by decide +kernel
theorem d_X_isOfKind_21 : decode b_X_isOfKind 21 = .ok (.iconst 0, 1) := by decide +kernel
theorem d_X_isOfKind_22 : decode b_X_isOfKind 22 = .ok (.ireturn, 1) := by decide +kernel
theorem d_X_isRow_0 : decode b_X_isRow 0 = .ok (.iload_n 0, 1) := by decide +kernel
theorem d_X_isRow_1 : decode b_X_isRow 1 = .ok (.iconst 0, 1) := by decide +kernel
theorem d_X_isRow_2 : decode b_X_isRow 2 = .ok (.bipush 7, 2) := by decide +kernel
theorem d_X_isRow_4 : decode b_X_isRow 4 = .ok (.invokestatic 62, 3) := by decide +kernel
theorem d_X_isRow_7 : decode b_X_isRow 7 = .ok (.ireturn, 1) := by decide +kernel
theorem d_X_isSmallerPart_0 : decode b_X_isSmallerPart 0 = .ok (.iload_n 1, 1) := by decide +kernel
theorem d_X_isSmallerPart_1 : decode b_X_isSmallerPart 1 = .ok (.aload_n 0, 1) := by decide +kernel
theorem d_X_isSmallerPart_2 : decode b_X_isSmallerPart 2 = .ok (.getfield 25, 3) := by decide +kernel
theorem d_X_isSmallerPart_5 : decode b_X_isSmallerPart 5 = .ok (.getfield 149, 3) := by decide +kernel
theorem d_X_isSmallerPart_8 : decode b_X_isSmallerPart 8 = .ok (.iconst (-1), 1) := by decide +kernel
theorem d_X_isSmallerPart_9 : decode b_X_isSmallerPart 9 = .ok (.ixor, 1) := by decide +kernel
theorem d_X_isSmallerPart_10 : decode b_X_isSmallerPart 10 = .ok (.iand, 1) := by decide +kernel
theorem d_X_isSmallerPart_11 : decode b_X_isSmallerPart 11 = .ok (.ifCond .ne 18, 3) := by decide +kernel
theorem d_X_isSmallerPart_14 : decode b_X_isSmallerPart 14 = .ok (.iload_n 1, 1) := by decide +kernel
theorem d_X_isSmallerPart_15 : decode b_X_isSmallerPart 15 = .ok (.invokestatic 213, 3) := by decide +kernel
theorem d_X_isSmallerPart_18 : decode b_X_isSmallerPart 18 = .ok (.iload_n 2, 1) := by decide +kernel
theorem d_X_isSmallerPart_19 : decode b_X_isSmallerPart 19 = .ok (.invokestatic 213, 3) := by decide +kernel
theorem d_X_isSmallerPart_22 : decode b_X_isSmallerPart 22 = .ok (.if_icmp .ge 7, 3) := by decide +kernel
theorem d_X_isSmallerPart_25 : decode b_X_isSmallerPart 25 = .ok (.iconst 1, 1) := by decide +kernel
theorem d_X_isSmallerPart_26 : decode b_X_isSmallerPart 26 = .ok (.goto 4, 3) := by decide +kernel
theorem d_X_isSmallerPart_29 : decode b_X_isSmallerPart 29 = .ok (.iconst 0, 1) := by decide +kernel
theorem d_X_isSmallerPart_30 : decode b_X_isSmallerPart 30 = .ok (.ireturn, 1) := by decide +kernel
theorem d_X_isToldBy_0 : decode b_X_isToldBy 0 = .ok (.iconst 0, 1) := by decide +kernel
theorem d_X_isToldBy_1 : decode b_X_isToldBy 1 = .ok (.istore 4, 2) := by decide +kernel
theorem d_X_isToldBy_3 : decode b_X_isToldBy 3 = .ok (.iload 4, 2) := by decide +kernel
theorem d_X_isToldBy_5 : decode b_X_isToldBy 5 = .ok (.iload_n 3, 1) := by decide +kernel
theorem d_X_isToldBy_6 : decode b_X_isToldBy 6 = .ok (.if_icmp .ge 37, 3) := by decide +kernel
theorem d_X_isToldBy_9 : decode b_X_isToldBy 9 = .ok (.aload_n 0, 1) := by decide +kernel
theorem d_X_isToldBy_10 : decode b_X_isToldBy 10 = .ok (.getfield 29, 3) := by decide +kernel
theorem d_X_isToldBy_13 : decode b_X_isToldBy 13 = .ok (.invokevirtual 206, 3) := by decide +kernel
theorem d_X_isToldBy_16 : decode b_X_isToldBy 16 = .ok (.aload_n 1, 1) := by decide +kernel
theorem d_X_isToldBy_17 : decode b_X_isToldBy 17 = .ok (.iload_n 2, 1) := by decide +kernel
theorem d_X_isToldBy_18 : decode b_X_isToldBy 18 = .ok (.iload 4, 2) := by decide +kernel
theorem d_X_isToldBy_20 : decode b_X_isToldBy 20 = .ok (.iadd, 1) := by decide +kernel
theorem d_X_isToldBy_21 : decode b_X_isToldBy 21 = .ok (.invokevirtual 304, 3) := by decide +kernel
theorem d_X_isToldBy_24 : decode b_X_isToldBy 24 = .ok (.if_icmp .eq 5, 3) := by decide +kernel
theorem d_X_isToldBy_27 : decode b_X_isToldBy 27 = .ok (.iconst 0, 1) := by decide +kernel
theorem d_X_isToldBy_28 : decode b_X_isToldBy 28 = .ok (.ireturn, 1) := by decide +kernel
theorem d_X_isToldBy_29 : decode b_X_isToldBy 29 = .ok (.aload_n 0, 1) := by decide +kernel
theorem d_X_isToldBy_30 : decode b_X_isToldBy 30 = .ok (.getfield 29, 3) := by decide +kernel
theorem d_X_isToldBy_33 : decode b_X_isToldBy 33 = .ok (.invokevirtual 145, 3) := by decide +kernel
theorem d_X_isToldBy_36 : decode b_X_isToldBy 36 = .ok (.pop, 1) := by decide +kernel
theorem d_X_isToldBy_37 : decode b_X_isToldBy 37 = .ok (.iinc 4 1, 3) := by decide +kernel
theorem d_X_isToldBy_40 : decode b_X_isToldBy 40 = .ok (.goto (-37), 3) := by decide +kernel
theorem d_X_isToldBy_43 : decode b_X_isToldBy 43 = .ok (.iconst 1, 1) := by decide +kernel
theorem d_X_isToldBy_44 : decode b_X_isToldBy 44 = .ok (.ireturn, 1) := by decide +kernel
theorem d_X_isWithin_0 : decode b_X_isWithin 0 = .ok (.iload_n 0, 1) := by decide +kernel
theorem d_X_isWithin_1 : decode b_X_isWithin 1 = .ok (.iload_n 1, 1) := by decide +kernel
theorem d_X_isWithin_2 : decode b_X_isWithin 2 = .ok (.if_icmp .lt 12, 3) := by decide +kernel
theorem d_X_isWithin_5 : decode b_X_isWithin 5 = .ok (.iload_n 0, 1) := by decide +kernel
theorem d_X_isWithin_6 : decode b_X_isWithin 6 = .ok (.iload_n 2, 1) := by decide +kernel
theorem d_X_isWithin_7 : decode b_X_isWithin 7 = .ok (.if_icmp .gt 7, 3) := by decide +kernel
theorem d_X_isWithin_10 : decode b_X_isWithin 10 = .ok (.iconst 1, 1) := by decide +kernel
theorem d_X_isWithin_11 : decode b_X_isWithin 11 = .ok (.goto 4, 3) := by decide +kernel
theorem d_X_isWithin_14 : decode b_X_isWithin 14 = .ok (.iconst 0, 1) := by decide +kernel
theorem d_X_isWithin_15 : decode b_X_isWithin 15 = .ok (.ireturn, 1) := by decide +kernel
theorem d_X_kind_0 : decode b_X_kind 0 = .ok (.aload_n 0, 1) := by decide +kernel
theorem d_X_kind_1 : decode b_X_kind 1 = .ok (.getfield 25, 3) := by decide +kernel
theorem d_X_kind_4 : decode b_X_kind 4 = .ok (.iload_n 1, 1) := by decide +kernel
theorem d_X_kind_5 : decode b_X_kind 5 = .ok (.invokevirtual 152, 3) := by decide +kernel
theorem d_X_kind_8 : decode b_X_kind 8 = .ok (.ifCond .eq 18, 3) := by decide +kernel
theorem d_X_kind_11 : decode b_X_kind 11 = .ok (.aload_n 0, 1) := by decide +kernel
theorem d_X_kind_12 : decode b_X_kind 12 = .ok (.getfield 25, 3) := by decide +kernel
theorem d_X_kind_15 : decode b_X_kind 15 = .ok (.getfield 171, 3) := by decide +kernel
theorem d_X_kind_18 : decode b_X_kind 18 = .ok (.iload_n 1, 1) := by decide +kernel
theorem d_X_kind_19 : decode b_X_kind 19 = .ok (.aaload, 1) := by decide +kernel
theorem d_X_kind_20 : decode b_X_kind 20 = .ok (.getfield 277, 3) := by decide +kernel
theorem d_X_kind_23 : decode b_X_kind 23 = .ok (.goto 5, 3) := by decide +kernel
theorem d_X_kind_26 : decode b_X_kind 26 = .ok (.ldc 66, 2) := by decide +kernel
theorem d_X_kind_28 : decode b_X_kind 28 = .ok (.ireturn, 1) := by decide +kernel
theorem d_X_leastTried_0 : decode b_X_leastTried 0 = .ok (.iload_n 0, 1) := by decide +kernel
theorem d_X_leastTried_1 : decode b_X_leastTried 1 = .ok (.iconst 2, 1) := by decide +kernel
theorem d_X_leastTried_2 : decode b_X_leastTried 2 = .ok (.if_icmp .ne 7, 3) := by decide +kernel
theorem d_X_leastTried_5 : decode b_X_leastTried 5 = .ok (.iconst 1, 1) := by decide +kernel
theorem d_X_leastTried_6 : decode b_X_leastTried 6 = .ok (.goto 4, 3) := by decide +kernel
theorem d_X_leastTried_9 : decode b_X_leastTried 9 = .ok (.iconst 0, 1) := by decide +kernel
theorem d_X_leastTried_10 : decode b_X_leastTried 10 = .ok (.ireturn, 1) := by decide +kernel
theorem d_X_letter_0 : decode b_X_letter 0 = .ok (.aload_n 0, 1) := by decide +kernel
theorem d_X_letter_1 : decode b_X_letter 1 = .ok (.getfield 25, 3) := by decide +kernel
theorem d_X_letter_4 : decode b_X_letter 4 = .ok (.iload_n 1, 1) := by decide +kernel
theorem d_X_letter_5 : decode b_X_letter 5 = .ok (.invokevirtual 152, 3) := by decide +kernel
theorem d_X_letter_8 : decode b_X_letter 8 = .ok (.ifCond .ne 6, 3) := by decide +kernel
theorem d_X_letter_11 : decode b_X_letter 11 = .ok (.ldc 66, 2) := by decide +kernel
theorem d_X_letter_13 : decode b_X_letter 13 = .ok (.ireturn, 1) := by decide +kernel
theorem d_X_letter_14 : decode b_X_letter 14 = .ok (.aload_n 0, 1) := by decide +kernel
theorem d_X_letter_15 : decode b_X_letter 15 = .ok (.getfield 25, 3) := by decide +kernel
theorem d_X_letter_18 : decode b_X_letter 18 = .ok (.getfield 171, 3) := by decide +kernel
theorem d_X_letter_21 : decode b_X_letter 21 = .ok (.iload_n 1, 1) := by decide +kernel
theorem d_X_letter_22 : decode b_X_letter 22 = .ok (.aaload, 1) := by decide +kernel
theorem d_X_letter_23 : decode b_X_letter 23 = .ok (.astore_n 3, 1) := by decide +kernel
theorem d_X_letter_24 : decode b_X_letter 24 = .ok (.iload_n 2, 1) := by decide +kernel
theorem d_X_letter_25 : decode b_X_letter 25 = .ok (.tableswitch 85 0 5 #[39, 44, 49, 54, 71, 76], 39) := by decide +kernel
theorem d_X_letter_64 : decode b_X_letter 64 = .ok (.aload_n 3, 1) := by decide +kernel
theorem d_X_letter_65 : decode b_X_letter 65 = .ok (.getfield 175, 3) := by decide +kernel
theorem d_X_letter_68 : decode b_X_letter 68 = .ok (.ireturn, 1) := by decide +kernel
theorem d_X_letter_69 : decode b_X_letter 69 = .ok (.aload_n 3, 1) := by decide +kernel
theorem d_X_letter_70 : decode b_X_letter 70 = .ok (.getfield 186, 3) := by decide +kernel
theorem d_X_letter_73 : decode b_X_letter 73 = .ok (.ireturn, 1) := by decide +kernel
theorem d_X_letter_74 : decode b_X_letter 74 = .ok (.aload_n 3, 1) := by decide +kernel
theorem d_X_letter_75 : decode b_X_letter 75 = .ok (.getfield 189, 3) := by decide +kernel
theorem d_X_letter_78 : decode b_X_letter 78 = .ok (.ireturn, 1) := by decide +kernel
theorem d_X_letter_79 : decode b_X_letter 79 = .ok (.aload_n 0, 1) := by decide +kernel
theorem d_X_letter_80 : decode b_X_letter 80 = .ok (.getfield 25, 3) := by decide +kernel
theorem d_X_letter_83 : decode b_X_letter 83 = .ok (.iload_n 1, 1) := by decide +kernel
theorem d_X_letter_84 : decode b_X_letter 84 = .ok (.invokevirtual 155, 3) := by decide +kernel
theorem d_X_letter_87 : decode b_X_letter 87 = .ok (.ifCond .eq 7, 3) := by decide +kernel
theorem d_X_letter_90 : decode b_X_letter 90 = .ok (.iconst 1, 1) := by decide +kernel
theorem d_X_letter_91 : decode b_X_letter 91 = .ok (.goto 4, 3) := by decide +kernel
theorem d_X_letter_94 : decode b_X_letter 94 = .ok (.iconst 0, 1) := by decide +kernel
theorem d_X_letter_95 : decode b_X_letter 95 = .ok (.ireturn, 1) := by decide +kernel
theorem d_X_letter_96 : decode b_X_letter 96 = .ok (.aload_n 3, 1) := by decide +kernel
theorem d_X_letter_97 : decode b_X_letter 97 = .ok (.getfield 192, 3) := by decide +kernel
theorem d_X_letter_100 : decode b_X_letter 100 = .ok (.ireturn, 1) := by decide +kernel
theorem d_X_letter_101 : decode b_X_letter 101 = .ok (.aload_n 0, 1) := by decide +kernel
theorem d_X_letter_102 : decode b_X_letter 102 = .ok (.getfield 25, 3) := by decide +kernel
theorem d_X_letter_105 : decode b_X_letter 105 = .ok (.iload_n 1, 1) := by decide +kernel
theorem d_X_letter_106 : decode b_X_letter 106 = .ok (.invokevirtual 195, 3) := by decide +kernel
theorem d_X_letter_109 : decode b_X_letter 109 = .ok (.ireturn, 1) := by decide +kernel
theorem d_X_letter_110 : decode b_X_letter 110 = .ok (.ldc 66, 2) := by decide +kernel
theorem d_X_letter_112 : decode b_X_letter 112 = .ok (.ireturn, 1) := by decide +kernel
theorem d_X_lost_0 : decode b_X_lost 0 = .ok (.aload_n 0, 1) := by decide +kernel
theorem d_X_lost_1 : decode b_X_lost 1 = .ok (.iload_n 1, 1) := by decide +kernel
theorem d_X_lost_2 : decode b_X_lost 2 = .ok (.iconst 0, 1) := by decide +kernel
theorem d_X_lost_3 : decode b_X_lost 3 = .ok (.sipush 300, 3) := by decide +kernel
theorem d_X_lost_6 : decode b_X_lost 6 = .ok (.invokestatic 62, 3) := by decide +kernel
theorem d_X_lost_9 : decode b_X_lost 9 = .ok (.ifCond .eq 26, 3) := by decide +kernel
theorem d_X_lost_12 : decode b_X_lost 12 = .ok (.iload_n 2, 1) := by decide +kernel
theorem d_X_lost_13 : decode b_X_lost 13 = .ok (.iconst 0, 1) := by decide +kernel
theorem d_X_lost_14 : decode b_X_lost 14 = .ok (.bipush 10, 2) := by decide +kernel
theorem d_X_lost_16 : decode b_X_lost 16 = .ok (.invokestatic 62, 3) := by decide +kernel
theorem d_X_lost_19 : decode b_X_lost 19 = .ok (.ifCond .eq 16, 3) := by decide +kernel
theorem d_X_lost_22 : decode b_X_lost 22 = .ok (.iload_n 3, 1) := by decide +kernel
theorem d_X_lost_23 : decode b_X_lost 23 = .ok (.iconst 0, 1) := by decide +kernel
theorem d_X_lost_24 : decode b_X_lost 24 = .ok (.iconst 1, 1) := by decide +kernel
theorem d_X_lost_25 : decode b_X_lost 25 = .ok (.invokestatic 62, 3) := by decide +kernel
theorem d_X_lost_28 : decode b_X_lost 28 = .ok (.ifCond .eq 7, 3) := by decide +kernel
theorem d_X_lost_31 : decode b_X_lost 31 = .ok (.iconst 1, 1) := by decide +kernel
theorem d_X_lost_32 : decode b_X_lost 32 = .ok (.goto 4, 3) := by decide +kernel
theorem d_X_lost_35 : decode b_X_lost 35 = .ok (.iconst 0, 1) := by decide +kernel
theorem d_X_lost_36 : decode b_X_lost 36 = .ok (.invokevirtual 198, 3) := by decide +kernel
theorem d_X_lost_39 : decode b_X_lost 39 = .ok (.istore 4, 2) := by decide +kernel
theorem d_X_lost_41 : decode b_X_lost 41 = .ok (.iload 4, 2) := by decide +kernel
theorem d_X_lost_43 : decode b_X_lost 43 = .ok (.ifCond .eq 6, 3) := by decide +kernel
theorem d_X_lost_46 : decode b_X_lost 46 = .ok (.iload 4, 2) := by decide +kernel
theorem d_X_lost_48 : decode b_X_lost 48 = .ok (.ireturn, 1) := by decide +kernel
theorem d_X_lost_49 : decode b_X_lost 49 = .ok (.iconst 0, 1) := by decide +kernel
theorem d_X_lost_50 : decode b_X_lost 50 = .ok (.istore 5, 2) := by decide +kernel
theorem d_X_lost_52 : decode b_X_lost 52 = .ok (.iconst 0, 1) := by decide +kernel
theorem d_X_lost_53 : decode b_X_lost 53 = .ok (.istore 6, 2) := by decide +kernel
theorem d_X_lost_55 : decode b_X_lost 55 = .ok (.iload 6, 2) := by decide +kernel
theorem d_X_lost_57 : decode b_X_lost 57 = .ok (.bipush 64, 2) := by decide +kernel
theorem d_X_lost_59 : decode b_X_lost 59 = .ok (.if_icmp .ge 93, 3) := by decide +kernel
theorem d_X_lost_62 : decode b_X_lost 62 = .ok (.iload 6, 2) := by decide +kernel
theorem d_X_lost_64 : decode b_X_lost 64 = .ok (.aload_n 0, 1) := by decide +kernel
theorem d_X_lost_65 : decode b_X_lost 65 = .ok (.getfield 25, 3) := by decide +kernel
theorem d_X_lost_68 : decode b_X_lost 68 = .ok (.getfield 149, 3) := by decide +kernel
theorem d_X_lost_71 : decode b_X_lost 71 = .ok (.iconst (-1), 1) := by decide +kernel
theorem d_X_lost_72 : decode b_X_lost 72 = .ok (.ixor, 1) := by decide +kernel
theorem d_X_lost_73 : decode b_X_lost 73 = .ok (.iand, 1) := by decide +kernel
theorem d_X_lost_74 : decode b_X_lost 74 = .ok (.ifCond .ne 72, 3) := by decide +kernel
theorem d_X_lost_77 : decode b_X_lost 77 = .ok (.aload_n 0, 1) := by decide +kernel
theorem d_X_lost_78 : decode b_X_lost 78 = .ok (.iload 6, 2) := by decide +kernel
theorem d_X_lost_80 : decode b_X_lost 80 = .ok (.invokevirtual 254, 3) := by decide +kernel
theorem d_X_lost_83 : decode b_X_lost 83 = .ok (.aload_n 0, 1) := by decide +kernel
theorem d_X_lost_84 : decode b_X_lost 84 = .ok (.getfield 29, 3) := by decide +kernel
theorem d_X_lost_87 : decode b_X_lost 87 = .ok (.getfield 149, 3) := by decide +kernel
theorem d_X_lost_90 : decode b_X_lost 90 = .ok (.invokestatic 213, 3) := by decide +kernel
theorem d_X_lost_93 : decode b_X_lost 93 = .ok (.istore 7, 2) := by decide +kernel
theorem d_X_lost_95 : decode b_X_lost 95 = .ok (.aload_n 0, 1) := by decide +kernel
theorem d_X_lost_96 : decode b_X_lost 96 = .ok (.getfield 29, 3) := by decide +kernel
theorem d_X_lost_99 : decode b_X_lost 99 = .ok (.invokevirtual 206, 3) := by decide +kernel
theorem d_X_lost_102 : decode b_X_lost 102 = .ok (.iload_n 1, 1) := by decide +kernel
theorem d_X_lost_103 : decode b_X_lost 103 = .ok (.if_icmp .gt 7, 3) := by decide +kernel
theorem d_X_lost_106 : decode b_X_lost 106 = .ok (.iconst 1, 1) := by decide +kernel
theorem d_X_lost_107 : decode b_X_lost 107 = .ok (.goto 4, 3) := by decide +kernel
theorem d_X_lost_110 : decode b_X_lost 110 = .ok (.iconst 0, 1) := by decide +kernel
theorem d_X_lost_111 : decode b_X_lost 111 = .ok (.istore 8, 2) := by decide +kernel
theorem d_X_lost_113 : decode b_X_lost 113 = .ok (.iload 5, 2) := by decide +kernel
theorem d_X_lost_115 : decode b_X_lost 115 = .ok (.iload 8, 2) := by decide +kernel
theorem d_X_lost_117 : decode b_X_lost 117 = .ok (.ifCond .eq 25, 3) := by decide +kernel
theorem d_X_lost_120 : decode b_X_lost 120 = .ok (.iload_n 2, 1) := by decide +kernel
theorem d_X_lost_121 : decode b_X_lost 121 = .ok (.iload 6, 2) := by decide +kernel
theorem d_X_lost_123 : decode b_X_lost 123 = .ok (.invokestatic 213, 3) := by decide +kernel
theorem d_X_lost_126 : decode b_X_lost 126 = .ok (.invokestatic 257, 3) := by decide +kernel
theorem d_X_lost_129 : decode b_X_lost 129 = .ok (.bipush 10, 2) := by decide +kernel
theorem d_X_lost_131 : decode b_X_lost 131 = .ok (.iload_n 2, 1) := by decide +kernel
theorem d_X_lost_132 : decode b_X_lost 132 = .ok (.isub, 1) := by decide +kernel
theorem d_X_lost_133 : decode b_X_lost 133 = .ok (.iload 7, 2) := by decide +kernel
theorem d_X_lost_135 : decode b_X_lost 135 = .ok (.invokestatic 257, 3) := by decide +kernel
theorem d_X_lost_138 : decode b_X_lost 138 = .ok (.imul, 1) := by decide +kernel
theorem d_X_lost_139 : decode b_X_lost 139 = .ok (.goto 4, 3) := by decide +kernel
theorem d_X_lost_142 : decode b_X_lost 142 = .ok (.iconst 0, 1) := by decide +kernel
theorem d_X_lost_143 : decode b_X_lost 143 = .ok (.iadd, 1) := by decide +kernel
theorem d_X_lost_144 : decode b_X_lost 144 = .ok (.istore 5, 2) := by decide +kernel
theorem d_X_lost_146 : decode b_X_lost 146 = .ok (.iinc 6 1, 3) := by decide +kernel
theorem d_X_lost_149 : decode b_X_lost 149 = .ok (.goto (-94), 3) := by decide +kernel
theorem d_X_lost_152 : decode b_X_lost 152 = .ok (.bipush 10, 2) := by decide +kernel
theorem d_X_lost_154 : decode b_X_lost 154 = .ok (.aload_n 0, 1) := by decide +kernel
theorem d_X_lost_155 : decode b_X_lost 155 = .ok (.getfield 25, 3) := by decide +kernel
theorem d_X_lost_158 : decode b_X_lost 158 = .ok (.getfield 149, 3) := by decide +kernel
theorem d_X_lost_161 : decode b_X_lost 161 = .ok (.invokestatic 213, 3) := by decide +kernel
theorem d_X_lost_164 : decode b_X_lost 164 = .ok (.invokestatic 257, 3) := by decide +kernel
theorem d_X_lost_167 : decode b_X_lost 167 = .ok (.istore 6, 2) := by decide +kernel
theorem d_X_lost_169 : decode b_X_lost 169 = .ok (.iconst 1, 1) := by decide +kernel
theorem d_X_lost_170 : decode b_X_lost 170 = .ok (.iload 5, 2) := by decide +kernel
theorem d_X_lost_172 : decode b_X_lost 172 = .ok (.iload 6, 2) := by decide +kernel
theorem d_X_lost_174 : decode b_X_lost 174 = .ok (.invokestatic 260, 3) := by decide +kernel
theorem d_X_lost_177 : decode b_X_lost 177 = .ok (.invokestatic 263, 3) := by decide +kernel
theorem d_X_lost_180 : decode b_X_lost 180 = .ok (.istore 7, 2) := by decide +kernel
theorem d_X_lost_182 : decode b_X_lost 182 = .ok (.iload_n 3, 1) := by decide +kernel
theorem d_X_lost_183 : decode b_X_lost 183 = .ok (.ifCond .ne 11, 3) := by decide +kernel
theorem d_X_lost_186 : decode b_X_lost 186 = .ok (.iload 5, 2) := by decide +kernel
theorem d_X_lost_188 : decode b_X_lost 188 = .ok (.iload 7, 2) := by decide +kernel
theorem d_X_lost_190 : decode b_X_lost 190 = .ok (.idiv, 1) := by decide +kernel
theorem d_X_lost_191 : decode b_X_lost 191 = .ok (.goto 8, 3) := by decide +kernel
theorem d_X_lost_194 : decode b_X_lost 194 = .ok (.iload 6, 2) := by decide +kernel
theorem d_X_lost_196 : decode b_X_lost 196 = .ok (.iload 7, 2) := by decide +kernel
theorem d_X_lost_198 : decode b_X_lost 198 = .ok (.idiv, 1) := by decide +kernel
theorem d_X_lost_199 : decode b_X_lost 199 = .ok (.ireturn, 1) := by decide +kernel
theorem d_X_mostTried_0 : decode b_X_mostTried 0 = .ok (.iload_n 0, 1) := by decide +kernel
theorem d_X_mostTried_1 : decode b_X_mostTried 1 = .ok (.lookupswitch 33 #[(0, 27), (1, 30)], 27) := by decide +kernel
theorem d_X_mostTried_28 : decode b_X_mostTried 28 = .ok (.bipush 9, 2) := by decide +kernel
theorem d_X_mostTried_30 : decode b_X_mostTried 30 = .ok (.ireturn, 1) := by decide +kernel
theorem d_X_mostTried_31 : decode b_X_mostTried 31 = .ok (.bipush 20, 2) := by decide +kernel
theorem d_X_mostTried_33 : decode b_X_mostTried 33 = .ok (.ireturn, 1) := by decide +kernel
theorem d_X_mostTried_34 : decode b_X_mostTried 34 = .ok (.iconst 5, 1) := by decide +kernel
theorem d_X_mostTried_35 : decode b_X_mostTried 35 = .ok (.ireturn, 1) := by decide +kernel
theorem d_X_nearestKind_0 : decode b_X_nearestKind 0 = .ok (.iload_n 0, 1) := by decide +kernel
theorem d_X_nearestKind_1 : decode b_X_nearestKind 1 = .ok (.iconst 0, 1) := by decide +kernel
theorem d_X_nearestKind_2 : decode b_X_nearestKind 2 = .ok (.iconst 5, 1) := by decide +kernel
theorem d_X_nearestKind_3 : decode b_X_nearestKind 3 = .ok (.invokestatic 62, 3) := by decide +kernel
theorem d_X_nearestKind_6 : decode b_X_nearestKind 6 = .ok (.ifCond .eq 11, 3) := by decide +kernel
theorem d_X_nearestKind_9 : decode b_X_nearestKind 9 = .ok (.getstatic 310, 3) := by decide +kernel
theorem d_X_nearestKind_12 : decode b_X_nearestKind 12 = .ok (.iload_n 0, 1) := by decide +kernel
theorem d_X_nearestKind_13 : decode b_X_nearestKind 13 = .ok (.iaload, 1) := by decide +kernel
theorem d_X_nearestKind_14 : decode b_X_nearestKind 14 = .ok (.goto 4, 3) := by decide +kernel
theorem d_X_nearestKind_17 : decode b_X_nearestKind 17 = .ok (.iconst 0, 1) := by decide +kernel
theorem d_X_nearestKind_18 : decode b_X_nearestKind 18 = .ok (.ireturn, 1) := by decide +kernel
theorem d_X_nothingFallsWithout_0 : decode b_X_nothingFallsWithout 0 = .ok (.aload_n 0, 1) := by decide +kernel
theorem d_X_nothingFallsWithout_1 : decode b_X_nothingFallsWithout 1 = .ok (.iload_n 1, 1) := by decide +kernel
theorem d_X_nothingFallsWithout_2 : decode b_X_nothingFallsWithout 2 = .ok (.invokevirtual 254, 3) := by decide +kernel
theorem d_X_nothingFallsWithout_5 : decode b_X_nothingFallsWithout 5 = .ok (.iconst 0, 1) := by decide +kernel
theorem d_X_nothingFallsWithout_6 : decode b_X_nothingFallsWithout 6 = .ok (.istore_n 3, 1) := by decide +kernel
theorem d_X_nothingFallsWithout_7 : decode b_X_nothingFallsWithout 7 = .ok (.iload_n 3, 1) := by decide +kernel
theorem d_X_nothingFallsWithout_8 : decode b_X_nothingFallsWithout 8 = .ok (.iload_n 2, 1) := by decide +kernel
theorem d_X_nothingFallsWithout_9 : decode b_X_nothingFallsWithout 9 = .ok (.if_icmp .ge 23, 3) := by decide +kernel
theorem d_X_nothingFallsWithout_12 : decode b_X_nothingFallsWithout 12 = .ok (.aload_n 0, 1) := by decide +kernel
theorem d_X_nothingFallsWithout_13 : decode b_X_nothingFallsWithout 13 = .ok (.getfield 29, 3) := by decide +kernel
theorem d_X_nothingFallsWithout_16 : decode b_X_nothingFallsWithout 16 = .ok (.invokevirtual 145, 3) := by decide +kernel
theorem d_X_nothingFallsWithout_19 : decode b_X_nothingFallsWithout 19 = .ok (.ldc 212, 2) := by decide +kernel
theorem d_X_nothingFallsWithout_21 : decode b_X_nothingFallsWithout 21 = .ok (.if_icmp .eq 5, 3) := by decide +kernel
theorem d_X_nothingFallsWithout_24 : decode b_X_nothingFallsWithout 24 = .ok (.iconst 0, 1) := by decide +kernel
theorem d_X_nothingFallsWithout_25 : decode b_X_nothingFallsWithout 25 = .ok (.ireturn, 1) := by decide +kernel
theorem d_X_nothingFallsWithout_26 : decode b_X_nothingFallsWithout 26 = .ok (.iinc 3 1, 3) := by decide +kernel
theorem d_X_nothingFallsWithout_29 : decode b_X_nothingFallsWithout 29 = .ok (.goto (-22), 3) := by decide +kernel
theorem d_X_nothingFallsWithout_32 : decode b_X_nothingFallsWithout 32 = .ok (.iconst 1, 1) := by decide +kernel
theorem d_X_nothingFallsWithout_33 : decode b_X_nothingFallsWithout 33 = .ok (.ireturn, 1) := by decide +kernel
theorem d_X_order_0 : decode b_X_order 0 = .ok (.iload_n 1, 1) := by decide +kernel
theorem d_X_order_1 : decode b_X_order 1 = .ok (.aload_n 0, 1) := by decide +kernel
theorem d_X_order_2 : decode b_X_order 2 = .ok (.getfield 25, 3) := by decide +kernel
theorem d_X_order_5 : decode b_X_order 5 = .ok (.getfield 149, 3) := by decide +kernel
theorem d_X_order_8 : decode b_X_order 8 = .ok (.iconst (-1), 1) := by decide +kernel
theorem d_X_order_9 : decode b_X_order 9 = .ok (.ixor, 1) := by decide +kernel
theorem d_X_order_10 : decode b_X_order 10 = .ok (.iand, 1) := by decide +kernel
theorem d_X_order_11 : decode b_X_order 11 = .ok (.ifCond .ne 7, 3) := by decide +kernel
theorem d_X_order_14 : decode b_X_order 14 = .ok (.iconst 1, 1) := by decide +kernel
theorem d_X_order_15 : decode b_X_order 15 = .ok (.goto 4, 3) := by decide +kernel
theorem d_X_order_18 : decode b_X_order 18 = .ok (.iconst 0, 1) := by decide +kernel
theorem d_X_order_19 : decode b_X_order 19 = .ok (.istore_n 3, 1) := by decide +kernel
theorem d_X_order_20 : decode b_X_order 20 = .ok (.aload_n 0, 1) := by decide +kernel
theorem d_X_order_21 : decode b_X_order 21 = .ok (.iload_n 3, 1) := by decide +kernel
theorem d_X_order_22 : decode b_X_order 22 = .ok (.ifCond .eq 16, 3) := by decide +kernel
theorem d_X_order_25 : decode b_X_order 25 = .ok (.iload_n 2, 1) := by decide +kernel
theorem d_X_order_26 : decode b_X_order 26 = .ok (.iconst (-1), 1) := by decide +kernel
theorem d_X_order_27 : decode b_X_order 27 = .ok (.iconst 5, 1) := by decide +kernel
theorem d_X_order_28 : decode b_X_order 28 = .ok (.invokestatic 62, 3) := by decide +kernel
theorem d_X_order_31 : decode b_X_order 31 = .ok (.ifCond .eq 7, 3) := by decide +kernel
theorem d_X_order_34 : decode b_X_order 34 = .ok (.iconst 1, 1) := by decide +kernel
theorem d_X_order_35 : decode b_X_order 35 = .ok (.goto 4, 3) := by decide +kernel
theorem d_X_order_38 : decode b_X_order 38 = .ok (.iconst 0, 1) := by decide +kernel
theorem d_X_order_39 : decode b_X_order 39 = .ok (.invokevirtual 198, 3) := by decide +kernel
theorem d_X_order_42 : decode b_X_order 42 = .ok (.istore 4, 2) := by decide +kernel
theorem d_X_order_44 : decode b_X_order 44 = .ok (.iload 4, 2) := by decide +kernel
theorem d_X_order_46 : decode b_X_order 46 = .ok (.ifCond .eq 6, 3) := by decide +kernel
theorem d_X_order_49 : decode b_X_order 49 = .ok (.iload 4, 2) := by decide +kernel
theorem d_X_order_51 : decode b_X_order 51 = .ok (.ireturn, 1) := by decide +kernel
theorem d_X_order_52 : decode b_X_order 52 = .ok (.iload_n 2, 1) := by decide +kernel
theorem d_X_order_53 : decode b_X_order 53 = .ok (.iload_n 1, 1) := by decide +kernel
theorem d_X_order_54 : decode b_X_order 54 = .ok (.invokestatic 213, 3) := by decide +kernel
theorem d_X_order_57 : decode b_X_order 57 = .ok (.if_icmp .lt 6, 3) := by decide +kernel
theorem d_X_order_60 : decode b_X_order 60 = .ok (.ldc 212, 2) := by decide +kernel
theorem d_X_order_62 : decode b_X_order 62 = .ok (.ireturn, 1) := by decide +kernel
theorem d_X_order_63 : decode b_X_order 63 = .ok (.aload_n 0, 1) := by decide +kernel
theorem d_X_order_64 : decode b_X_order 64 = .ok (.getfield 46, 3) := by decide +kernel
theorem d_X_order_67 : decode b_X_order 67 = .ok (.aload_n 0, 1) := by decide +kernel
theorem d_X_order_68 : decode b_X_order 68 = .ok (.getfield 25, 3) := by decide +kernel
theorem d_X_order_71 : decode b_X_order 71 = .ok (.iload_n 1, 1) := by decide +kernel
theorem d_X_order_72 : decode b_X_order 72 = .ok (.invokevirtual 218, 3) := by decide +kernel
theorem d_X_order_75 : decode b_X_order 75 = .ok (.iload_n 2, 1) := by decide +kernel
theorem d_X_order_76 : decode b_X_order 76 = .ok (.ifCond .ge 13, 3) := by decide +kernel
theorem d_X_order_79 : decode b_X_order 79 = .ok (.aload_n 0, 1) := by decide +kernel
theorem d_X_order_80 : decode b_X_order 80 = .ok (.getfield 46, 3) := by decide +kernel
theorem d_X_order_83 : decode b_X_order 83 = .ok (.getfield 222, 3) := by decide +kernel
theorem d_X_order_86 : decode b_X_order 86 = .ok (.goto 12, 3) := by decide +kernel
theorem d_X_order_89 : decode b_X_order 89 = .ok (.aload_n 0, 1) := by decide +kernel
theorem d_X_order_90 : decode b_X_order 90 = .ok (.getfield 46, 3) := by decide +kernel
theorem d_X_order_93 : decode b_X_order 93 = .ok (.getfield 225, 3) := by decide +kernel
theorem d_X_order_96 : decode b_X_order 96 = .ok (.iload_n 2, 1) := by decide +kernel
theorem d_X_order_97 : decode b_X_order 97 = .ok (.iaload, 1) := by decide +kernel
theorem d_X_order_98 : decode b_X_order 98 = .ok (.ireturn, 1) := by decide +kernel
theorem d_X_post_0 : decode b_X_post 0 = .ok (.aload_n 0, 1) := by decide +kernel
theorem d_X_post_1 : decode b_X_post 1 = .ok (.getfield 25, 3) := by decide +kernel
theorem d_X_post_4 : decode b_X_post 4 = .ok (.iload_n 1, 1) := by decide +kernel
theorem d_X_post_5 : decode b_X_post 5 = .ok (.invokevirtual 152, 3) := by decide +kernel
theorem d_X_post_8 : decode b_X_post 8 = .ok (.ifCond .ne 6, 3) := by decide +kernel
theorem d_X_post_11 : decode b_X_post 11 = .ok (.ldc 66, 2) := by decide +kernel
theorem d_X_post_13 : decode b_X_post 13 = .ok (.ireturn, 1) := by decide +kernel
theorem d_X_post_14 : decode b_X_post 14 = .ok (.aload_n 0, 1) := by decide +kernel
theorem d_X_post_15 : decode b_X_post 15 = .ok (.getfield 25, 3) := by decide +kernel
theorem d_X_post_18 : decode b_X_post 18 = .ok (.iload_n 1, 1) := by decide +kernel
theorem d_X_post_19 : decode b_X_post 19 = .ok (.invokevirtual 155, 3) := by decide +kernel
theorem d_X_post_22 : decode b_X_post 22 = .ok (.ifCond .eq 6, 3) := by decide +kernel
theorem d_X_post_25 : decode b_X_post 25 = .ok (.ldc 138, 2) := by decide +kernel
theorem d_X_post_27 : decode b_X_post 27 = .ok (.ireturn, 1) := by decide +kernel
theorem d_X_post_28 : decode b_X_post 28 = .ok (.aload_n 0, 1) := by decide +kernel
theorem d_X_post_29 : decode b_X_post 29 = .ok (.getfield 39, 3) := by decide +kernel
theorem d_X_post_32 : decode b_X_post 32 = .ok (.aload_n 0, 1) := by decide +kernel
theorem d_X_post_33 : decode b_X_post 33 = .ok (.getfield 25, 3) := by decide +kernel
theorem d_X_post_36 : decode b_X_post 36 = .ok (.invokevirtual 142, 3) := by decide +kernel
theorem d_X_post_39 : decode b_X_post 39 = .ok (.aload_n 0, 1) := by decide +kernel
theorem d_X_post_40 : decode b_X_post 40 = .ok (.getfield 25, 3) := by decide +kernel
theorem d_X_post_43 : decode b_X_post 43 = .ok (.iload_n 1, 1) := by decide +kernel
theorem d_X_post_44 : decode b_X_post 44 = .ok (.invokevirtual 165, 3) := by decide +kernel
theorem d_X_post_47 : decode b_X_post 47 = .ok (.aload_n 0, 1) := by decide +kernel
theorem d_X_post_48 : decode b_X_post 48 = .ok (.getfield 25, 3) := by decide +kernel
theorem d_X_post_51 : decode b_X_post 51 = .ok (.invokevirtual 168, 3) := by decide +kernel
theorem d_X_post_54 : decode b_X_post 54 = .ok (.ireturn, 1) := by decide +kernel
theorem d_X_power_0 : decode b_X_power 0 = .ok (.iconst 1, 1) := by decide +kernel
theorem d_X_power_1 : decode b_X_power 1 = .ok (.istore_n 2, 1) := by decide +kernel
theorem d_X_power_2 : decode b_X_power 2 = .ok (.iconst 0, 1) := by decide +kernel
theorem d_X_power_3 : decode b_X_power 3 = .ok (.istore_n 3, 1) := by decide +kernel
theorem d_X_power_4 : decode b_X_power 4 = .ok (.iload_n 3, 1) := by decide +kernel
theorem d_X_power_5 : decode b_X_power 5 = .ok (.iload_n 1, 1) := by decide +kernel
theorem d_X_power_6 : decode b_X_power 6 = .ok (.if_icmp .ge 13, 3) := by decide +kernel
theorem d_X_power_9 : decode b_X_power 9 = .ok (.iload_n 2, 1) := by decide +kernel
theorem d_X_power_10 : decode b_X_power 10 = .ok (.iload_n 0, 1) := by decide +kernel
theorem d_X_power_11 : decode b_X_power 11 = .ok (.imul, 1) := by decide +kernel
theorem d_X_power_12 : decode b_X_power 12 = .ok (.istore_n 2, 1) := by decide +kernel
theorem d_X_power_13 : decode b_X_power 13 = .ok (.iinc 3 1, 3) := by decide +kernel
theorem d_X_power_16 : decode b_X_power 16 = .ok (.goto (-12), 3) := by decide +kernel
theorem d_X_power_19 : decode b_X_power 19 = .ok (.iload_n 2, 1) := by decide +kernel
theorem d_X_power_20 : decode b_X_power 20 = .ok (.ireturn, 1) := by decide +kernel
theorem d_X_refusalOf_0 : decode b_X_refusalOf 0 = .ok (.aload_n 0, 1) := by decide +kernel
theorem d_X_refusalOf_1 : decode b_X_refusalOf 1 = .ok (.getfield 25, 3) := by decide +kernel
theorem d_X_refusalOf_4 : decode b_X_refusalOf 4 = .ok (.getfield 135, 3) := by decide +kernel
theorem d_X_refusalOf_7 : decode b_X_refusalOf 7 = .ok (.ifCond .ne 6, 3) := by decide +kernel
theorem d_X_refusalOf_10 : decode b_X_refusalOf 10 = .ok (.ldc 138, 2) := by decide +kernel
theorem d_X_refusalOf_12 : decode b_X_refusalOf 12 = .ok (.ireturn, 1) := by decide +kernel
theorem d_X_refusalOf_13 : decode b_X_refusalOf 13 = .ok (.iload_n 1, 1) := by decide +kernel
theorem d_X_refusalOf_14 : decode b_X_refusalOf 14 = .ok (.ifCond .eq 7, 3) := by decide +kernel
theorem d_X_refusalOf_17 : decode b_X_refusalOf 17 = .ok (.iconst 0, 1) := by decide +kernel
theorem d_X_refusalOf_18 : decode b_X_refusalOf 18 = .ok (.goto 5, 3) := by decide +kernel
theorem d_X_refusalOf_21 : decode b_X_refusalOf 21 = .ok (.ldc 66, 2) := by decide +kernel
theorem d_X_refusalOf_23 : decode b_X_refusalOf 23 = .ok (.ireturn, 1) := by decide +kernel
theorem d_X_restore_0 : decode b_X_restore 0 = .ok (.iload_n 1, 1) := by decide +kernel
theorem d_X_restore_1 : decode b_X_restore 1 = .ok (.iconst 0, 1) := by decide +kernel
theorem d_X_restore_2 : decode b_X_restore 2 = .ok (.iconst 1, 1) := by decide +kernel
theorem d_X_restore_3 : decode b_X_restore 3 = .ok (.invokestatic 62, 3) := by decide +kernel
theorem d_X_restore_6 : decode b_X_restore 6 = .ok (.ifCond .ne 6, 3) := by decide +kernel
theorem d_X_restore_9 : decode b_X_restore 9 = .ok (.ldc 66, 2) := by decide +kernel
theorem d_X_restore_11 : decode b_X_restore 11 = .ok (.ireturn, 1) := by decide +kernel
theorem d_X_restore_12 : decode b_X_restore 12 = .ok (.aload_n 0, 1) := by decide +kernel
theorem d_X_restore_13 : decode b_X_restore 13 = .ok (.getfield 32, 3) := by decide +kernel
theorem d_X_restore_16 : decode b_X_restore 16 = .ok (.iload_n 1, 1) := by decide +kernel
theorem d_X_restore_17 : decode b_X_restore 17 = .ok (.aaload, 1) := by decide +kernel
theorem d_X_restore_18 : decode b_X_restore 18 = .ok (.getfield 135, 3) := by decide +kernel
theorem d_X_restore_21 : decode b_X_restore 21 = .ok (.ifCond .ne 6, 3) := by decide +kernel
theorem d_X_restore_24 : decode b_X_restore 24 = .ok (.ldc 138, 2) := by decide +kernel
theorem d_X_restore_26 : decode b_X_restore 26 = .ok (.ireturn, 1) := by decide +kernel
theorem d_X_restore_27 : decode b_X_restore 27 = .ok (.aload_n 0, 1) := by decide +kernel
theorem d_X_restore_28 : decode b_X_restore 28 = .ok (.getfield 25, 3) := by decide +kernel
theorem d_X_restore_31 : decode b_X_restore 31 = .ok (.aload_n 0, 1) := by decide +kernel
theorem d_X_restore_32 : decode b_X_restore 32 = .ok (.getfield 32, 3) := by decide +kernel
theorem d_X_restore_35 : decode b_X_restore 35 = .ok (.iload_n 1, 1) := by decide +kernel
theorem d_X_restore_36 : decode b_X_restore 36 = .ok (.aaload, 1) := by decide +kernel
theorem d_X_restore_37 : decode b_X_restore 37 = .ok (.invokevirtual 122, 3) := by decide +kernel
theorem d_X_restore_40 : decode b_X_restore 40 = .ok (.aload_n 0, 1) := by decide +kernel
theorem d_X_restore_41 : decode b_X_restore 41 = .ok (.getfield 39, 3) := by decide +kernel
theorem d_X_restore_44 : decode b_X_restore 44 = .ok (.invokevirtual 126, 3) := by decide +kernel
theorem d_X_restore_47 : decode b_X_restore 47 = .ok (.iconst 1, 1) := by decide +kernel
theorem d_X_restore_48 : decode b_X_restore 48 = .ok (.ireturn, 1) := by decide +kernel
theorem d_X_row_0 : decode b_X_row 0 = .ok (.iload_n 1, 1) := by decide +kernel
theorem d_X_row_1 : decode b_X_row 1 = .ok (.invokestatic 58, 3) := by decide +kernel
theorem d_X_row_4 : decode b_X_row 4 = .ok (.ifCond .eq 18, 3) := by decide +kernel
theorem d_X_row_7 : decode b_X_row 7 = .ok (.iload_n 2, 1) := by decide +kernel
theorem d_X_row_8 : decode b_X_row 8 = .ok (.iconst 0, 1) := by decide +kernel
theorem d_X_row_9 : decode b_X_row 9 = .ok (.iconst 2, 1) := by decide +kernel
theorem d_X_row_10 : decode b_X_row 10 = .ok (.invokestatic 62, 3) := by decide +kernel
theorem d_X_row_13 : decode b_X_row 13 = .ok (.ifCond .eq 9, 3) := by decide +kernel
theorem d_X_row_16 : decode b_X_row 16 = .ok (.iload_n 3, 1) := by decide +kernel
theorem d_X_row_17 : decode b_X_row 17 = .ok (.bipush 40, 2) := by decide +kernel
theorem d_X_row_19 : decode b_X_row 19 = .ok (.if_icmp .le 6, 3) := by decide +kernel
theorem d_X_row_22 : decode b_X_row 22 = .ok (.ldc 66, 2) := by decide +kernel
theorem d_X_row_24 : decode b_X_row 24 = .ok (.ireturn, 1) := by decide +kernel
theorem d_X_row_25 : decode b_X_row 25 = .ok (.iload_n 3, 1) := by decide +kernel
theorem d_X_row_26 : decode b_X_row 26 = .ok (.ifCond .ge 9, 3) := by decide +kernel
theorem d_X_row_29 : decode b_X_row 29 = .ok (.aload_n 0, 1) := by decide +kernel
theorem d_X_row_30 : decode b_X_row 30 = .ok (.iconst 4, 1) := by decide +kernel
theorem d_X_row_31 : decode b_X_row 31 = .ok (.invokevirtual 67, 3) := by decide +kernel
theorem d_X_row_34 : decode b_X_row 34 = .ok (.ireturn, 1) := by decide +kernel
theorem d_X_row_35 : decode b_X_row 35 = .ok (.aload_n 0, 1) := by decide +kernel
theorem d_X_row_36 : decode b_X_row 36 = .ok (.getfield 11, 3) := by decide +kernel
theorem d_X_row_39 : decode b_X_row 39 = .ok (.iload_n 1, 1) := by decide +kernel
theorem d_X_row_40 : decode b_X_row 40 = .ok (.aaload, 1) := by decide +kernel
theorem d_X_row_41 : decode b_X_row 41 = .ok (.iload_n 2, 1) := by decide +kernel
theorem d_X_row_42 : decode b_X_row 42 = .ok (.iload_n 3, 1) := by decide +kernel
theorem d_X_row_43 : decode b_X_row 43 = .ok (.invokevirtual 71, 3) := by decide +kernel
theorem d_X_row_46 : decode b_X_row 46 = .ok (.aload_n 0, 1) := by decide +kernel
theorem d_X_row_47 : decode b_X_row 47 = .ok (.iload_n 3, 1) := by decide +kernel
theorem d_X_row_48 : decode b_X_row 48 = .ok (.invokevirtual 75, 3) := by decide +kernel
theorem d_X_row_51 : decode b_X_row 51 = .ok (.ireturn, 1) := by decide +kernel
theorem d_X_rowsThere_0 : decode b_X_rowsThere 0 = .ok (.iconst 0, 1) := by decide +kernel
theorem d_X_rowsThere_1 : decode b_X_rowsThere 1 = .ok (.istore_n 1, 1) := by decide +kernel
theorem d_X_rowsThere_2 : decode b_X_rowsThere 2 = .ok (.iconst 0, 1) := by decide +kernel
theorem d_X_rowsThere_3 : decode b_X_rowsThere 3 = .ok (.istore_n 2, 1) := by decide +kernel
theorem d_X_rowsThere_4 : decode b_X_rowsThere 4 = .ok (.iload_n 2, 1) := by decide +kernel
theorem d_X_rowsThere_5 : decode b_X_rowsThere 5 = .ok (.aload_n 0, 1) := by decide +kernel
theorem d_X_rowsThere_6 : decode b_X_rowsThere 6 = .ok (.getfield 11, 3) := by decide +kernel
theorem d_X_rowsThere_9 : decode b_X_rowsThere 9 = .ok (.arraylength, 1) := by decide +kernel
theorem d_X_rowsThere_10 : decode b_X_rowsThere 10 = .ok (.if_icmp .ge 29, 3) := by decide +kernel
theorem d_X_rowsThere_13 : decode b_X_rowsThere 13 = .ok (.iload_n 1, 1) := by decide +kernel
theorem d_X_rowsThere_14 : decode b_X_rowsThere 14 = .ok (.aload_n 0, 1) := by decide +kernel
theorem d_X_rowsThere_15 : decode b_X_rowsThere 15 = .ok (.getfield 11, 3) := by decide +kernel
theorem d_X_rowsThere_18 : decode b_X_rowsThere 18 = .ok (.iload_n 2, 1) := by decide +kernel
theorem d_X_rowsThere_19 : decode b_X_rowsThere 19 = .ok (.aaload, 1) := by decide +kernel
theorem d_X_rowsThere_20 : decode b_X_rowsThere 20 = .ok (.getfield 78, 3) := by decide +kernel
theorem d_X_rowsThere_23 : decode b_X_rowsThere 23 = .ok (.ifCond .eq 7, 3) := by decide +kernel
theorem d_X_rowsThere_26 : decode b_X_rowsThere 26 = .ok (.iconst 0, 1) := by decide +kernel
theorem d_X_rowsThere_27 : decode b_X_rowsThere 27 = .ok (.goto 4, 3) := by decide +kernel
theorem d_X_rowsThere_30 : decode b_X_rowsThere 30 = .ok (.iconst 1, 1) := by decide +kernel
theorem d_X_rowsThere_31 : decode b_X_rowsThere 31 = .ok (.iadd, 1) := by decide +kernel
theorem d_X_rowsThere_32 : decode b_X_rowsThere 32 = .ok (.istore_n 1, 1) := by decide +kernel
theorem d_X_rowsThere_33 : decode b_X_rowsThere 33 = .ok (.iinc 2 1, 3) := by decide +kernel
theorem d_X_rowsThere_36 : decode b_X_rowsThere 36 = .ok (.goto (-32), 3) := by decide +kernel
theorem d_X_rowsThere_39 : decode b_X_rowsThere 39 = .ok (.iload_n 1, 1) := by decide +kernel
theorem d_X_rowsThere_40 : decode b_X_rowsThere 40 = .ok (.ireturn, 1) := by decide +kernel
theorem d_X_set_0 : decode b_X_set 0 = .ok (.iload_n 1, 1) := by decide +kernel
theorem d_X_set_1 : decode b_X_set 1 = .ok (.invokestatic 58, 3) := by decide +kernel
theorem d_X_set_4 : decode b_X_set 4 = .ok (.ifCond .ne 6, 3) := by decide +kernel
theorem d_X_set_7 : decode b_X_set 7 = .ok (.ldc 66, 2) := by decide +kernel
theorem d_X_set_9 : decode b_X_set 9 = .ok (.ireturn, 1) := by decide +kernel
theorem d_X_set_10 : decode b_X_set 10 = .ok (.aload_n 0, 1) := by decide +kernel
theorem d_X_set_11 : decode b_X_set 11 = .ok (.getfield 11, 3) := by decide +kernel
theorem d_X_set_14 : decode b_X_set 14 = .ok (.iload_n 1, 1) := by decide +kernel
theorem d_X_set_15 : decode b_X_set 15 = .ok (.aaload, 1) := by decide +kernel
theorem d_X_set_16 : decode b_X_set 16 = .ok (.getfield 78, 3) := by decide +kernel
theorem d_X_set_19 : decode b_X_set 19 = .ok (.ifCond .eq 9, 3) := by decide +kernel
theorem d_X_set_22 : decode b_X_set 22 = .ok (.aload_n 0, 1) := by decide +kernel
theorem d_X_set_23 : decode b_X_set 23 = .ok (.iconst 1, 1) := by decide +kernel
theorem d_X_set_24 : decode b_X_set 24 = .ok (.invokevirtual 67, 3) := by decide +kernel
theorem d_X_set_27 : decode b_X_set 27 = .ok (.ireturn, 1) := by decide +kernel
theorem d_X_set_28 : decode b_X_set 28 = .ok (.aload_n 0, 1) := by decide +kernel
theorem d_X_set_29 : decode b_X_set 29 = .ok (.getfield 11, 3) := by decide +kernel
theorem d_X_set_32 : decode b_X_set 32 = .ok (.iload_n 1, 1) := by decide +kernel
theorem d_X_set_33 : decode b_X_set 33 = .ok (.aaload, 1) := by decide +kernel
theorem d_X_set_34 : decode b_X_set 34 = .ok (.iload_n 2, 1) := by decide +kernel
theorem d_X_set_35 : decode b_X_set 35 = .ok (.iconst 1, 1) := by decide +kernel
theorem d_X_set_36 : decode b_X_set 36 = .ok (.invokevirtual 82, 3) := by decide +kernel
theorem d_X_set_39 : decode b_X_set 39 = .ok (.ifCond .ne 9, 3) := by decide +kernel
theorem d_X_set_42 : decode b_X_set 42 = .ok (.aload_n 0, 1) := by decide +kernel
theorem d_X_set_43 : decode b_X_set 43 = .ok (.iconst 2, 1) := by decide +kernel
theorem d_X_set_44 : decode b_X_set 44 = .ok (.invokevirtual 67, 3) := by decide +kernel
theorem d_X_set_47 : decode b_X_set 47 = .ok (.ireturn, 1) := by decide +kernel
theorem d_X_set_48 : decode b_X_set 48 = .ok (.aload_n 0, 1) := by decide +kernel
theorem d_X_set_49 : decode b_X_set 49 = .ok (.aload_n 0, 1) := by decide +kernel
theorem d_X_set_50 : decode b_X_set 50 = .ok (.getfield 11, 3) := by decide +kernel
theorem d_X_set_53 : decode b_X_set 53 = .ok (.iload_n 1, 1) := by decide +kernel
theorem d_X_set_54 : decode b_X_set 54 = .ok (.aaload, 1) := by decide +kernel
theorem d_X_set_55 : decode b_X_set 55 = .ok (.iload_n 2, 1) := by decide +kernel
theorem d_X_set_56 : decode b_X_set 56 = .ok (.iload_n 3, 1) := by decide +kernel
theorem d_X_set_57 : decode b_X_set 57 = .ok (.invokevirtual 86, 3) := by decide +kernel
theorem d_X_set_60 : decode b_X_set 60 = .ok (.invokevirtual 75, 3) := by decide +kernel
theorem d_X_set_63 : decode b_X_set 63 = .ok (.ireturn, 1) := by decide +kernel
theorem d_X_status_0 : decode b_X_status 0 = .ok (.aload_n 0, 1) := by decide +kernel
theorem d_X_status_1 : decode b_X_status 1 = .ok (.getfield 300, 3) := by decide +kernel
theorem d_X_status_4 : decode b_X_status 4 = .ok (.ireturn, 1) := by decide +kernel
theorem d_X_staysEasyWithout_0 : decode b_X_staysEasyWithout 0 = .ok (.aload_n 0, 1) := by decide +kernel
theorem d_X_staysEasyWithout_1 : decode b_X_staysEasyWithout 1 = .ok (.iload_n 1, 1) := by decide +kernel
theorem d_X_staysEasyWithout_2 : decode b_X_staysEasyWithout 2 = .ok (.invokevirtual 254, 3) := by decide +kernel
theorem d_X_staysEasyWithout_5 : decode b_X_staysEasyWithout 5 = .ok (.iconst 0, 1) := by decide +kernel
theorem d_X_staysEasyWithout_6 : decode b_X_staysEasyWithout 6 = .ok (.istore 4, 2) := by decide +kernel
theorem d_X_staysEasyWithout_8 : decode b_X_staysEasyWithout 8 = .ok (.iload 4, 2) := by decide +kernel
theorem d_X_staysEasyWithout_10 : decode b_X_staysEasyWithout 10 = .ok (.iload_n 2, 1) := by decide +kernel
theorem d_X_staysEasyWithout_11 : decode b_X_staysEasyWithout 11 = .ok (.if_icmp .ge 30, 3) := by decide +kernel
theorem d_X_staysEasyWithout_14 : decode b_X_staysEasyWithout 14 = .ok (.aload_n 0, 1) := by decide +kernel
theorem d_X_staysEasyWithout_15 : decode b_X_staysEasyWithout 15 = .ok (.getfield 29, 3) := by decide +kernel
theorem d_X_staysEasyWithout_18 : decode b_X_staysEasyWithout 18 = .ok (.invokevirtual 206, 3) := by decide +kernel
theorem d_X_staysEasyWithout_21 : decode b_X_staysEasyWithout 21 = .ok (.iload_n 3, 1) := by decide +kernel
theorem d_X_staysEasyWithout_22 : decode b_X_staysEasyWithout 22 = .ok (.if_icmp .le 5, 3) := by decide +kernel
theorem d_X_staysEasyWithout_25 : decode b_X_staysEasyWithout 25 = .ok (.iconst 0, 1) := by decide +kernel
theorem d_X_staysEasyWithout_26 : decode b_X_staysEasyWithout 26 = .ok (.ireturn, 1) := by decide +kernel
theorem d_X_staysEasyWithout_27 : decode b_X_staysEasyWithout 27 = .ok (.aload_n 0, 1) := by decide +kernel
theorem d_X_staysEasyWithout_28 : decode b_X_staysEasyWithout 28 = .ok (.getfield 29, 3) := by decide +kernel
theorem d_X_staysEasyWithout_31 : decode b_X_staysEasyWithout 31 = .ok (.invokevirtual 145, 3) := by decide +kernel
theorem d_X_staysEasyWithout_34 : decode b_X_staysEasyWithout 34 = .ok (.pop, 1) := by decide +kernel
theorem d_X_staysEasyWithout_35 : decode b_X_staysEasyWithout 35 = .ok (.iinc 4 1, 3) := by decide +kernel
theorem d_X_staysEasyWithout_38 : decode b_X_staysEasyWithout 38 = .ok (.goto (-30), 3) := by decide +kernel
theorem d_X_staysEasyWithout_41 : decode b_X_staysEasyWithout 41 = .ok (.iconst 1, 1) := by decide +kernel
theorem d_X_staysEasyWithout_42 : decode b_X_staysEasyWithout 42 = .ok (.ireturn, 1) := by decide +kernel
theorem d_X_stealth_0 : decode b_X_stealth 0 = .ok (.aload_n 0, 1) := by decide +kernel
theorem d_X_stealth_1 : decode b_X_stealth 1 = .ok (.iload_n 1, 1) := by decide +kernel
theorem d_X_stealth_2 : decode b_X_stealth 2 = .ok (.invokestatic 58, 3) := by decide +kernel
theorem d_X_stealth_5 : decode b_X_stealth 5 = .ok (.ifCond .eq 17, 3) := by decide +kernel
theorem d_X_stealth_8 : decode b_X_stealth 8 = .ok (.iload_n 3, 1) := by decide +kernel
theorem d_X_stealth_9 : decode b_X_stealth 9 = .ok (.iconst 1, 1) := by decide +kernel
theorem d_X_stealth_10 : decode b_X_stealth 10 = .ok (.bipush 16, 2) := by decide +kernel
theorem d_X_stealth_12 : decode b_X_stealth 12 = .ok (.invokestatic 62, 3) := by decide +kernel
theorem d_X_stealth_15 : decode b_X_stealth 15 = .ok (.ifCond .eq 7, 3) := by decide +kernel
theorem d_X_stealth_18 : decode b_X_stealth 18 = .ok (.iconst 1, 1) := by decide +kernel
theorem d_X_stealth_19 : decode b_X_stealth 19 = .ok (.goto 4, 3) := by decide +kernel
theorem d_X_stealth_22 : decode b_X_stealth 22 = .ok (.iconst 0, 1) := by decide +kernel
theorem d_X_stealth_23 : decode b_X_stealth 23 = .ok (.invokevirtual 198, 3) := by decide +kernel
theorem d_X_stealth_26 : decode b_X_stealth 26 = .ok (.istore 4, 2) := by decide +kernel
theorem d_X_stealth_28 : decode b_X_stealth 28 = .ok (.iload 4, 2) := by decide +kernel
theorem d_X_stealth_30 : decode b_X_stealth 30 = .ok (.ifCond .eq 6, 3) := by decide +kernel
theorem d_X_stealth_33 : decode b_X_stealth 33 = .ok (.iload 4, 2) := by decide +kernel
theorem d_X_stealth_35 : decode b_X_stealth 35 = .ok (.ireturn, 1) := by decide +kernel
theorem d_X_stealth_36 : decode b_X_stealth 36 = .ok (.aload_n 0, 1) := by decide +kernel
theorem d_X_stealth_37 : decode b_X_stealth 37 = .ok (.getfield 11, 3) := by decide +kernel
theorem d_X_stealth_40 : decode b_X_stealth 40 = .ok (.iload_n 1, 1) := by decide +kernel
theorem d_X_stealth_41 : decode b_X_stealth 41 = .ok (.aaload, 1) := by decide +kernel
theorem d_X_stealth_42 : decode b_X_stealth 42 = .ok (.iload_n 2, 1) := by decide +kernel
theorem d_X_stealth_43 : decode b_X_stealth 43 = .ok (.iload_n 3, 1) := by decide +kernel
theorem d_X_stealth_44 : decode b_X_stealth 44 = .ok (.invokestatic 237, 3) := by decide +kernel
theorem d_X_stealth_47 : decode b_X_stealth 47 = .ok (.istore 5, 2) := by decide +kernel
theorem d_X_stealth_49 : decode b_X_stealth 49 = .ok (.iload 5, 2) := by decide +kernel
theorem d_X_stealth_51 : decode b_X_stealth 51 = .ok (.ifCond .eq 10, 3) := by decide +kernel
theorem d_X_stealth_54 : decode b_X_stealth 54 = .ok (.aload_n 0, 1) := by decide +kernel
theorem d_X_stealth_55 : decode b_X_stealth 55 = .ok (.iload 5, 2) := by decide +kernel
theorem d_X_stealth_57 : decode b_X_stealth 57 = .ok (.invokevirtual 67, 3) := by decide +kernel
theorem d_X_stealth_60 : decode b_X_stealth 60 = .ok (.ireturn, 1) := by decide +kernel
theorem d_X_stealth_61 : decode b_X_stealth 61 = .ok (.aload_n 0, 1) := by decide +kernel
theorem d_X_stealth_62 : decode b_X_stealth 62 = .ok (.getfield 29, 3) := by decide +kernel
theorem d_X_stealth_65 : decode b_X_stealth 65 = .ok (.aload_n 0, 1) := by decide +kernel
theorem d_X_stealth_66 : decode b_X_stealth 66 = .ok (.getfield 25, 3) := by decide +kernel
theorem d_X_stealth_69 : decode b_X_stealth 69 = .ok (.invokevirtual 122, 3) := by decide +kernel
theorem d_X_stealth_72 : decode b_X_stealth 72 = .ok (.aload_n 0, 1) := by decide +kernel
theorem d_X_stealth_73 : decode b_X_stealth 73 = .ok (.aload_n 0, 1) := by decide +kernel
theorem d_X_stealth_74 : decode b_X_stealth 74 = .ok (.getfield 11, 3) := by decide +kernel
theorem d_X_stealth_77 : decode b_X_stealth 77 = .ok (.iload_n 1, 1) := by decide +kernel
theorem d_X_stealth_78 : decode b_X_stealth 78 = .ok (.aaload, 1) := by decide +kernel
theorem d_X_stealth_79 : decode b_X_stealth 79 = .ok (.iload_n 2, 1) := by decide +kernel
theorem d_X_stealth_80 : decode b_X_stealth 80 = .ok (.iload_n 3, 1) := by decide +kernel
theorem d_X_stealth_81 : decode b_X_stealth 81 = .ok (.invokevirtual 250, 3) := by decide +kernel
theorem d_X_stealth_84 : decode b_X_stealth 84 = .ok (.ifCond .eq 8, 3) := by decide +kernel
theorem d_X_stealth_87 : decode b_X_stealth 87 = .ok (.bipush 64, 2) := by decide +kernel
theorem d_X_stealth_89 : decode b_X_stealth 89 = .ok (.goto 4, 3) := by decide +kernel
theorem d_X_stealth_92 : decode b_X_stealth 92 = .ok (.iconst 0, 1) := by decide +kernel
theorem d_X_stealth_93 : decode b_X_stealth 93 = .ok (.istore 6, 2) := by decide +kernel
theorem d_X_stealth_95 : decode b_X_stealth 95 = .ok (.iconst 0, 1) := by decide +kernel
theorem d_X_stealth_96 : decode b_X_stealth 96 = .ok (.istore 7, 2) := by decide +kernel
theorem d_X_stealth_98 : decode b_X_stealth 98 = .ok (.iload 7, 2) := by decide +kernel
theorem d_X_stealth_100 : decode b_X_stealth 100 = .ok (.aload_n 0, 1) := by decide +kernel
theorem d_X_stealth_101 : decode b_X_stealth 101 = .ok (.getfield 25, 3) := by decide +kernel
theorem d_X_stealth_104 : decode b_X_stealth 104 = .ok (.getfield 129, 3) := by decide +kernel
theorem d_X_stealth_107 : decode b_X_stealth 107 = .ok (.if_icmp .ge 57, 3) := by decide +kernel
theorem d_X_stealth_110 : decode b_X_stealth 110 = .ok (.aload_n 0, 1) := by decide +kernel
theorem d_X_stealth_111 : decode b_X_stealth 111 = .ok (.getfield 25, 3) := by decide +kernel
theorem d_X_stealth_114 : decode b_X_stealth 114 = .ok (.iload 7, 2) := by decide +kernel
theorem d_X_stealth_116 : decode b_X_stealth 116 = .ok (.invokevirtual 155, 3) := by decide +kernel
theorem d_X_stealth_119 : decode b_X_stealth 119 = .ok (.ifCond .eq 39, 3) := by decide +kernel
theorem d_X_stealth_122 : decode b_X_stealth 122 = .ok (.aload_n 0, 1) := by decide +kernel
theorem d_X_stealth_123 : decode b_X_stealth 123 = .ok (.iconst 1, 1) := by decide +kernel
theorem d_X_stealth_124 : decode b_X_stealth 124 = .ok (.iload 7, 2) := by decide +kernel
theorem d_X_stealth_126 : decode b_X_stealth 126 = .ok (.ishl, 1) := by decide +kernel
theorem d_X_stealth_127 : decode b_X_stealth 127 = .ok (.invokevirtual 254, 3) := by decide +kernel
theorem d_X_stealth_130 : decode b_X_stealth 130 = .ok (.iload 6, 2) := by decide +kernel
theorem d_X_stealth_132 : decode b_X_stealth 132 = .ok (.aload_n 0, 1) := by decide +kernel
theorem d_X_stealth_133 : decode b_X_stealth 133 = .ok (.aload_n 0, 1) := by decide +kernel
theorem d_X_stealth_134 : decode b_X_stealth 134 = .ok (.getfield 11, 3) := by decide +kernel
theorem d_X_stealth_137 : decode b_X_stealth 137 = .ok (.iload_n 1, 1) := by decide +kernel
theorem d_X_stealth_138 : decode b_X_stealth 138 = .ok (.aaload, 1) := by decide +kernel
theorem d_X_stealth_139 : decode b_X_stealth 139 = .ok (.iload_n 2, 1) := by decide +kernel
theorem d_X_stealth_140 : decode b_X_stealth 140 = .ok (.iload_n 3, 1) := by decide +kernel
theorem d_X_stealth_141 : decode b_X_stealth 141 = .ok (.invokevirtual 250, 3) := by decide +kernel
theorem d_X_stealth_144 : decode b_X_stealth 144 = .ok (.ifCond .eq 10, 3) := by decide +kernel
theorem d_X_stealth_147 : decode b_X_stealth 147 = .ok (.iconst 1, 1) := by decide +kernel
theorem d_X_stealth_148 : decode b_X_stealth 148 = .ok (.iload 7, 2) := by decide +kernel
theorem d_X_stealth_150 : decode b_X_stealth 150 = .ok (.ishl, 1) := by decide +kernel
theorem d_X_stealth_151 : decode b_X_stealth 151 = .ok (.goto 4, 3) := by decide +kernel
theorem d_X_stealth_154 : decode b_X_stealth 154 = .ok (.iconst 0, 1) := by decide +kernel
theorem d_X_stealth_155 : decode b_X_stealth 155 = .ok (.ior, 1) := by decide +kernel
theorem d_X_stealth_156 : decode b_X_stealth 156 = .ok (.istore 6, 2) := by decide +kernel
theorem d_X_stealth_158 : decode b_X_stealth 158 = .ok (.iinc 7 1, 3) := by decide +kernel
theorem d_X_stealth_161 : decode b_X_stealth 161 = .ok (.goto (-63), 3) := by decide +kernel
theorem d_X_stealth_164 : decode b_X_stealth 164 = .ok (.aload_n 0, 1) := by decide +kernel
theorem d_X_stealth_165 : decode b_X_stealth 165 = .ok (.iload 6, 2) := by decide +kernel
theorem d_X_stealth_167 : decode b_X_stealth 167 = .ok (.invokevirtual 75, 3) := by decide +kernel
theorem d_X_stealth_170 : decode b_X_stealth 170 = .ok (.ireturn, 1) := by decide +kernel
theorem d_X_sum_0 : decode b_X_sum 0 = .ok (.aload_n 0, 1) := by decide +kernel
theorem d_X_sum_1 : decode b_X_sum 1 = .ok (.iload_n 1, 1) := by decide +kernel
theorem d_X_sum_2 : decode b_X_sum 2 = .ok (.iconst 0, 1) := by decide +kernel
theorem d_X_sum_3 : decode b_X_sum 3 = .ok (.bipush 60, 2) := by decide +kernel
theorem d_X_sum_5 : decode b_X_sum 5 = .ok (.invokestatic 62, 3) := by decide +kernel
theorem d_X_sum_8 : decode b_X_sum 8 = .ok (.invokevirtual 198, 3) := by decide +kernel
theorem d_X_sum_11 : decode b_X_sum 11 = .ok (.istore_n 2, 1) := by decide +kernel
theorem d_X_sum_12 : decode b_X_sum 12 = .ok (.iload_n 2, 1) := by decide +kernel
theorem d_X_sum_13 : decode b_X_sum 13 = .ok (.ifCond .eq 7, 3) := by decide +kernel
theorem d_X_sum_16 : decode b_X_sum 16 = .ok (.iload_n 2, 1) := by decide +kernel
theorem d_X_sum_17 : decode b_X_sum 17 = .ok (.goto 11, 3) := by decide +kernel
theorem d_X_sum_20 : decode b_X_sum 20 = .ok (.aload_n 0, 1) := by decide +kernel
theorem d_X_sum_21 : decode b_X_sum 21 = .ok (.iload_n 1, 1) := by decide +kernel
theorem d_X_sum_22 : decode b_X_sum 22 = .ok (.invokevirtual 202, 3) := by decide +kernel
theorem d_X_sum_25 : decode b_X_sum 25 = .ok (.getfield 209, 3) := by decide +kernel
theorem d_X_sum_28 : decode b_X_sum 28 = .ok (.ireturn, 1) := by decide +kernel
theorem d_X_trace_0 : decode b_X_trace 0 = .ok (.iload_n 1, 1) := by decide +kernel
theorem d_X_trace_1 : decode b_X_trace 1 = .ok (.iconst 0, 1) := by decide +kernel
theorem d_X_trace_2 : decode b_X_trace 2 = .ok (.aload_n 0, 1) := by decide +kernel
theorem d_X_trace_3 : decode b_X_trace 3 = .ok (.getfield 53, 3) := by decide +kernel
theorem d_X_trace_6 : decode b_X_trace 6 = .ok (.getfield 283, 3) := by decide +kernel
theorem d_X_trace_9 : decode b_X_trace 9 = .ok (.iconst 1, 1) := by decide +kernel
theorem d_X_trace_10 : decode b_X_trace 10 = .ok (.isub, 1) := by decide +kernel
theorem d_X_trace_11 : decode b_X_trace 11 = .ok (.invokestatic 62, 3) := by decide +kernel
theorem d_X_trace_14 : decode b_X_trace 14 = .ok (.ifCond .eq 15, 3) := by decide +kernel
theorem d_X_trace_17 : decode b_X_trace 17 = .ok (.aload_n 0, 1) := by decide +kernel
theorem d_X_trace_18 : decode b_X_trace 18 = .ok (.getfield 53, 3) := by decide +kernel
theorem d_X_trace_21 : decode b_X_trace 21 = .ok (.getfield 291, 3) := by decide +kernel
theorem d_X_trace_24 : decode b_X_trace 24 = .ok (.iload_n 1, 1) := by decide +kernel
theorem d_X_trace_25 : decode b_X_trace 25 = .ok (.iaload, 1) := by decide +kernel
theorem d_X_trace_26 : decode b_X_trace 26 = .ok (.goto 5, 3) := by decide +kernel
theorem d_X_trace_29 : decode b_X_trace 29 = .ok (.ldc 212, 2) := by decide +kernel
theorem d_X_trace_31 : decode b_X_trace 31 = .ok (.ireturn, 1) := by decide +kernel
theorem d_X_undo_0 : decode b_X_undo 0 = .ok (.aload_n 0, 1) := by decide +kernel
theorem d_X_undo_1 : decode b_X_undo 1 = .ok (.getfield 39, 3) := by decide +kernel
theorem d_X_undo_4 : decode b_X_undo 4 = .ok (.aload_n 0, 1) := by decide +kernel
theorem d_X_undo_5 : decode b_X_undo 5 = .ok (.getfield 25, 3) := by decide +kernel
theorem d_X_undo_8 : decode b_X_undo 8 = .ok (.invokevirtual 180, 3) := by decide +kernel
theorem d_X_undo_11 : decode b_X_undo 11 = .ok (.ifCond .eq 13, 3) := by decide +kernel
theorem d_X_undo_14 : decode b_X_undo 14 = .ok (.aload_n 0, 1) := by decide +kernel
theorem d_X_undo_15 : decode b_X_undo 15 = .ok (.getfield 39, 3) := by decide +kernel
theorem d_X_undo_18 : decode b_X_undo 18 = .ok (.getfield 183, 3) := by decide +kernel
theorem d_X_undo_21 : decode b_X_undo 21 = .ok (.goto 5, 3) := by decide +kernel
theorem d_X_undo_24 : decode b_X_undo 24 = .ok (.ldc 138, 2) := by decide +kernel
theorem d_X_undo_26 : decode b_X_undo 26 = .ok (.ireturn, 1) := by decide +kernel
