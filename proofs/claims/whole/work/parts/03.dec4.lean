theorem dX10_improve_128 : decode cX10_improve 128 = .ok (.aload_n 0, 1) := by decide +kernel
theorem dX10_improve_129 : decode cX10_improve 129 = .ok (.iload_n 3, 1) := by decide +kernel
theorem dX10_improve_130 : decode cX10_improve 130 = .ok (.invokevirtual 253, 3) := by decide +kernel
theorem dX10_improve_133 : decode cX10_improve 133 = .ok (.ldc_w 257, 3) := by decide +kernel
theorem dX10_improve_136 : decode cX10_improve 136 = .ok (.fcmp .l, 1) := by decide +kernel
theorem dX10_improve_137 : decode cX10_improve 137 = .ok (.ifCond .lt 7, 3) := by decide +kernel
theorem dX10_improve_140 : decode cX10_improve 140 = .ok (.iconst 1, 1) := by decide +kernel
theorem dX10_improve_141 : decode cX10_improve 141 = .ok (.goto 4, 3) := by decide +kernel
theorem dX10_improve_144 : decode cX10_improve 144 = .ok (.iconst 0, 1) := by decide +kernel
theorem dX10_improve_145 : decode cX10_improve 145 = .ok (.iadd, 1) := by decide +kernel
theorem dX10_improve_146 : decode cX10_improve 146 = .ok (.istore_n 2, 1) := by decide +kernel
theorem dX10_improve_147 : decode cX10_improve 147 = .ok (.iinc 3 1, 3) := by decide +kernel
theorem dX10_improve_150 : decode cX10_improve 150 = .ok (.goto (-31), 3) := by decide +kernel
theorem dX10_improve_153 : decode cX10_improve 153 = .ok (.iload_n 2, 1) := by decide +kernel
theorem dX10_improve_154 : decode cX10_improve 154 = .ok (.ireturn, 1) := by decide +kernel
theorem dX10_setApproximateWeight_0 : decode cX10_setApproximateWeight 0 = .ok (.aload_n 0, 1) := by decide +kernel
theorem dX10_setApproximateWeight_1 : decode cX10_setApproximateWeight 1 = .ok (.iload_n 1, 1) := by decide +kernel
theorem dX10_setApproximateWeight_2 : decode cX10_setApproximateWeight 2 = .ok (.invokevirtual 140, 3) := by decide +kernel
theorem dX10_setApproximateWeight_5 : decode cX10_setApproximateWeight 5 = .ok (.ifCond .ne 6, 3) := by decide +kernel
theorem dX10_setApproximateWeight_8 : decode cX10_setApproximateWeight 8 = .ok (.bipush (-2), 2) := by decide +kernel
theorem dX10_setApproximateWeight_10 : decode cX10_setApproximateWeight 10 = .ok (.ireturn, 1) := by decide +kernel
theorem dX10_setApproximateWeight_11 : decode cX10_setApproximateWeight 11 = .ok (.iload_n 2, 1) := by decide +kernel
theorem dX10_setApproximateWeight_12 : decode cX10_setApproximateWeight 12 = .ok (.i2l, 1) := by decide +kernel
theorem dX10_setApproximateWeight_13 : decode cX10_setApproximateWeight 13 = .ok (.lconst 0, 1) := by decide +kernel
theorem dX10_setApproximateWeight_14 : decode cX10_setApproximateWeight 14 = .ok (.ldc2_w 259, 3) := by decide +kernel
theorem dX10_setApproximateWeight_17 : decode cX10_setApproximateWeight 17 = .ok (.invokestatic 115, 3) := by decide +kernel
theorem dX10_setApproximateWeight_20 : decode cX10_setApproximateWeight 20 = .ok (.ifCond .eq 15, 3) := by decide +kernel
theorem dX10_setApproximateWeight_23 : decode cX10_setApproximateWeight 23 = .ok (.iload_n 3, 1) := by decide +kernel
theorem dX10_setApproximateWeight_24 : decode cX10_setApproximateWeight 24 = .ok (.i2l, 1) := by decide +kernel
theorem dX10_setApproximateWeight_25 : decode cX10_setApproximateWeight 25 = .ok (.lconst 1, 1) := by decide +kernel
theorem dX10_setApproximateWeight_26 : decode cX10_setApproximateWeight 26 = .ok (.ldc2_w 259, 3) := by decide +kernel
theorem dX10_setApproximateWeight_29 : decode cX10_setApproximateWeight 29 = .ok (.invokestatic 115, 3) := by decide +kernel
theorem dX10_setApproximateWeight_32 : decode cX10_setApproximateWeight 32 = .ok (.ifCond .ne 5, 3) := by decide +kernel
theorem dX10_setApproximateWeight_35 : decode cX10_setApproximateWeight 35 = .ok (.iconst (-1), 1) := by decide +kernel
theorem dX10_setApproximateWeight_36 : decode cX10_setApproximateWeight 36 = .ok (.ireturn, 1) := by decide +kernel
theorem dX10_setApproximateWeight_37 : decode cX10_setApproximateWeight 37 = .ok (.iload_n 2, 1) := by decide +kernel
theorem dX10_setApproximateWeight_38 : decode cX10_setApproximateWeight 38 = .ok (.i2f, 1) := by decide +kernel
theorem dX10_setApproximateWeight_39 : decode cX10_setApproximateWeight 39 = .ok (.iload_n 3, 1) := by decide +kernel
theorem dX10_setApproximateWeight_40 : decode cX10_setApproximateWeight 40 = .ok (.i2f, 1) := by decide +kernel
theorem dX10_setApproximateWeight_41 : decode cX10_setApproximateWeight 41 = .ok (.fdiv, 1) := by decide +kernel
theorem dX10_setApproximateWeight_42 : decode cX10_setApproximateWeight 42 = .ok (.fstore 4, 2) := by decide +kernel
theorem dX10_setApproximateWeight_44 : decode cX10_setApproximateWeight 44 = .ok (.fload 4, 2) := by decide +kernel
theorem dX10_setApproximateWeight_46 : decode cX10_setApproximateWeight 46 = .ok (.aload_n 0, 1) := by decide +kernel
theorem dX10_setApproximateWeight_47 : decode cX10_setApproximateWeight 47 = .ok (.getfield 28, 3) := by decide +kernel
theorem dX10_setApproximateWeight_50 : decode cX10_setApproximateWeight 50 = .ok (.iload_n 1, 1) := by decide +kernel
theorem dX10_setApproximateWeight_51 : decode cX10_setApproximateWeight 51 = .ok (.faload, 1) := by decide +kernel
theorem dX10_setApproximateWeight_52 : decode cX10_setApproximateWeight 52 = .ok (.fcmp .l, 1) := by decide +kernel
theorem dX10_setApproximateWeight_53 : decode cX10_setApproximateWeight 53 = .ok (.ifCond .eq 7, 3) := by decide +kernel
theorem dX10_setApproximateWeight_56 : decode cX10_setApproximateWeight 56 = .ok (.iconst 1, 1) := by decide +kernel
theorem dX10_setApproximateWeight_57 : decode cX10_setApproximateWeight 57 = .ok (.goto 4, 3) := by decide +kernel
theorem dX10_setApproximateWeight_60 : decode cX10_setApproximateWeight 60 = .ok (.iconst 0, 1) := by decide +kernel
theorem dX10_setApproximateWeight_61 : decode cX10_setApproximateWeight 61 = .ok (.istore 5, 2) := by decide +kernel
theorem dX10_setApproximateWeight_63 : decode cX10_setApproximateWeight 63 = .ok (.aload_n 0, 1) := by decide +kernel
theorem dX10_setApproximateWeight_64 : decode cX10_setApproximateWeight 64 = .ok (.getfield 28, 3) := by decide +kernel
theorem dX10_setApproximateWeight_67 : decode cX10_setApproximateWeight 67 = .ok (.iload_n 1, 1) := by decide +kernel
theorem dX10_setApproximateWeight_68 : decode cX10_setApproximateWeight 68 = .ok (.fload 4, 2) := by decide +kernel
theorem dX10_setApproximateWeight_70 : decode cX10_setApproximateWeight 70 = .ok (.fastore, 1) := by decide +kernel
theorem dX10_setApproximateWeight_71 : decode cX10_setApproximateWeight 71 = .ok (.iload 5, 2) := by decide +kernel
theorem dX10_setApproximateWeight_73 : decode cX10_setApproximateWeight 73 = .ok (.ireturn, 1) := by decide +kernel
theorem dX10_approximateWeight_0 : decode cX10_approximateWeight 0 = .ok (.aload_n 0, 1) := by decide +kernel
theorem dX10_approximateWeight_1 : decode cX10_approximateWeight 1 = .ok (.iload_n 1, 1) := by decide +kernel
theorem dX10_approximateWeight_2 : decode cX10_approximateWeight 2 = .ok (.invokevirtual 140, 3) := by decide +kernel
theorem dX10_approximateWeight_5 : decode cX10_approximateWeight 5 = .ok (.ifCond .eq 18, 3) := by decide +kernel
theorem dX10_approximateWeight_8 : decode cX10_approximateWeight 8 = .ok (.aload_n 0, 1) := by decide +kernel
theorem dX10_approximateWeight_9 : decode cX10_approximateWeight 9 = .ok (.getfield 28, 3) := by decide +kernel
theorem dX10_approximateWeight_12 : decode cX10_approximateWeight 12 = .ok (.iload_n 1, 1) := by decide +kernel
theorem dX10_approximateWeight_13 : decode cX10_approximateWeight 13 = .ok (.faload, 1) := by decide +kernel
theorem dX10_approximateWeight_14 : decode cX10_approximateWeight 14 = .ok (.f2d, 1) := by decide +kernel
theorem dX10_approximateWeight_15 : decode cX10_approximateWeight 15 = .ok (.ldc2_w 261, 3) := by decide +kernel
theorem dX10_approximateWeight_18 : decode cX10_approximateWeight 18 = .ok (.dmul, 1) := by decide +kernel
theorem dX10_approximateWeight_19 : decode cX10_approximateWeight 19 = .ok (.d2l, 1) := by decide +kernel
theorem dX10_approximateWeight_20 : decode cX10_approximateWeight 20 = .ok (.goto 6, 3) := by decide +kernel
theorem dX10_approximateWeight_23 : decode cX10_approximateWeight 23 = .ok (.ldc2_w 263, 3) := by decide +kernel
theorem dX10_approximateWeight_26 : decode cX10_approximateWeight 26 = .ok (.lreturn, 1) := by decide +kernel
theorem dX10_margin_0 : decode cX10_margin 0 = .ok (.aload_n 0, 1) := by decide +kernel
theorem dX10_margin_1 : decode cX10_margin 1 = .ok (.iload_n 1, 1) := by decide +kernel
theorem dX10_margin_2 : decode cX10_margin 2 = .ok (.invokevirtual 152, 3) := by decide +kernel
theorem dX10_margin_5 : decode cX10_margin 5 = .ok (.ifCond .eq 17, 3) := by decide +kernel
theorem dX10_margin_8 : decode cX10_margin 8 = .ok (.aload_n 0, 1) := by decide +kernel
theorem dX10_margin_9 : decode cX10_margin 9 = .ok (.iload_n 1, 1) := by decide +kernel
theorem dX10_margin_10 : decode cX10_margin 10 = .ok (.invokevirtual 253, 3) := by decide +kernel
theorem dX10_margin_13 : decode cX10_margin 13 = .ok (.f2d, 1) := by decide +kernel
theorem dX10_margin_14 : decode cX10_margin 14 = .ok (.ldc2_w 261, 3) := by decide +kernel
theorem dX10_margin_17 : decode cX10_margin 17 = .ok (.dmul, 1) := by decide +kernel
theorem dX10_margin_18 : decode cX10_margin 18 = .ok (.d2l, 1) := by decide +kernel
theorem dX10_margin_19 : decode cX10_margin 19 = .ok (.goto 6, 3) := by decide +kernel
theorem dX10_margin_22 : decode cX10_margin 22 = .ok (.ldc2_w 263, 3) := by decide +kernel
theorem dX10_margin_25 : decode cX10_margin 25 = .ok (.lreturn, 1) := by decide +kernel
theorem dX10_roundWeights_0 : decode cX10_roundWeights 0 = .ok (.iload_n 1, 1) := by decide +kernel
theorem dX10_roundWeights_1 : decode cX10_roundWeights 1 = .ok (.i2l, 1) := by decide +kernel
theorem dX10_roundWeights_2 : decode cX10_roundWeights 2 = .ok (.lconst 1, 1) := by decide +kernel
theorem dX10_roundWeights_3 : decode cX10_roundWeights 3 = .ok (.ldc2_w 251, 3) := by decide +kernel
theorem dX10_roundWeights_6 : decode cX10_roundWeights 6 = .ok (.invokestatic 115, 3) := by decide +kernel
theorem dX10_roundWeights_9 : decode cX10_roundWeights 9 = .ok (.ifCond .ne 5, 3) := by decide +kernel
theorem dX10_roundWeights_12 : decode cX10_roundWeights 12 = .ok (.iconst (-1), 1) := by decide +kernel
theorem dX10_roundWeights_13 : decode cX10_roundWeights 13 = .ok (.ireturn, 1) := by decide +kernel
theorem dX10_roundWeights_14 : decode cX10_roundWeights 14 = .ok (.iconst 0, 1) := by decide +kernel
theorem dX10_roundWeights_15 : decode cX10_roundWeights 15 = .ok (.istore_n 2, 1) := by decide +kernel
theorem dX10_roundWeights_16 : decode cX10_roundWeights 16 = .ok (.iload_n 2, 1) := by decide +kernel
theorem dX10_roundWeights_17 : decode cX10_roundWeights 17 = .ok (.aload_n 0, 1) := by decide +kernel
theorem dX10_roundWeights_18 : decode cX10_roundWeights 18 = .ok (.getfield 9, 3) := by decide +kernel
theorem dX10_roundWeights_21 : decode cX10_roundWeights 21 = .ok (.if_icmp .ge 44, 3) := by decide +kernel
theorem dX10_roundWeights_24 : decode cX10_roundWeights 24 = .ok (.aload_n 0, 1) := by decide +kernel
theorem dX10_roundWeights_25 : decode cX10_roundWeights 25 = .ok (.getfield 28, 3) := by decide +kernel
theorem dX10_roundWeights_28 : decode cX10_roundWeights 28 = .ok (.iload_n 2, 1) := by decide +kernel
theorem dX10_roundWeights_29 : decode cX10_roundWeights 29 = .ok (.faload, 1) := by decide +kernel
theorem dX10_roundWeights_30 : decode cX10_roundWeights 30 = .ok (.f2d, 1) := by decide +kernel
theorem dX10_roundWeights_31 : decode cX10_roundWeights 31 = .ok (.iload_n 1, 1) := by decide +kernel
theorem dX10_roundWeights_32 : decode cX10_roundWeights 32 = .ok (.i2d, 1) := by decide +kernel
theorem dX10_roundWeights_33 : decode cX10_roundWeights 33 = .ok (.dmul, 1) := by decide +kernel
theorem dX10_roundWeights_34 : decode cX10_roundWeights 34 = .ok (.invokestatic 265, 3) := by decide +kernel
theorem dX10_roundWeights_37 : decode cX10_roundWeights 37 = .ok (.dstore_n 3, 1) := by decide +kernel
theorem dX10_roundWeights_38 : decode cX10_roundWeights 38 = .ok (.aload_n 0, 1) := by decide +kernel
theorem dX10_roundWeights_39 : decode cX10_roundWeights 39 = .ok (.getfield 22, 3) := by decide +kernel
theorem dX10_roundWeights_42 : decode cX10_roundWeights 42 = .ok (.iload_n 2, 1) := by decide +kernel
theorem dX10_roundWeights_43 : decode cX10_roundWeights 43 = .ok (.dload_n 3, 1) := by decide +kernel
theorem dX10_roundWeights_44 : decode cX10_roundWeights 44 = .ok (.ldc2_w 271, 3) := by decide +kernel
theorem dX10_roundWeights_47 : decode cX10_roundWeights 47 = .ok (.dcmp .l, 1) := by decide +kernel
theorem dX10_roundWeights_48 : decode cX10_roundWeights 48 = .ok (.ifCond .le 8, 3) := by decide +kernel
theorem dX10_roundWeights_51 : decode cX10_roundWeights 51 = .ok (.bipush 99, 2) := by decide +kernel
theorem dX10_roundWeights_53 : decode cX10_roundWeights 53 = .ok (.goto 5, 3) := by decide +kernel
theorem dX10_roundWeights_56 : decode cX10_roundWeights 56 = .ok (.dload_n 3, 1) := by decide +kernel
theorem dX10_roundWeights_57 : decode cX10_roundWeights 57 = .ok (.d2i, 1) := by decide +kernel
theorem dX10_roundWeights_58 : decode cX10_roundWeights 58 = .ok (.iastore, 1) := by decide +kernel
theorem dX10_roundWeights_59 : decode cX10_roundWeights 59 = .ok (.iinc 2 1, 3) := by decide +kernel
theorem dX10_roundWeights_62 : decode cX10_roundWeights 62 = .ok (.goto (-46), 3) := by decide +kernel
theorem dX10_roundWeights_65 : decode cX10_roundWeights 65 = .ok (.iconst 0, 1) := by decide +kernel
theorem dX10_roundWeights_66 : decode cX10_roundWeights 66 = .ok (.istore_n 2, 1) := by decide +kernel
theorem dX10_roundWeights_67 : decode cX10_roundWeights 67 = .ok (.iconst 0, 1) := by decide +kernel
theorem dX10_roundWeights_68 : decode cX10_roundWeights 68 = .ok (.istore_n 3, 1) := by decide +kernel
theorem dX10_roundWeights_69 : decode cX10_roundWeights 69 = .ok (.iload_n 3, 1) := by decide +kernel
theorem dX10_roundWeights_70 : decode cX10_roundWeights 70 = .ok (.aload_n 0, 1) := by decide +kernel
theorem dX10_roundWeights_71 : decode cX10_roundWeights 71 = .ok (.getfield 119, 3) := by decide +kernel
theorem dX10_roundWeights_74 : decode cX10_roundWeights 74 = .ok (.if_icmp .ge 63, 3) := by decide +kernel
theorem dX10_roundWeights_77 : decode cX10_roundWeights 77 = .ok (.iconst 0, 1) := by decide +kernel
theorem dX10_roundWeights_78 : decode cX10_roundWeights 78 = .ok (.istore 4, 2) := by decide +kernel
theorem dX10_roundWeights_80 : decode cX10_roundWeights 80 = .ok (.iconst 0, 1) := by decide +kernel
theorem dX10_roundWeights_81 : decode cX10_roundWeights 81 = .ok (.istore 5, 2) := by decide +kernel
theorem dX10_roundWeights_83 : decode cX10_roundWeights 83 = .ok (.iload 5, 2) := by decide +kernel
theorem dX10_roundWeights_85 : decode cX10_roundWeights 85 = .ok (.aload_n 0, 1) := by decide +kernel
theorem dX10_roundWeights_86 : decode cX10_roundWeights 86 = .ok (.getfield 9, 3) := by decide +kernel
theorem dX10_roundWeights_89 : decode cX10_roundWeights 89 = .ok (.if_icmp .ge 29, 3) := by decide +kernel
theorem dX10_roundWeights_92 : decode cX10_roundWeights 92 = .ok (.iload 4, 2) := by decide +kernel
theorem dX10_roundWeights_94 : decode cX10_roundWeights 94 = .ok (.aload_n 0, 1) := by decide +kernel
theorem dX10_roundWeights_95 : decode cX10_roundWeights 95 = .ok (.iload_n 3, 1) := by decide +kernel
theorem dX10_roundWeights_96 : decode cX10_roundWeights 96 = .ok (.iload 5, 2) := by decide +kernel
theorem dX10_roundWeights_98 : decode cX10_roundWeights 98 = .ok (.invokevirtual 159, 3) := by decide +kernel
theorem dX10_roundWeights_101 : decode cX10_roundWeights 101 = .ok (.aload_n 0, 1) := by decide +kernel
theorem dX10_roundWeights_102 : decode cX10_roundWeights 102 = .ok (.getfield 22, 3) := by decide +kernel
theorem dX10_roundWeights_105 : decode cX10_roundWeights 105 = .ok (.iload 5, 2) := by decide +kernel
theorem dX10_roundWeights_107 : decode cX10_roundWeights 107 = .ok (.iaload, 1) := by decide +kernel
theorem dX10_roundWeights_108 : decode cX10_roundWeights 108 = .ok (.imul, 1) := by decide +kernel
theorem dX10_roundWeights_109 : decode cX10_roundWeights 109 = .ok (.iadd, 1) := by decide +kernel
theorem dX10_roundWeights_110 : decode cX10_roundWeights 110 = .ok (.istore 4, 2) := by decide +kernel
theorem dX10_roundWeights_112 : decode cX10_roundWeights 112 = .ok (.iinc 5 1, 3) := by decide +kernel
theorem dX10_roundWeights_115 : decode cX10_roundWeights 115 = .ok (.goto (-32), 3) := by decide +kernel
theorem dX10_roundWeights_118 : decode cX10_roundWeights 118 = .ok (.iload_n 2, 1) := by decide +kernel
theorem dX10_roundWeights_119 : decode cX10_roundWeights 119 = .ok (.iload 4, 2) := by decide +kernel
theorem dX10_roundWeights_121 : decode cX10_roundWeights 121 = .ok (.ifCond .le 7, 3) := by decide +kernel
theorem dX10_roundWeights_124 : decode cX10_roundWeights 124 = .ok (.iconst 1, 1) := by decide +kernel
theorem dX10_roundWeights_125 : decode cX10_roundWeights 125 = .ok (.goto 4, 3) := by decide +kernel
theorem dX10_roundWeights_128 : decode cX10_roundWeights 128 = .ok (.iconst 0, 1) := by decide +kernel
theorem dX10_roundWeights_129 : decode cX10_roundWeights 129 = .ok (.iadd, 1) := by decide +kernel
theorem dX10_roundWeights_130 : decode cX10_roundWeights 130 = .ok (.istore_n 2, 1) := by decide +kernel
theorem dX10_roundWeights_131 : decode cX10_roundWeights 131 = .ok (.iinc 3 1, 3) := by decide +kernel
theorem dX10_roundWeights_134 : decode cX10_roundWeights 134 = .ok (.goto (-65), 3) := by decide +kernel
theorem dX10_roundWeights_137 : decode cX10_roundWeights 137 = .ok (.iload_n 2, 1) := by decide +kernel
theorem dX10_roundWeights_138 : decode cX10_roundWeights 138 = .ok (.ireturn, 1) := by decide +kernel
theorem dX10_isSlot_0 : decode cX10_isSlot 0 = .ok (.iload_n 0, 1) := by decide +kernel
theorem dX10_isSlot_1 : decode cX10_isSlot 1 = .ok (.i2l, 1) := by decide +kernel
theorem dX10_isSlot_2 : decode cX10_isSlot 2 = .ok (.lconst 0, 1) := by decide +kernel
theorem dX10_isSlot_3 : decode cX10_isSlot 3 = .ok (.ldc2_w 273, 3) := by decide +kernel
theorem dX10_isSlot_6 : decode cX10_isSlot 6 = .ok (.invokestatic 115, 3) := by decide +kernel
theorem dX10_isSlot_9 : decode cX10_isSlot 9 = .ok (.ireturn, 1) := by decide +kernel
theorem dX10_allocate_0 : decode cX10_allocate 0 = .ok (.iload_n 1, 1) := by decide +kernel
theorem dX10_allocate_1 : decode cX10_allocate 1 = .ok (.invokestatic 275, 3) := by decide +kernel
theorem dX10_allocate_4 : decode cX10_allocate 4 = .ok (.ifCond .eq 21, 3) := by decide +kernel
theorem dX10_allocate_7 : decode cX10_allocate 7 = .ok (.iload_n 2, 1) := by decide +kernel
theorem dX10_allocate_8 : decode cX10_allocate 8 = .ok (.i2l, 1) := by decide +kernel
theorem dX10_allocate_9 : decode cX10_allocate 9 = .ok (.lconst 0, 1) := by decide +kernel
theorem dX10_allocate_10 : decode cX10_allocate 10 = .ok (.ldc2_w 273, 3) := by decide +kernel
theorem dX10_allocate_13 : decode cX10_allocate 13 = .ok (.invokestatic 115, 3) := by decide +kernel
theorem dX10_allocate_16 : decode cX10_allocate 16 = .ok (.ifCond .eq 9, 3) := by decide +kernel
theorem dX10_allocate_19 : decode cX10_allocate 19 = .ok (.iload_n 3, 1) := by decide +kernel
theorem dX10_allocate_20 : decode cX10_allocate 20 = .ok (.bipush 40, 2) := by decide +kernel
theorem dX10_allocate_22 : decode cX10_allocate 22 = .ok (.if_icmp .le 5, 3) := by decide +kernel
theorem dX10_allocate_25 : decode cX10_allocate 25 = .ok (.iconst (-1), 1) := by decide +kernel
theorem dX10_allocate_26 : decode cX10_allocate 26 = .ok (.ireturn, 1) := by decide +kernel
theorem dX10_allocate_27 : decode cX10_allocate 27 = .ok (.iload_n 3, 1) := by decide +kernel
theorem dX10_allocate_28 : decode cX10_allocate 28 = .ok (.ifCond .ge 6, 3) := by decide +kernel
theorem dX10_allocate_31 : decode cX10_allocate 31 = .ok (.bipush (-14), 2) := by decide +kernel
theorem dX10_allocate_33 : decode cX10_allocate 33 = .ok (.ireturn, 1) := by decide +kernel
theorem dX10_allocate_34 : decode cX10_allocate 34 = .ok (.aload_n 0, 1) := by decide +kernel
theorem dX10_allocate_35 : decode cX10_allocate 35 = .ok (.getfield 44, 3) := by decide +kernel
theorem dX10_allocate_38 : decode cX10_allocate 38 = .ok (.iload_n 1, 1) := by decide +kernel
theorem dX10_allocate_39 : decode cX10_allocate 39 = .ok (.iload_n 2, 1) := by decide +kernel
theorem dX10_allocate_40 : decode cX10_allocate 40 = .ok (.iastore, 1) := by decide +kernel
theorem dX10_allocate_41 : decode cX10_allocate 41 = .ok (.aload_n 0, 1) := by decide +kernel
theorem dX10_allocate_42 : decode cX10_allocate 42 = .ok (.getfield 47, 3) := by decide +kernel
theorem dX10_allocate_45 : decode cX10_allocate 45 = .ok (.iload_n 1, 1) := by decide +kernel
theorem dX10_allocate_46 : decode cX10_allocate 46 = .ok (.iload_n 3, 1) := by decide +kernel
theorem dX10_allocate_47 : decode cX10_allocate 47 = .ok (.iastore, 1) := by decide +kernel
theorem dX10_allocate_48 : decode cX10_allocate 48 = .ok (.iconst 0, 1) := by decide +kernel
theorem dX10_allocate_49 : decode cX10_allocate 49 = .ok (.istore 4, 2) := by decide +kernel
theorem dX10_allocate_51 : decode cX10_allocate 51 = .ok (.iload 4, 2) := by decide +kernel
theorem dX10_allocate_53 : decode cX10_allocate 53 = .ok (.bipush 40, 2) := by decide +kernel
theorem dX10_allocate_55 : decode cX10_allocate 55 = .ok (.if_icmp .ge 48, 3) := by decide +kernel
theorem dX10_allocate_58 : decode cX10_allocate 58 = .ok (.aload_n 0, 1) := by decide +kernel
theorem dX10_allocate_59 : decode cX10_allocate 59 = .ok (.getfield 50, 3) := by decide +kernel
theorem dX10_allocate_62 : decode cX10_allocate 62 = .ok (.bipush 40, 2) := by decide +kernel
theorem dX10_allocate_64 : decode cX10_allocate 64 = .ok (.iload_n 1, 1) := by decide +kernel
theorem dX10_allocate_65 : decode cX10_allocate 65 = .ok (.imul, 1) := by decide +kernel
theorem dX10_allocate_66 : decode cX10_allocate 66 = .ok (.iload 4, 2) := by decide +kernel
theorem dX10_allocate_68 : decode cX10_allocate 68 = .ok (.iadd, 1) := by decide +kernel
theorem dX10_allocate_69 : decode cX10_allocate 69 = .ok (.lconst 0, 1) := by decide +kernel
theorem dX10_allocate_70 : decode cX10_allocate 70 = .ok (.lastore, 1) := by decide +kernel
theorem dX10_allocate_71 : decode cX10_allocate 71 = .ok (.aload_n 0, 1) := by decide +kernel
theorem dX10_allocate_72 : decode cX10_allocate 72 = .ok (.getfield 54, 3) := by decide +kernel
theorem dX10_allocate_75 : decode cX10_allocate 75 = .ok (.bipush 40, 2) := by decide +kernel
theorem dX10_allocate_77 : decode cX10_allocate 77 = .ok (.iload_n 1, 1) := by decide +kernel
theorem dX10_allocate_78 : decode cX10_allocate 78 = .ok (.imul, 1) := by decide +kernel
theorem dX10_allocate_79 : decode cX10_allocate 79 = .ok (.iload 4, 2) := by decide +kernel
theorem dX10_allocate_81 : decode cX10_allocate 81 = .ok (.iadd, 1) := by decide +kernel
theorem dX10_allocate_82 : decode cX10_allocate 82 = .ok (.fconst 0, 1) := by decide +kernel
theorem dX10_allocate_83 : decode cX10_allocate 83 = .ok (.fastore, 1) := by decide +kernel
theorem dX10_allocate_84 : decode cX10_allocate 84 = .ok (.aload_n 0, 1) := by decide +kernel
theorem dX10_allocate_85 : decode cX10_allocate 85 = .ok (.getfield 57, 3) := by decide +kernel
theorem dX10_allocate_88 : decode cX10_allocate 88 = .ok (.bipush 40, 2) := by decide +kernel
theorem dX10_allocate_90 : decode cX10_allocate 90 = .ok (.iload_n 1, 1) := by decide +kernel
theorem dX10_allocate_91 : decode cX10_allocate 91 = .ok (.imul, 1) := by decide +kernel
theorem dX10_allocate_92 : decode cX10_allocate 92 = .ok (.iload 4, 2) := by decide +kernel
theorem dX10_allocate_94 : decode cX10_allocate 94 = .ok (.iadd, 1) := by decide +kernel
theorem dX10_allocate_95 : decode cX10_allocate 95 = .ok (.dconst 0, 1) := by decide +kernel
theorem dX10_allocate_96 : decode cX10_allocate 96 = .ok (.dastore, 1) := by decide +kernel
theorem dX10_allocate_97 : decode cX10_allocate 97 = .ok (.iinc 4 1, 3) := by decide +kernel
theorem dX10_allocate_100 : decode cX10_allocate 100 = .ok (.goto (-49), 3) := by decide +kernel
theorem dX10_allocate_103 : decode cX10_allocate 103 = .ok (.iload_n 3, 1) := by decide +kernel
theorem dX10_allocate_104 : decode cX10_allocate 104 = .ok (.ireturn, 1) := by decide +kernel
theorem dX10_release_0 : decode cX10_release 0 = .ok (.iload_n 1, 1) := by decide +kernel
theorem dX10_release_1 : decode cX10_release 1 = .ok (.invokestatic 275, 3) := by decide +kernel
theorem dX10_release_4 : decode cX10_release 4 = .ok (.ifCond .ne 5, 3) := by decide +kernel
theorem dX10_release_7 : decode cX10_release 7 = .ok (.iconst (-1), 1) := by decide +kernel
theorem dX10_release_8 : decode cX10_release 8 = .ok (.ireturn, 1) := by decide +kernel
theorem dX10_release_9 : decode cX10_release 9 = .ok (.aload_n 0, 1) := by decide +kernel
theorem dX10_release_10 : decode cX10_release 10 = .ok (.getfield 44, 3) := by decide +kernel
theorem dX10_release_13 : decode cX10_release 13 = .ok (.iload_n 1, 1) := by decide +kernel
theorem dX10_release_14 : decode cX10_release 14 = .ok (.iaload, 1) := by decide +kernel
theorem dX10_release_15 : decode cX10_release 15 = .ok (.iconst (-1), 1) := by decide +kernel
theorem dX10_release_16 : decode cX10_release 16 = .ok (.if_icmp .ne 7, 3) := by decide +kernel
theorem dX10_release_19 : decode cX10_release 19 = .ok (.iconst 0, 1) := by decide +kernel
theorem dX10_release_20 : decode cX10_release 20 = .ok (.goto 4, 3) := by decide +kernel
theorem dX10_release_23 : decode cX10_release 23 = .ok (.iconst 1, 1) := by decide +kernel
theorem dX10_release_24 : decode cX10_release 24 = .ok (.istore_n 2, 1) := by decide +kernel
theorem dX10_release_25 : decode cX10_release 25 = .ok (.aload_n 0, 1) := by decide +kernel
theorem dX10_release_26 : decode cX10_release 26 = .ok (.getfield 44, 3) := by decide +kernel
theorem dX10_release_29 : decode cX10_release 29 = .ok (.iload_n 1, 1) := by decide +kernel
theorem dX10_release_30 : decode cX10_release 30 = .ok (.iconst (-1), 1) := by decide +kernel
theorem dX10_release_31 : decode cX10_release 31 = .ok (.iastore, 1) := by decide +kernel
theorem dX10_release_32 : decode cX10_release 32 = .ok (.iload_n 2, 1) := by decide +kernel
theorem dX10_release_33 : decode cX10_release 33 = .ok (.ireturn, 1) := by decide +kernel
theorem dX10_isPlace_0 : decode cX10_isPlace 0 = .ok (.iload_n 2, 1) := by decide +kernel
theorem dX10_isPlace_1 : decode cX10_isPlace 1 = .ok (.i2l, 1) := by decide +kernel
theorem dX10_isPlace_2 : decode cX10_isPlace 2 = .ok (.lconst 0, 1) := by decide +kernel
theorem dX10_isPlace_3 : decode cX10_isPlace 3 = .ok (.aload_n 0, 1) := by decide +kernel
theorem dX10_isPlace_4 : decode cX10_isPlace 4 = .ok (.getfield 47, 3) := by decide +kernel
theorem dX10_isPlace_7 : decode cX10_isPlace 7 = .ok (.iload_n 1, 1) := by decide +kernel
theorem dX10_isPlace_8 : decode cX10_isPlace 8 = .ok (.iaload, 1) := by decide +kernel
theorem dX10_isPlace_9 : decode cX10_isPlace 9 = .ok (.iconst 1, 1) := by decide +kernel
theorem dX10_isPlace_10 : decode cX10_isPlace 10 = .ok (.isub, 1) := by decide +kernel
theorem dX10_isPlace_11 : decode cX10_isPlace 11 = .ok (.i2l, 1) := by decide +kernel
theorem dX10_isPlace_12 : decode cX10_isPlace 12 = .ok (.invokestatic 115, 3) := by decide +kernel
theorem dX10_isPlace_15 : decode cX10_isPlace 15 = .ok (.ireturn, 1) := by decide +kernel
theorem dX10_putElement_0 : decode cX10_putElement 0 = .ok (.iload_n 1, 1) := by decide +kernel
theorem dX10_putElement_1 : decode cX10_putElement 1 = .ok (.invokestatic 275, 3) := by decide +kernel
theorem dX10_putElement_4 : decode cX10_putElement 4 = .ok (.ifCond .ne 5, 3) := by decide +kernel
theorem dX10_putElement_7 : decode cX10_putElement 7 = .ok (.iconst (-1), 1) := by decide +kernel
theorem dX10_putElement_8 : decode cX10_putElement 8 = .ok (.ireturn, 1) := by decide +kernel
theorem dX10_putElement_9 : decode cX10_putElement 9 = .ok (.aload_n 0, 1) := by decide +kernel
theorem dX10_putElement_10 : decode cX10_putElement 10 = .ok (.getfield 44, 3) := by decide +kernel
theorem dX10_putElement_13 : decode cX10_putElement 13 = .ok (.iload_n 1, 1) := by decide +kernel
theorem dX10_putElement_14 : decode cX10_putElement 14 = .ok (.iaload, 1) := by decide +kernel
theorem dX10_putElement_15 : decode cX10_putElement 15 = .ok (.iconst (-1), 1) := by decide +kernel
theorem dX10_putElement_16 : decode cX10_putElement 16 = .ok (.if_icmp .ne 6, 3) := by decide +kernel
theorem dX10_putElement_19 : decode cX10_putElement 19 = .ok (.bipush (-11), 2) := by decide +kernel
theorem dX10_putElement_21 : decode cX10_putElement 21 = .ok (.ireturn, 1) := by decide +kernel
theorem dX10_putElement_22 : decode cX10_putElement 22 = .ok (.aload_n 0, 1) := by decide +kernel
theorem dX10_putElement_23 : decode cX10_putElement 23 = .ok (.iload_n 1, 1) := by decide +kernel
theorem dX10_putElement_24 : decode cX10_putElement 24 = .ok (.iload_n 2, 1) := by decide +kernel
theorem dX10_putElement_25 : decode cX10_putElement 25 = .ok (.invokevirtual 278, 3) := by decide +kernel
theorem dX10_putElement_28 : decode cX10_putElement 28 = .ok (.ifCond .ne 6, 3) := by decide +kernel
theorem dX10_putElement_31 : decode cX10_putElement 31 = .ok (.bipush (-13), 2) := by decide +kernel
theorem dX10_putElement_33 : decode cX10_putElement 33 = .ok (.ireturn, 1) := by decide +kernel
theorem dX10_putElement_34 : decode cX10_putElement 34 = .ok (.bipush 40, 2) := by decide +kernel
theorem dX10_putElement_36 : decode cX10_putElement 36 = .ok (.iload_n 1, 1) := by decide +kernel
theorem dX10_putElement_37 : decode cX10_putElement 37 = .ok (.imul, 1) := by decide +kernel
theorem dX10_putElement_38 : decode cX10_putElement 38 = .ok (.iload_n 2, 1) := by decide +kernel
theorem dX10_putElement_39 : decode cX10_putElement 39 = .ok (.iadd, 1) := by decide +kernel
theorem dX10_putElement_40 : decode cX10_putElement 40 = .ok (.istore 5, 2) := by decide +kernel
theorem dX10_putElement_42 : decode cX10_putElement 42 = .ok (.aload_n 0, 1) := by decide +kernel
theorem dX10_putElement_43 : decode cX10_putElement 43 = .ok (.getfield 50, 3) := by decide +kernel
theorem dX10_putElement_46 : decode cX10_putElement 46 = .ok (.iload 5, 2) := by decide +kernel
theorem dX10_putElement_48 : decode cX10_putElement 48 = .ok (.aload_n 0, 1) := by decide +kernel
theorem dX10_putElement_49 : decode cX10_putElement 49 = .ok (.getfield 44, 3) := by decide +kernel
theorem dX10_putElement_52 : decode cX10_putElement 52 = .ok (.iload_n 1, 1) := by decide +kernel
theorem dX10_putElement_53 : decode cX10_putElement 53 = .ok (.iaload, 1) := by decide +kernel
theorem dX10_putElement_54 : decode cX10_putElement 54 = .ok (.ifCond .ne 9, 3) := by decide +kernel
theorem dX10_putElement_57 : decode cX10_putElement 57 = .ok (.lload_n 3, 1) := by decide +kernel
theorem dX10_putElement_58 : decode cX10_putElement 58 = .ok (.l2i, 1) := by decide +kernel
theorem dX10_putElement_59 : decode cX10_putElement 59 = .ok (.i2l, 1) := by decide +kernel
theorem dX10_putElement_60 : decode cX10_putElement 60 = .ok (.goto 4, 3) := by decide +kernel
theorem dX10_putElement_63 : decode cX10_putElement 63 = .ok (.lload_n 3, 1) := by decide +kernel
theorem dX10_putElement_64 : decode cX10_putElement 64 = .ok (.lastore, 1) := by decide +kernel
theorem dX10_putElement_65 : decode cX10_putElement 65 = .ok (.aload_n 0, 1) := by decide +kernel
theorem dX10_putElement_66 : decode cX10_putElement 66 = .ok (.getfield 54, 3) := by decide +kernel
theorem dX10_putElement_69 : decode cX10_putElement 69 = .ok (.iload 5, 2) := by decide +kernel
theorem dX10_putElement_71 : decode cX10_putElement 71 = .ok (.lload_n 3, 1) := by decide +kernel
theorem dX10_putElement_72 : decode cX10_putElement 72 = .ok (.l2f, 1) := by decide +kernel
theorem dX10_putElement_73 : decode cX10_putElement 73 = .ok (.fastore, 1) := by decide +kernel
theorem dX10_putElement_74 : decode cX10_putElement 74 = .ok (.aload_n 0, 1) := by decide +kernel
theorem dX10_putElement_75 : decode cX10_putElement 75 = .ok (.getfield 57, 3) := by decide +kernel
theorem dX10_putElement_78 : decode cX10_putElement 78 = .ok (.iload 5, 2) := by decide +kernel
theorem dX10_putElement_80 : decode cX10_putElement 80 = .ok (.lload_n 3, 1) := by decide +kernel
theorem dX10_putElement_81 : decode cX10_putElement 81 = .ok (.l2d, 1) := by decide +kernel
theorem dX10_putElement_82 : decode cX10_putElement 82 = .ok (.dastore, 1) := by decide +kernel
theorem dX10_putElement_83 : decode cX10_putElement 83 = .ok (.iconst 1, 1) := by decide +kernel
theorem dX10_putElement_84 : decode cX10_putElement 84 = .ok (.ireturn, 1) := by decide +kernel
theorem dX10_divideElement_0 : decode cX10_divideElement 0 = .ok (.iload_n 1, 1) := by decide +kernel
theorem dX10_divideElement_1 : decode cX10_divideElement 1 = .ok (.invokestatic 275, 3) := by decide +kernel
theorem dX10_divideElement_4 : decode cX10_divideElement 4 = .ok (.ifCond .ne 5, 3) := by decide +kernel
theorem dX10_divideElement_7 : decode cX10_divideElement 7 = .ok (.iconst (-1), 1) := by decide +kernel
theorem dX10_divideElement_8 : decode cX10_divideElement 8 = .ok (.ireturn, 1) := by decide +kernel
theorem dX10_divideElement_9 : decode cX10_divideElement 9 = .ok (.aload_n 0, 1) := by decide +kernel
theorem dX10_divideElement_10 : decode cX10_divideElement 10 = .ok (.getfield 44, 3) := by decide +kernel
theorem dX10_divideElement_13 : decode cX10_divideElement 13 = .ok (.iload_n 1, 1) := by decide +kernel
theorem dX10_divideElement_14 : decode cX10_divideElement 14 = .ok (.iaload, 1) := by decide +kernel
theorem dX10_divideElement_15 : decode cX10_divideElement 15 = .ok (.iconst (-1), 1) := by decide +kernel
theorem dX10_divideElement_16 : decode cX10_divideElement 16 = .ok (.if_icmp .ne 6, 3) := by decide +kernel
theorem dX10_divideElement_19 : decode cX10_divideElement 19 = .ok (.bipush (-11), 2) := by decide +kernel
theorem dX10_divideElement_21 : decode cX10_divideElement 21 = .ok (.ireturn, 1) := by decide +kernel
theorem dX10_divideElement_22 : decode cX10_divideElement 22 = .ok (.aload_n 0, 1) := by decide +kernel
theorem dX10_divideElement_23 : decode cX10_divideElement 23 = .ok (.getfield 44, 3) := by decide +kernel
theorem dX10_divideElement_26 : decode cX10_divideElement 26 = .ok (.iload_n 1, 1) := by decide +kernel
theorem dX10_divideElement_27 : decode cX10_divideElement 27 = .ok (.iaload, 1) := by decide +kernel
theorem dX10_divideElement_28 : decode cX10_divideElement 28 = .ok (.iconst 2, 1) := by decide +kernel
theorem dX10_divideElement_29 : decode cX10_divideElement 29 = .ok (.if_icmp .ge 6, 3) := by decide +kernel
theorem dX10_divideElement_32 : decode cX10_divideElement 32 = .ok (.bipush (-12), 2) := by decide +kernel
theorem dX10_divideElement_34 : decode cX10_divideElement 34 = .ok (.ireturn, 1) := by decide +kernel
theorem dX10_divideElement_35 : decode cX10_divideElement 35 = .ok (.aload_n 0, 1) := by decide +kernel
theorem dX10_divideElement_36 : decode cX10_divideElement 36 = .ok (.iload_n 1, 1) := by decide +kernel
theorem dX10_divideElement_37 : decode cX10_divideElement 37 = .ok (.iload_n 2, 1) := by decide +kernel
theorem dX10_divideElement_38 : decode cX10_divideElement 38 = .ok (.invokevirtual 278, 3) := by decide +kernel
theorem dX10_divideElement_41 : decode cX10_divideElement 41 = .ok (.ifCond .ne 6, 3) := by decide +kernel
theorem dX10_divideElement_44 : decode cX10_divideElement 44 = .ok (.bipush (-13), 2) := by decide +kernel
theorem dX10_divideElement_46 : decode cX10_divideElement 46 = .ok (.ireturn, 1) := by decide +kernel
theorem dX10_divideElement_47 : decode cX10_divideElement 47 = .ok (.bipush 40, 2) := by decide +kernel
theorem dX10_divideElement_49 : decode cX10_divideElement 49 = .ok (.iload_n 1, 1) := by decide +kernel
theorem dX10_divideElement_50 : decode cX10_divideElement 50 = .ok (.imul, 1) := by decide +kernel
theorem dX10_divideElement_51 : decode cX10_divideElement 51 = .ok (.iload_n 2, 1) := by decide +kernel
theorem dX10_divideElement_52 : decode cX10_divideElement 52 = .ok (.iadd, 1) := by decide +kernel
theorem dX10_divideElement_53 : decode cX10_divideElement 53 = .ok (.istore 4, 2) := by decide +kernel
theorem dX10_divideElement_55 : decode cX10_divideElement 55 = .ok (.aload_n 0, 1) := by decide +kernel
theorem dX10_divideElement_56 : decode cX10_divideElement 56 = .ok (.getfield 54, 3) := by decide +kernel
theorem dX10_divideElement_59 : decode cX10_divideElement 59 = .ok (.iload 4, 2) := by decide +kernel
theorem dX10_divideElement_61 : decode cX10_divideElement 61 = .ok (.aload_n 0, 1) := by decide +kernel
theorem dX10_divideElement_62 : decode cX10_divideElement 62 = .ok (.getfield 54, 3) := by decide +kernel
theorem dX10_divideElement_65 : decode cX10_divideElement 65 = .ok (.iload 4, 2) := by decide +kernel
theorem dX10_divideElement_67 : decode cX10_divideElement 67 = .ok (.faload, 1) := by decide +kernel
theorem dX10_divideElement_68 : decode cX10_divideElement 68 = .ok (.iload_n 3, 1) := by decide +kernel
theorem dX10_divideElement_69 : decode cX10_divideElement 69 = .ok (.i2f, 1) := by decide +kernel
theorem dX10_divideElement_70 : decode cX10_divideElement 70 = .ok (.fdiv, 1) := by decide +kernel
theorem dX10_divideElement_71 : decode cX10_divideElement 71 = .ok (.fastore, 1) := by decide +kernel
theorem dX10_divideElement_72 : decode cX10_divideElement 72 = .ok (.aload_n 0, 1) := by decide +kernel
theorem dX10_divideElement_73 : decode cX10_divideElement 73 = .ok (.getfield 57, 3) := by decide +kernel
theorem dX10_divideElement_76 : decode cX10_divideElement 76 = .ok (.iload 4, 2) := by decide +kernel
theorem dX10_divideElement_78 : decode cX10_divideElement 78 = .ok (.aload_n 0, 1) := by decide +kernel
theorem dX10_divideElement_79 : decode cX10_divideElement 79 = .ok (.getfield 57, 3) := by decide +kernel
theorem dX10_divideElement_82 : decode cX10_divideElement 82 = .ok (.iload 4, 2) := by decide +kernel
theorem dX10_divideElement_84 : decode cX10_divideElement 84 = .ok (.daload, 1) := by decide +kernel
theorem dX10_divideElement_85 : decode cX10_divideElement 85 = .ok (.iload_n 3, 1) := by decide +kernel
theorem dX10_divideElement_86 : decode cX10_divideElement 86 = .ok (.i2d, 1) := by decide +kernel
theorem dX10_divideElement_87 : decode cX10_divideElement 87 = .ok (.ddiv, 1) := by decide +kernel
theorem dX10_divideElement_88 : decode cX10_divideElement 88 = .ok (.dastore, 1) := by decide +kernel
theorem dX10_divideElement_89 : decode cX10_divideElement 89 = .ok (.iconst 1, 1) := by decide +kernel
theorem dX10_divideElement_90 : decode cX10_divideElement 90 = .ok (.ireturn, 1) := by decide +kernel
theorem dX10_element_0 : decode cX10_element 0 = .ok (.iload_n 1, 1) := by decide +kernel
theorem dX10_element_1 : decode cX10_element 1 = .ok (.invokestatic 275, 3) := by decide +kernel
theorem dX10_element_4 : decode cX10_element 4 = .ok (.ifCond .eq 22, 3) := by decide +kernel
theorem dX10_element_7 : decode cX10_element 7 = .ok (.aload_n 0, 1) := by decide +kernel
theorem dX10_element_8 : decode cX10_element 8 = .ok (.getfield 44, 3) := by decide +kernel
theorem dX10_element_11 : decode cX10_element 11 = .ok (.iload_n 1, 1) := by decide +kernel
theorem dX10_element_12 : decode cX10_element 12 = .ok (.iaload, 1) := by decide +kernel
theorem dX10_element_13 : decode cX10_element 13 = .ok (.iconst (-1), 1) := by decide +kernel
theorem dX10_element_14 : decode cX10_element 14 = .ok (.if_icmp .eq 12, 3) := by decide +kernel
theorem dX10_element_17 : decode cX10_element 17 = .ok (.aload_n 0, 1) := by decide +kernel
theorem dX10_element_18 : decode cX10_element 18 = .ok (.iload_n 1, 1) := by decide +kernel
theorem dX10_element_19 : decode cX10_element 19 = .ok (.iload_n 2, 1) := by decide +kernel
theorem dX10_element_20 : decode cX10_element 20 = .ok (.invokevirtual 278, 3) := by decide +kernel
theorem dX10_element_23 : decode cX10_element 23 = .ok (.ifCond .ne 7, 3) := by decide +kernel
theorem dX10_element_26 : decode cX10_element 26 = .ok (.ldc2_w 263, 3) := by decide +kernel
theorem dX10_element_29 : decode cX10_element 29 = .ok (.lreturn, 1) := by decide +kernel
theorem dX10_element_30 : decode cX10_element 30 = .ok (.bipush 40, 2) := by decide +kernel
theorem dX10_element_32 : decode cX10_element 32 = .ok (.iload_n 1, 1) := by decide +kernel
theorem dX10_element_33 : decode cX10_element 33 = .ok (.imul, 1) := by decide +kernel
theorem dX10_element_34 : decode cX10_element 34 = .ok (.iload_n 2, 1) := by decide +kernel
theorem dX10_element_35 : decode cX10_element 35 = .ok (.iadd, 1) := by decide +kernel
theorem dX10_element_36 : decode cX10_element 36 = .ok (.istore_n 3, 1) := by decide +kernel
theorem dX10_element_37 : decode cX10_element 37 = .ok (.aload_n 0, 1) := by decide +kernel
theorem dX10_element_38 : decode cX10_element 38 = .ok (.getfield 44, 3) := by decide +kernel
theorem dX10_element_41 : decode cX10_element 41 = .ok (.iload_n 1, 1) := by decide +kernel
theorem dX10_element_42 : decode cX10_element 42 = .ok (.iaload, 1) := by decide +kernel
theorem dX10_element_43 : decode cX10_element 43 = .ok (.iconst 2, 1) := by decide +kernel
theorem dX10_element_44 : decode cX10_element 44 = .ok (.if_icmp .ge 12, 3) := by decide +kernel
theorem dX10_element_47 : decode cX10_element 47 = .ok (.aload_n 0, 1) := by decide +kernel
theorem dX10_element_48 : decode cX10_element 48 = .ok (.getfield 50, 3) := by decide +kernel
theorem dX10_element_51 : decode cX10_element 51 = .ok (.iload_n 3, 1) := by decide +kernel
theorem dX10_element_52 : decode cX10_element 52 = .ok (.laload, 1) := by decide +kernel
theorem dX10_element_53 : decode cX10_element 53 = .ok (.goto 30, 3) := by decide +kernel
theorem dX10_element_56 : decode cX10_element 56 = .ok (.aload_n 0, 1) := by decide +kernel
theorem dX10_element_57 : decode cX10_element 57 = .ok (.getfield 44, 3) := by decide +kernel
theorem dX10_element_60 : decode cX10_element 60 = .ok (.iload_n 1, 1) := by decide +kernel
theorem dX10_element_61 : decode cX10_element 61 = .ok (.iaload, 1) := by decide +kernel
theorem dX10_element_62 : decode cX10_element 62 = .ok (.iconst 2, 1) := by decide +kernel
theorem dX10_element_63 : decode cX10_element 63 = .ok (.if_icmp .ne 13, 3) := by decide +kernel
theorem dX10_element_66 : decode cX10_element 66 = .ok (.aload_n 0, 1) := by decide +kernel
theorem dX10_element_67 : decode cX10_element 67 = .ok (.getfield 54, 3) := by decide +kernel
theorem dX10_element_70 : decode cX10_element 70 = .ok (.iload_n 3, 1) := by decide +kernel
theorem dX10_element_71 : decode cX10_element 71 = .ok (.faload, 1) := by decide +kernel
theorem dX10_element_72 : decode cX10_element 72 = .ok (.f2l, 1) := by decide +kernel
theorem dX10_element_73 : decode cX10_element 73 = .ok (.goto 10, 3) := by decide +kernel
theorem dX10_element_76 : decode cX10_element 76 = .ok (.aload_n 0, 1) := by decide +kernel
theorem dX10_element_77 : decode cX10_element 77 = .ok (.getfield 57, 3) := by decide +kernel
theorem dX10_element_80 : decode cX10_element 80 = .ok (.iload_n 3, 1) := by decide +kernel
theorem dX10_element_81 : decode cX10_element 81 = .ok (.daload, 1) := by decide +kernel
theorem dX10_element_82 : decode cX10_element 82 = .ok (.d2l, 1) := by decide +kernel
theorem dX10_element_83 : decode cX10_element 83 = .ok (.lreturn, 1) := by decide +kernel
theorem dX10_copyElements_0 : decode cX10_copyElements 0 = .ok (.iload_n 1, 1) := by decide +kernel
theorem dX10_copyElements_1 : decode cX10_copyElements 1 = .ok (.invokestatic 275, 3) := by decide +kernel
theorem dX10_copyElements_4 : decode cX10_copyElements 4 = .ok (.ifCond .eq 10, 3) := by decide +kernel
theorem dX10_copyElements_7 : decode cX10_copyElements 7 = .ok (.iload_n 3, 1) := by decide +kernel
theorem dX10_copyElements_8 : decode cX10_copyElements 8 = .ok (.invokestatic 275, 3) := by decide +kernel
theorem dX10_copyElements_11 : decode cX10_copyElements 11 = .ok (.ifCond .ne 5, 3) := by decide +kernel
theorem dX10_copyElements_14 : decode cX10_copyElements 14 = .ok (.iconst (-1), 1) := by decide +kernel
theorem dX10_copyElements_15 : decode cX10_copyElements 15 = .ok (.ireturn, 1) := by decide +kernel
theorem dX10_copyElements_16 : decode cX10_copyElements 16 = .ok (.aload_n 0, 1) := by decide +kernel
theorem dX10_copyElements_17 : decode cX10_copyElements 17 = .ok (.getfield 44, 3) := by decide +kernel
theorem dX10_copyElements_20 : decode cX10_copyElements 20 = .ok (.iload_n 1, 1) := by decide +kernel
theorem dX10_copyElements_21 : decode cX10_copyElements 21 = .ok (.iaload, 1) := by decide +kernel
theorem dX10_copyElements_22 : decode cX10_copyElements 22 = .ok (.iconst (-1), 1) := by decide +kernel
theorem dX10_copyElements_23 : decode cX10_copyElements 23 = .ok (.if_icmp .eq 13, 3) := by decide +kernel
theorem dX10_copyElements_26 : decode cX10_copyElements 26 = .ok (.aload_n 0, 1) := by decide +kernel
theorem dX10_copyElements_27 : decode cX10_copyElements 27 = .ok (.getfield 44, 3) := by decide +kernel
theorem dX10_copyElements_30 : decode cX10_copyElements 30 = .ok (.iload_n 3, 1) := by decide +kernel
theorem dX10_copyElements_31 : decode cX10_copyElements 31 = .ok (.iaload, 1) := by decide +kernel
theorem dX10_copyElements_32 : decode cX10_copyElements 32 = .ok (.iconst (-1), 1) := by decide +kernel
theorem dX10_copyElements_33 : decode cX10_copyElements 33 = .ok (.if_icmp .ne 6, 3) := by decide +kernel
theorem dX10_copyElements_36 : decode cX10_copyElements 36 = .ok (.bipush (-11), 2) := by decide +kernel
theorem dX10_copyElements_38 : decode cX10_copyElements 38 = .ok (.ireturn, 1) := by decide +kernel
theorem dX10_copyElements_39 : decode cX10_copyElements 39 = .ok (.aload_n 0, 1) := by decide +kernel
theorem dX10_copyElements_40 : decode cX10_copyElements 40 = .ok (.getfield 44, 3) := by decide +kernel
theorem dX10_copyElements_43 : decode cX10_copyElements 43 = .ok (.iload_n 1, 1) := by decide +kernel
theorem dX10_copyElements_44 : decode cX10_copyElements 44 = .ok (.iaload, 1) := by decide +kernel
theorem dX10_copyElements_45 : decode cX10_copyElements 45 = .ok (.aload_n 0, 1) := by decide +kernel
theorem dX10_copyElements_46 : decode cX10_copyElements 46 = .ok (.getfield 44, 3) := by decide +kernel
theorem dX10_copyElements_49 : decode cX10_copyElements 49 = .ok (.iload_n 3, 1) := by decide +kernel
theorem dX10_copyElements_50 : decode cX10_copyElements 50 = .ok (.iaload, 1) := by decide +kernel
theorem dX10_copyElements_51 : decode cX10_copyElements 51 = .ok (.if_icmp .eq 6, 3) := by decide +kernel
theorem dX10_copyElements_54 : decode cX10_copyElements 54 = .ok (.bipush (-12), 2) := by decide +kernel
theorem dX10_copyElements_56 : decode cX10_copyElements 56 = .ok (.ireturn, 1) := by decide +kernel
theorem dX10_copyElements_57 : decode cX10_copyElements 57 = .ok (.iload_n 2, 1) := by decide +kernel
theorem dX10_copyElements_58 : decode cX10_copyElements 58 = .ok (.ifCond .lt 17, 3) := by decide +kernel
theorem dX10_copyElements_61 : decode cX10_copyElements 61 = .ok (.iload 4, 2) := by decide +kernel
theorem dX10_copyElements_63 : decode cX10_copyElements 63 = .ok (.ifCond .lt 12, 3) := by decide +kernel
theorem dX10_copyElements_66 : decode cX10_copyElements 66 = .ok (.iload 5, 2) := by decide +kernel
theorem dX10_copyElements_68 : decode cX10_copyElements 68 = .ok (.ifCond .lt 7, 3) := by decide +kernel
theorem dX10_copyElements_71 : decode cX10_copyElements 71 = .ok (.iconst 1, 1) := by decide +kernel
theorem dX10_copyElements_72 : decode cX10_copyElements 72 = .ok (.goto 4, 3) := by decide +kernel
theorem dX10_copyElements_75 : decode cX10_copyElements 75 = .ok (.iconst 0, 1) := by decide +kernel
theorem dX10_copyElements_76 : decode cX10_copyElements 76 = .ok (.istore 6, 2) := by decide +kernel
theorem dX10_copyElements_78 : decode cX10_copyElements 78 = .ok (.iload 6, 2) := by decide +kernel
theorem dX10_copyElements_80 : decode cX10_copyElements 80 = .ok (.ifCond .eq 38, 3) := by decide +kernel
theorem dX10_copyElements_83 : decode cX10_copyElements 83 = .ok (.iload_n 2, 1) := by decide +kernel
theorem dX10_copyElements_84 : decode cX10_copyElements 84 = .ok (.i2l, 1) := by decide +kernel
theorem dX10_copyElements_85 : decode cX10_copyElements 85 = .ok (.iload 5, 2) := by decide +kernel
theorem dX10_copyElements_87 : decode cX10_copyElements 87 = .ok (.i2l, 1) := by decide +kernel
theorem dX10_copyElements_88 : decode cX10_copyElements 88 = .ok (.ladd, 1) := by decide +kernel
theorem dX10_copyElements_89 : decode cX10_copyElements 89 = .ok (.aload_n 0, 1) := by decide +kernel
theorem dX10_copyElements_90 : decode cX10_copyElements 90 = .ok (.getfield 47, 3) := by decide +kernel
theorem dX10_copyElements_93 : decode cX10_copyElements 93 = .ok (.iload_n 1, 1) := by decide +kernel
theorem dX10_copyElements_94 : decode cX10_copyElements 94 = .ok (.iaload, 1) := by decide +kernel
theorem dX10_copyElements_95 : decode cX10_copyElements 95 = .ok (.i2l, 1) := by decide +kernel
theorem dX10_copyElements_96 : decode cX10_copyElements 96 = .ok (.lcmp, 1) := by decide +kernel
theorem dX10_copyElements_97 : decode cX10_copyElements 97 = .ok (.ifCond .gt 21, 3) := by decide +kernel
theorem dX10_copyElements_100 : decode cX10_copyElements 100 = .ok (.iload 4, 2) := by decide +kernel
theorem dX10_copyElements_102 : decode cX10_copyElements 102 = .ok (.i2l, 1) := by decide +kernel
theorem dX10_copyElements_103 : decode cX10_copyElements 103 = .ok (.iload 5, 2) := by decide +kernel
theorem dX10_copyElements_105 : decode cX10_copyElements 105 = .ok (.i2l, 1) := by decide +kernel
theorem dX10_copyElements_106 : decode cX10_copyElements 106 = .ok (.ladd, 1) := by decide +kernel
theorem dX10_copyElements_107 : decode cX10_copyElements 107 = .ok (.aload_n 0, 1) := by decide +kernel
theorem dX10_copyElements_108 : decode cX10_copyElements 108 = .ok (.getfield 47, 3) := by decide +kernel
theorem dX10_copyElements_111 : decode cX10_copyElements 111 = .ok (.iload_n 3, 1) := by decide +kernel
theorem dX10_copyElements_112 : decode cX10_copyElements 112 = .ok (.iaload, 1) := by decide +kernel
theorem dX10_copyElements_113 : decode cX10_copyElements 113 = .ok (.i2l, 1) := by decide +kernel
theorem dX10_copyElements_114 : decode cX10_copyElements 114 = .ok (.lcmp, 1) := by decide +kernel
theorem dX10_copyElements_115 : decode cX10_copyElements 115 = .ok (.ifCond .le 6, 3) := by decide +kernel
theorem dX10_copyElements_118 : decode cX10_copyElements 118 = .ok (.bipush (-13), 2) := by decide +kernel
theorem dX10_copyElements_120 : decode cX10_copyElements 120 = .ok (.ireturn, 1) := by decide +kernel
theorem dX10_copyElements_121 : decode cX10_copyElements 121 = .ok (.bipush 40, 2) := by decide +kernel
theorem dX10_copyElements_123 : decode cX10_copyElements 123 = .ok (.iload_n 1, 1) := by decide +kernel
theorem dX10_copyElements_124 : decode cX10_copyElements 124 = .ok (.imul, 1) := by decide +kernel
theorem dX10_copyElements_125 : decode cX10_copyElements 125 = .ok (.iload_n 2, 1) := by decide +kernel
theorem dX10_copyElements_126 : decode cX10_copyElements 126 = .ok (.iadd, 1) := by decide +kernel
theorem dX10_copyElements_127 : decode cX10_copyElements 127 = .ok (.istore 7, 2) := by decide +kernel
theorem dX10_copyElements_129 : decode cX10_copyElements 129 = .ok (.bipush 40, 2) := by decide +kernel
theorem dX10_copyElements_131 : decode cX10_copyElements 131 = .ok (.iload_n 3, 1) := by decide +kernel
theorem dX10_copyElements_132 : decode cX10_copyElements 132 = .ok (.imul, 1) := by decide +kernel
theorem dX10_copyElements_133 : decode cX10_copyElements 133 = .ok (.iload 4, 2) := by decide +kernel
theorem dX10_copyElements_135 : decode cX10_copyElements 135 = .ok (.iadd, 1) := by decide +kernel
theorem dX10_copyElements_136 : decode cX10_copyElements 136 = .ok (.istore 8, 2) := by decide +kernel
theorem dX10_copyElements_138 : decode cX10_copyElements 138 = .ok (.iconst 0, 1) := by decide +kernel
theorem dX10_copyElements_139 : decode cX10_copyElements 139 = .ok (.istore 9, 2) := by decide +kernel
theorem dX10_copyElements_141 : decode cX10_copyElements 141 = .ok (.iload 9, 2) := by decide +kernel
theorem dX10_copyElements_143 : decode cX10_copyElements 143 = .ok (.iload 5, 2) := by decide +kernel
theorem dX10_copyElements_145 : decode cX10_copyElements 145 = .ok (.if_icmp .ge 90, 3) := by decide +kernel
theorem dX10_copyElements_148 : decode cX10_copyElements 148 = .ok (.iload 7, 2) := by decide +kernel
theorem dX10_copyElements_150 : decode cX10_copyElements 150 = .ok (.iload 8, 2) := by decide +kernel
theorem dX10_copyElements_152 : decode cX10_copyElements 152 = .ok (.if_icmp .ge 13, 3) := by decide +kernel
theorem dX10_copyElements_155 : decode cX10_copyElements 155 = .ok (.iload 5, 2) := by decide +kernel
theorem dX10_copyElements_157 : decode cX10_copyElements 157 = .ok (.iconst 1, 1) := by decide +kernel
theorem dX10_copyElements_158 : decode cX10_copyElements 158 = .ok (.isub, 1) := by decide +kernel
theorem dX10_copyElements_159 : decode cX10_copyElements 159 = .ok (.iload 9, 2) := by decide +kernel
theorem dX10_copyElements_161 : decode cX10_copyElements 161 = .ok (.isub, 1) := by decide +kernel
theorem dX10_copyElements_162 : decode cX10_copyElements 162 = .ok (.goto 5, 3) := by decide +kernel
theorem dX10_copyElements_165 : decode cX10_copyElements 165 = .ok (.iload 9, 2) := by decide +kernel
theorem dX10_copyElements_167 : decode cX10_copyElements 167 = .ok (.istore 10, 2) := by decide +kernel
theorem dX10_copyElements_169 : decode cX10_copyElements 169 = .ok (.aload_n 0, 1) := by decide +kernel
theorem dX10_copyElements_170 : decode cX10_copyElements 170 = .ok (.getfield 50, 3) := by decide +kernel
theorem dX10_copyElements_173 : decode cX10_copyElements 173 = .ok (.iload 8, 2) := by decide +kernel
theorem dX10_copyElements_175 : decode cX10_copyElements 175 = .ok (.iload 10, 2) := by decide +kernel
theorem dX10_copyElements_177 : decode cX10_copyElements 177 = .ok (.iadd, 1) := by decide +kernel
theorem dX10_copyElements_178 : decode cX10_copyElements 178 = .ok (.aload_n 0, 1) := by decide +kernel
theorem dX10_copyElements_179 : decode cX10_copyElements 179 = .ok (.getfield 50, 3) := by decide +kernel
theorem dX10_copyElements_182 : decode cX10_copyElements 182 = .ok (.iload 7, 2) := by decide +kernel
theorem dX10_copyElements_184 : decode cX10_copyElements 184 = .ok (.iload 10, 2) := by decide +kernel
theorem dX10_copyElements_186 : decode cX10_copyElements 186 = .ok (.iadd, 1) := by decide +kernel
theorem dX10_copyElements_187 : decode cX10_copyElements 187 = .ok (.laload, 1) := by decide +kernel
theorem dX10_copyElements_188 : decode cX10_copyElements 188 = .ok (.lastore, 1) := by decide +kernel
theorem dX10_copyElements_189 : decode cX10_copyElements 189 = .ok (.aload_n 0, 1) := by decide +kernel
theorem dX10_copyElements_190 : decode cX10_copyElements 190 = .ok (.getfield 54, 3) := by decide +kernel
theorem dX10_copyElements_193 : decode cX10_copyElements 193 = .ok (.iload 8, 2) := by decide +kernel
theorem dX10_copyElements_195 : decode cX10_copyElements 195 = .ok (.iload 10, 2) := by decide +kernel
theorem dX10_copyElements_197 : decode cX10_copyElements 197 = .ok (.iadd, 1) := by decide +kernel
theorem dX10_copyElements_198 : decode cX10_copyElements 198 = .ok (.aload_n 0, 1) := by decide +kernel
theorem dX10_copyElements_199 : decode cX10_copyElements 199 = .ok (.getfield 54, 3) := by decide +kernel
theorem dX10_copyElements_202 : decode cX10_copyElements 202 = .ok (.iload 7, 2) := by decide +kernel
theorem dX10_copyElements_204 : decode cX10_copyElements 204 = .ok (.iload 10, 2) := by decide +kernel
theorem dX10_copyElements_206 : decode cX10_copyElements 206 = .ok (.iadd, 1) := by decide +kernel
theorem dX10_copyElements_207 : decode cX10_copyElements 207 = .ok (.faload, 1) := by decide +kernel
theorem dX10_copyElements_208 : decode cX10_copyElements 208 = .ok (.fastore, 1) := by decide +kernel
theorem dX10_copyElements_209 : decode cX10_copyElements 209 = .ok (.aload_n 0, 1) := by decide +kernel
theorem dX10_copyElements_210 : decode cX10_copyElements 210 = .ok (.getfield 57, 3) := by decide +kernel
theorem dX10_copyElements_213 : decode cX10_copyElements 213 = .ok (.iload 8, 2) := by decide +kernel
theorem dX10_copyElements_215 : decode cX10_copyElements 215 = .ok (.iload 10, 2) := by decide +kernel
theorem dX10_copyElements_217 : decode cX10_copyElements 217 = .ok (.iadd, 1) := by decide +kernel
theorem dX10_copyElements_218 : decode cX10_copyElements 218 = .ok (.aload_n 0, 1) := by decide +kernel
theorem dX10_copyElements_219 : decode cX10_copyElements 219 = .ok (.getfield 57, 3) := by decide +kernel
theorem dX10_copyElements_222 : decode cX10_copyElements 222 = .ok (.iload 7, 2) := by decide +kernel
theorem dX10_copyElements_224 : decode cX10_copyElements 224 = .ok (.iload 10, 2) := by decide +kernel
theorem dX10_copyElements_226 : decode cX10_copyElements 226 = .ok (.iadd, 1) := by decide +kernel
theorem dX10_copyElements_227 : decode cX10_copyElements 227 = .ok (.daload, 1) := by decide +kernel
theorem dX10_copyElements_228 : decode cX10_copyElements 228 = .ok (.dastore, 1) := by decide +kernel
theorem dX10_copyElements_229 : decode cX10_copyElements 229 = .ok (.iinc 9 1, 3) := by decide +kernel
theorem dX10_copyElements_232 : decode cX10_copyElements 232 = .ok (.goto (-91), 3) := by decide +kernel
theorem dX10_copyElements_235 : decode cX10_copyElements 235 = .ok (.iload 5, 2) := by decide +kernel
theorem dX10_copyElements_237 : decode cX10_copyElements 237 = .ok (.ireturn, 1) := by decide +kernel
theorem dX10_checkCertificate_0 : decode cX10_checkCertificate 0 = .ok (.iload_n 1, 1) := by decide +kernel
theorem dX10_checkCertificate_1 : decode cX10_checkCertificate 1 = .ok (.invokestatic 275, 3) := by decide +kernel
theorem dX10_checkCertificate_4 : decode cX10_checkCertificate 4 = .ok (.ifCond .ne 5, 3) := by decide +kernel
theorem dX10_checkCertificate_7 : decode cX10_checkCertificate 7 = .ok (.iconst (-1), 1) := by decide +kernel
theorem dX10_checkCertificate_8 : decode cX10_checkCertificate 8 = .ok (.ireturn, 1) := by decide +kernel
theorem dX10_checkCertificate_9 : decode cX10_checkCertificate 9 = .ok (.aload_n 0, 1) := by decide +kernel
theorem dX10_checkCertificate_10 : decode cX10_checkCertificate 10 = .ok (.getfield 44, 3) := by decide +kernel
theorem dX10_checkCertificate_13 : decode cX10_checkCertificate 13 = .ok (.iload_n 1, 1) := by decide +kernel
theorem dX10_checkCertificate_14 : decode cX10_checkCertificate 14 = .ok (.iaload, 1) := by decide +kernel
theorem dX10_checkCertificate_15 : decode cX10_checkCertificate 15 = .ok (.iconst (-1), 1) := by decide +kernel
theorem dX10_checkCertificate_16 : decode cX10_checkCertificate 16 = .ok (.if_icmp .ne 6, 3) := by decide +kernel
theorem dX10_checkCertificate_19 : decode cX10_checkCertificate 19 = .ok (.bipush (-11), 2) := by decide +kernel
theorem dX10_checkCertificate_21 : decode cX10_checkCertificate 21 = .ok (.ireturn, 1) := by decide +kernel
theorem dX10_checkCertificate_22 : decode cX10_checkCertificate 22 = .ok (.aload_n 0, 1) := by decide +kernel
theorem dX10_checkCertificate_23 : decode cX10_checkCertificate 23 = .ok (.getfield 44, 3) := by decide +kernel
theorem dX10_checkCertificate_26 : decode cX10_checkCertificate 26 = .ok (.iload_n 1, 1) := by decide +kernel
theorem dX10_checkCertificate_27 : decode cX10_checkCertificate 27 = .ok (.iaload, 1) := by decide +kernel
theorem dX10_checkCertificate_28 : decode cX10_checkCertificate 28 = .ok (.ifCond .eq 6, 3) := by decide +kernel
theorem dX10_checkCertificate_31 : decode cX10_checkCertificate 31 = .ok (.bipush (-12), 2) := by decide +kernel
theorem dX10_checkCertificate_33 : decode cX10_checkCertificate 33 = .ok (.ireturn, 1) := by decide +kernel
theorem dX10_checkCertificate_34 : decode cX10_checkCertificate 34 = .ok (.aload_n 0, 1) := by decide +kernel
theorem dX10_checkCertificate_35 : decode cX10_checkCertificate 35 = .ok (.getfield 47, 3) := by decide +kernel
theorem dX10_checkCertificate_38 : decode cX10_checkCertificate 38 = .ok (.iload_n 1, 1) := by decide +kernel
theorem dX10_checkCertificate_39 : decode cX10_checkCertificate 39 = .ok (.iaload, 1) := by decide +kernel
theorem dX10_checkCertificate_40 : decode cX10_checkCertificate 40 = .ok (.aload_n 0, 1) := by decide +kernel
theorem dX10_checkCertificate_41 : decode cX10_checkCertificate 41 = .ok (.getfield 119, 3) := by decide +kernel
theorem dX10_checkCertificate_44 : decode cX10_checkCertificate 44 = .ok (.if_icmp .ge 6, 3) := by decide +kernel
theorem dX10_checkCertificate_47 : decode cX10_checkCertificate 47 = .ok (.bipush (-13), 2) := by decide +kernel
theorem dX10_checkCertificate_49 : decode cX10_checkCertificate 49 = .ok (.ireturn, 1) := by decide +kernel
theorem dX10_checkCertificate_50 : decode cX10_checkCertificate 50 = .ok (.iconst 0, 1) := by decide +kernel
theorem dX10_checkCertificate_51 : decode cX10_checkCertificate 51 = .ok (.istore_n 2, 1) := by decide +kernel
theorem dX10_checkCertificate_52 : decode cX10_checkCertificate 52 = .ok (.iconst 1, 1) := by decide +kernel
theorem dX10_checkCertificate_53 : decode cX10_checkCertificate 53 = .ok (.istore_n 3, 1) := by decide +kernel
theorem dX10_checkCertificate_54 : decode cX10_checkCertificate 54 = .ok (.iconst 0, 1) := by decide +kernel
theorem dX10_checkCertificate_55 : decode cX10_checkCertificate 55 = .ok (.istore 4, 2) := by decide +kernel
theorem dX10_checkCertificate_57 : decode cX10_checkCertificate 57 = .ok (.iload 4, 2) := by decide +kernel
theorem dX10_checkCertificate_59 : decode cX10_checkCertificate 59 = .ok (.aload_n 0, 1) := by decide +kernel
theorem dX10_checkCertificate_60 : decode cX10_checkCertificate 60 = .ok (.getfield 119, 3) := by decide +kernel
theorem dX10_checkCertificate_63 : decode cX10_checkCertificate 63 = .ok (.if_icmp .ge 63, 3) := by decide +kernel
theorem dX10_checkCertificate_66 : decode cX10_checkCertificate 66 = .ok (.iload_n 2, 1) := by decide +kernel
theorem dX10_checkCertificate_67 : decode cX10_checkCertificate 67 = .ok (.ifCond .ne 20, 3) := by decide +kernel
theorem dX10_checkCertificate_70 : decode cX10_checkCertificate 70 = .ok (.aload_n 0, 1) := by decide +kernel
theorem dX10_checkCertificate_71 : decode cX10_checkCertificate 71 = .ok (.getfield 50, 3) := by decide +kernel
theorem dX10_checkCertificate_74 : decode cX10_checkCertificate 74 = .ok (.bipush 40, 2) := by decide +kernel
theorem dX10_checkCertificate_76 : decode cX10_checkCertificate 76 = .ok (.iload_n 1, 1) := by decide +kernel
theorem dX10_checkCertificate_77 : decode cX10_checkCertificate 77 = .ok (.imul, 1) := by decide +kernel
theorem dX10_checkCertificate_78 : decode cX10_checkCertificate 78 = .ok (.iload 4, 2) := by decide +kernel
theorem dX10_checkCertificate_80 : decode cX10_checkCertificate 80 = .ok (.iadd, 1) := by decide +kernel
theorem dX10_checkCertificate_81 : decode cX10_checkCertificate 81 = .ok (.laload, 1) := by decide +kernel
theorem dX10_checkCertificate_82 : decode cX10_checkCertificate 82 = .ok (.lconst 0, 1) := by decide +kernel
theorem dX10_checkCertificate_83 : decode cX10_checkCertificate 83 = .ok (.lcmp, 1) := by decide +kernel
theorem dX10_checkCertificate_84 : decode cX10_checkCertificate 84 = .ok (.ifCond .eq 7, 3) := by decide +kernel
theorem dX10_checkCertificate_87 : decode cX10_checkCertificate 87 = .ok (.iconst 1, 1) := by decide +kernel
theorem dX10_checkCertificate_88 : decode cX10_checkCertificate 88 = .ok (.goto 4, 3) := by decide +kernel
theorem dX10_checkCertificate_91 : decode cX10_checkCertificate 91 = .ok (.iconst 0, 1) := by decide +kernel
theorem dX10_checkCertificate_92 : decode cX10_checkCertificate 92 = .ok (.istore_n 2, 1) := by decide +kernel
theorem dX10_checkCertificate_93 : decode cX10_checkCertificate 93 = .ok (.iload_n 3, 1) := by decide +kernel
theorem dX10_checkCertificate_94 : decode cX10_checkCertificate 94 = .ok (.ifCond .eq 24, 3) := by decide +kernel
theorem dX10_checkCertificate_97 : decode cX10_checkCertificate 97 = .ok (.aload_n 0, 1) := by decide +kernel
theorem dX10_checkCertificate_98 : decode cX10_checkCertificate 98 = .ok (.getfield 50, 3) := by decide +kernel
theorem dX10_checkCertificate_101 : decode cX10_checkCertificate 101 = .ok (.bipush 40, 2) := by decide +kernel
theorem dX10_checkCertificate_103 : decode cX10_checkCertificate 103 = .ok (.iload_n 1, 1) := by decide +kernel
theorem dX10_checkCertificate_104 : decode cX10_checkCertificate 104 = .ok (.imul, 1) := by decide +kernel
theorem dX10_checkCertificate_105 : decode cX10_checkCertificate 105 = .ok (.iload 4, 2) := by decide +kernel
theorem dX10_checkCertificate_107 : decode cX10_checkCertificate 107 = .ok (.iadd, 1) := by decide +kernel
theorem dX10_checkCertificate_108 : decode cX10_checkCertificate 108 = .ok (.laload, 1) := by decide +kernel
theorem dX10_checkCertificate_109 : decode cX10_checkCertificate 109 = .ok (.lconst 0, 1) := by decide +kernel
theorem dX10_checkCertificate_110 : decode cX10_checkCertificate 110 = .ok (.lcmp, 1) := by decide +kernel
theorem dX10_checkCertificate_111 : decode cX10_checkCertificate 111 = .ok (.ifCond .lt 7, 3) := by decide +kernel
theorem dX10_checkCertificate_114 : decode cX10_checkCertificate 114 = .ok (.iconst 1, 1) := by decide +kernel
theorem dX10_checkCertificate_115 : decode cX10_checkCertificate 115 = .ok (.goto 4, 3) := by decide +kernel
theorem dX10_checkCertificate_118 : decode cX10_checkCertificate 118 = .ok (.iconst 0, 1) := by decide +kernel
theorem dX10_checkCertificate_119 : decode cX10_checkCertificate 119 = .ok (.istore_n 3, 1) := by decide +kernel
theorem dX10_checkCertificate_120 : decode cX10_checkCertificate 120 = .ok (.iinc 4 1, 3) := by decide +kernel
theorem dX10_checkCertificate_123 : decode cX10_checkCertificate 123 = .ok (.goto (-66), 3) := by decide +kernel
theorem dX10_checkCertificate_126 : decode cX10_checkCertificate 126 = .ok (.iconst 0, 1) := by decide +kernel
theorem dX10_checkCertificate_127 : decode cX10_checkCertificate 127 = .ok (.istore 4, 2) := by decide +kernel
theorem dX10_checkCertificate_129 : decode cX10_checkCertificate 129 = .ok (.iload 4, 2) := by decide +kernel
theorem dX10_checkCertificate_131 : decode cX10_checkCertificate 131 = .ok (.aload_n 0, 1) := by decide +kernel
theorem dX10_checkCertificate_132 : decode cX10_checkCertificate 132 = .ok (.getfield 9, 3) := by decide +kernel
theorem dX10_checkCertificate_135 : decode cX10_checkCertificate 135 = .ok (.if_icmp .ge 74, 3) := by decide +kernel
theorem dX10_checkCertificate_138 : decode cX10_checkCertificate 138 = .ok (.lconst 0, 1) := by decide +kernel
theorem dX10_checkCertificate_139 : decode cX10_checkCertificate 139 = .ok (.lstore 5, 2) := by decide +kernel
theorem dX10_checkCertificate_141 : decode cX10_checkCertificate 141 = .ok (.iconst 0, 1) := by decide +kernel
theorem dX10_checkCertificate_142 : decode cX10_checkCertificate 142 = .ok (.istore 7, 2) := by decide +kernel
theorem dX10_checkCertificate_144 : decode cX10_checkCertificate 144 = .ok (.iload 7, 2) := by decide +kernel
theorem dX10_checkCertificate_146 : decode cX10_checkCertificate 146 = .ok (.aload_n 0, 1) := by decide +kernel
theorem dX10_checkCertificate_147 : decode cX10_checkCertificate 147 = .ok (.getfield 119, 3) := by decide +kernel
theorem dX10_checkCertificate_150 : decode cX10_checkCertificate 150 = .ok (.if_icmp .ge 36, 3) := by decide +kernel
theorem dX10_checkCertificate_153 : decode cX10_checkCertificate 153 = .ok (.lload 5, 2) := by decide +kernel
theorem dX10_checkCertificate_155 : decode cX10_checkCertificate 155 = .ok (.aload_n 0, 1) := by decide +kernel
theorem dX10_checkCertificate_156 : decode cX10_checkCertificate 156 = .ok (.getfield 50, 3) := by decide +kernel
theorem dX10_checkCertificate_159 : decode cX10_checkCertificate 159 = .ok (.bipush 40, 2) := by decide +kernel
theorem dX10_checkCertificate_161 : decode cX10_checkCertificate 161 = .ok (.iload_n 1, 1) := by decide +kernel
theorem dX10_checkCertificate_162 : decode cX10_checkCertificate 162 = .ok (.imul, 1) := by decide +kernel
theorem dX10_checkCertificate_163 : decode cX10_checkCertificate 163 = .ok (.iload 7, 2) := by decide +kernel
theorem dX10_checkCertificate_165 : decode cX10_checkCertificate 165 = .ok (.iadd, 1) := by decide +kernel
theorem dX10_checkCertificate_166 : decode cX10_checkCertificate 166 = .ok (.laload, 1) := by decide +kernel
theorem dX10_checkCertificate_167 : decode cX10_checkCertificate 167 = .ok (.aload_n 0, 1) := by decide +kernel
theorem dX10_checkCertificate_168 : decode cX10_checkCertificate 168 = .ok (.iload 7, 2) := by decide +kernel
theorem dX10_checkCertificate_170 : decode cX10_checkCertificate 170 = .ok (.iload 4, 2) := by decide +kernel
theorem dX10_checkCertificate_172 : decode cX10_checkCertificate 172 = .ok (.invokevirtual 159, 3) := by decide +kernel
theorem dX10_checkCertificate_175 : decode cX10_checkCertificate 175 = .ok (.i2l, 1) := by decide +kernel
theorem dX10_checkCertificate_176 : decode cX10_checkCertificate 176 = .ok (.lmul, 1) := by decide +kernel
theorem dX10_checkCertificate_177 : decode cX10_checkCertificate 177 = .ok (.ladd, 1) := by decide +kernel
theorem dX10_checkCertificate_178 : decode cX10_checkCertificate 178 = .ok (.lstore 5, 2) := by decide +kernel
theorem dX10_checkCertificate_180 : decode cX10_checkCertificate 180 = .ok (.iinc 7 1, 3) := by decide +kernel
theorem dX10_checkCertificate_183 : decode cX10_checkCertificate 183 = .ok (.goto (-39), 3) := by decide +kernel
theorem dX10_checkCertificate_186 : decode cX10_checkCertificate 186 = .ok (.iload_n 3, 1) := by decide +kernel
theorem dX10_checkCertificate_187 : decode cX10_checkCertificate 187 = .ok (.ifCond .eq 14, 3) := by decide +kernel
theorem dX10_checkCertificate_190 : decode cX10_checkCertificate 190 = .ok (.lload 5, 2) := by decide +kernel
theorem dX10_checkCertificate_192 : decode cX10_checkCertificate 192 = .ok (.lconst 0, 1) := by decide +kernel
theorem dX10_checkCertificate_193 : decode cX10_checkCertificate 193 = .ok (.lcmp, 1) := by decide +kernel
theorem dX10_checkCertificate_194 : decode cX10_checkCertificate 194 = .ok (.ifCond .gt 7, 3) := by decide +kernel
theorem dX10_checkCertificate_197 : decode cX10_checkCertificate 197 = .ok (.iconst 1, 1) := by decide +kernel
theorem dX10_checkCertificate_198 : decode cX10_checkCertificate 198 = .ok (.goto 4, 3) := by decide +kernel
theorem dX10_checkCertificate_201 : decode cX10_checkCertificate 201 = .ok (.iconst 0, 1) := by decide +kernel
theorem dX10_checkCertificate_202 : decode cX10_checkCertificate 202 = .ok (.istore_n 3, 1) := by decide +kernel
theorem dX10_checkCertificate_203 : decode cX10_checkCertificate 203 = .ok (.iinc 4 1, 3) := by decide +kernel
theorem dX10_checkCertificate_206 : decode cX10_checkCertificate 206 = .ok (.goto (-77), 3) := by decide +kernel
theorem dX10_checkCertificate_209 : decode cX10_checkCertificate 209 = .ok (.iload_n 2, 1) := by decide +kernel
theorem dX10_checkCertificate_210 : decode cX10_checkCertificate 210 = .ok (.ifCond .eq 11, 3) := by decide +kernel
theorem dX10_checkCertificate_213 : decode cX10_checkCertificate 213 = .ok (.iload_n 3, 1) := by decide +kernel
theorem dX10_checkCertificate_214 : decode cX10_checkCertificate 214 = .ok (.ifCond .eq 7, 3) := by decide +kernel
theorem dX10_checkCertificate_217 : decode cX10_checkCertificate 217 = .ok (.iconst 1, 1) := by decide +kernel
theorem dX10_checkCertificate_218 : decode cX10_checkCertificate 218 = .ok (.goto 4, 3) := by decide +kernel
theorem dX10_checkCertificate_221 : decode cX10_checkCertificate 221 = .ok (.iconst 0, 1) := by decide +kernel
theorem dX10_checkCertificate_222 : decode cX10_checkCertificate 222 = .ok (.ireturn, 1) := by decide +kernel
theorem dX10_snapshot_0 : decode cX10_snapshot 0 = .ok (.aload_n 0, 1) := by decide +kernel
theorem dX10_snapshot_1 : decode cX10_snapshot 1 = .ok (.iconst 1, 1) := by decide +kernel
theorem dX10_snapshot_2 : decode cX10_snapshot 2 = .ok (.putfield 281, 3) := by decide +kernel
theorem dX10_snapshot_5 : decode cX10_snapshot 5 = .ok (.aload_n 0, 1) := by decide +kernel
theorem dX10_snapshot_6 : decode cX10_snapshot 6 = .ok (.aload_n 0, 1) := by decide +kernel
theorem dX10_snapshot_7 : decode cX10_snapshot 7 = .ok (.getfield 9, 3) := by decide +kernel
theorem dX10_snapshot_10 : decode cX10_snapshot 10 = .ok (.putfield 285, 3) := by decide +kernel
theorem dX10_snapshot_13 : decode cX10_snapshot 13 = .ok (.aload_n 0, 1) := by decide +kernel
theorem dX10_snapshot_14 : decode cX10_snapshot 14 = .ok (.aload_n 0, 1) := by decide +kernel
theorem dX10_snapshot_15 : decode cX10_snapshot 15 = .ok (.getfield 119, 3) := by decide +kernel
theorem dX10_snapshot_18 : decode cX10_snapshot 18 = .ok (.putfield 288, 3) := by decide +kernel
theorem dX10_snapshot_21 : decode cX10_snapshot 21 = .ok (.aload_n 0, 1) := by decide +kernel
theorem dX10_snapshot_22 : decode cX10_snapshot 22 = .ok (.aload_n 0, 1) := by decide +kernel
theorem dX10_snapshot_23 : decode cX10_snapshot 23 = .ok (.getfield 130, 3) := by decide +kernel
theorem dX10_snapshot_26 : decode cX10_snapshot 26 = .ok (.putfield 291, 3) := by decide +kernel
theorem dX10_snapshot_29 : decode cX10_snapshot 29 = .ok (.aload_n 0, 1) := by decide +kernel
theorem dX10_snapshot_30 : decode cX10_snapshot 30 = .ok (.aload_n 0, 1) := by decide +kernel
theorem dX10_snapshot_31 : decode cX10_snapshot 31 = .ok (.getfield 124, 3) := by decide +kernel
theorem dX10_snapshot_34 : decode cX10_snapshot 34 = .ok (.putfield 294, 3) := by decide +kernel
theorem dX10_snapshot_37 : decode cX10_snapshot 37 = .ok (.iconst 0, 1) := by decide +kernel
theorem dX10_snapshot_38 : decode cX10_snapshot 38 = .ok (.istore_n 1, 1) := by decide +kernel
theorem dX10_snapshot_39 : decode cX10_snapshot 39 = .ok (.iload_n 1, 1) := by decide +kernel
theorem dX10_snapshot_40 : decode cX10_snapshot 40 = .ok (.bipush 96, 2) := by decide +kernel
theorem dX10_snapshot_42 : decode cX10_snapshot 42 = .ok (.if_icmp .ge 21, 3) := by decide +kernel
theorem dX10_snapshot_45 : decode cX10_snapshot 45 = .ok (.aload_n 0, 1) := by decide +kernel
theorem dX10_snapshot_46 : decode cX10_snapshot 46 = .ok (.getfield 64, 3) := by decide +kernel
theorem dX10_snapshot_49 : decode cX10_snapshot 49 = .ok (.iload_n 1, 1) := by decide +kernel
theorem dX10_snapshot_50 : decode cX10_snapshot 50 = .ok (.aload_n 0, 1) := by decide +kernel
theorem dX10_snapshot_51 : decode cX10_snapshot 51 = .ok (.getfield 19, 3) := by decide +kernel
theorem dX10_snapshot_54 : decode cX10_snapshot 54 = .ok (.iload_n 1, 1) := by decide +kernel
theorem dX10_snapshot_55 : decode cX10_snapshot 55 = .ok (.iaload, 1) := by decide +kernel
theorem dX10_snapshot_56 : decode cX10_snapshot 56 = .ok (.iastore, 1) := by decide +kernel
theorem dX10_snapshot_57 : decode cX10_snapshot 57 = .ok (.iinc 1 1, 3) := by decide +kernel
theorem dX10_snapshot_60 : decode cX10_snapshot 60 = .ok (.goto (-21), 3) := by decide +kernel
theorem dX10_snapshot_63 : decode cX10_snapshot 63 = .ok (.iconst 0, 1) := by decide +kernel
theorem dX10_snapshot_64 : decode cX10_snapshot 64 = .ok (.istore_n 1, 1) := by decide +kernel
theorem dX10_snapshot_65 : decode cX10_snapshot 65 = .ok (.iload_n 1, 1) := by decide +kernel
theorem dX10_snapshot_66 : decode cX10_snapshot 66 = .ok (.bipush 16, 2) := by decide +kernel
theorem dX10_snapshot_68 : decode cX10_snapshot 68 = .ok (.if_icmp .ge 21, 3) := by decide +kernel
theorem dX10_snapshot_71 : decode cX10_snapshot 71 = .ok (.aload_n 0, 1) := by decide +kernel
theorem dX10_snapshot_72 : decode cX10_snapshot 72 = .ok (.getfield 61, 3) := by decide +kernel
theorem dX10_snapshot_75 : decode cX10_snapshot 75 = .ok (.iload_n 1, 1) := by decide +kernel
theorem dX10_snapshot_76 : decode cX10_snapshot 76 = .ok (.aload_n 0, 1) := by decide +kernel
theorem dX10_snapshot_77 : decode cX10_snapshot 77 = .ok (.getfield 15, 3) := by decide +kernel
theorem dX10_snapshot_80 : decode cX10_snapshot 80 = .ok (.iload_n 1, 1) := by decide +kernel
theorem dX10_snapshot_81 : decode cX10_snapshot 81 = .ok (.iaload, 1) := by decide +kernel
theorem dX10_snapshot_82 : decode cX10_snapshot 82 = .ok (.iastore, 1) := by decide +kernel
theorem dX10_snapshot_83 : decode cX10_snapshot 83 = .ok (.iinc 1 1, 3) := by decide +kernel
theorem dX10_snapshot_86 : decode cX10_snapshot 86 = .ok (.goto (-21), 3) := by decide +kernel
theorem dX10_snapshot_89 : decode cX10_snapshot 89 = .ok (.iconst 0, 1) := by decide +kernel
theorem dX10_snapshot_90 : decode cX10_snapshot 90 = .ok (.istore_n 1, 1) := by decide +kernel
theorem dX10_snapshot_91 : decode cX10_snapshot 91 = .ok (.iload_n 1, 1) := by decide +kernel
theorem dX10_snapshot_92 : decode cX10_snapshot 92 = .ok (.bipush 6, 2) := by decide +kernel
theorem dX10_snapshot_94 : decode cX10_snapshot 94 = .ok (.if_icmp .ge 45, 3) := by decide +kernel
theorem dX10_snapshot_97 : decode cX10_snapshot 97 = .ok (.aload_n 0, 1) := by decide +kernel
theorem dX10_snapshot_98 : decode cX10_snapshot 98 = .ok (.getfield 67, 3) := by decide +kernel
theorem dX10_snapshot_101 : decode cX10_snapshot 101 = .ok (.iload_n 1, 1) := by decide +kernel
theorem dX10_snapshot_102 : decode cX10_snapshot 102 = .ok (.aload_n 0, 1) := by decide +kernel
theorem dX10_snapshot_103 : decode cX10_snapshot 103 = .ok (.getfield 22, 3) := by decide +kernel
theorem dX10_snapshot_106 : decode cX10_snapshot 106 = .ok (.iload_n 1, 1) := by decide +kernel
theorem dX10_snapshot_107 : decode cX10_snapshot 107 = .ok (.iaload, 1) := by decide +kernel
theorem dX10_snapshot_108 : decode cX10_snapshot 108 = .ok (.iastore, 1) := by decide +kernel
theorem dX10_snapshot_109 : decode cX10_snapshot 109 = .ok (.aload_n 0, 1) := by decide +kernel
theorem dX10_snapshot_110 : decode cX10_snapshot 110 = .ok (.getfield 70, 3) := by decide +kernel
theorem dX10_snapshot_113 : decode cX10_snapshot 113 = .ok (.iload_n 1, 1) := by decide +kernel
theorem dX10_snapshot_114 : decode cX10_snapshot 114 = .ok (.aload_n 0, 1) := by decide +kernel
theorem dX10_snapshot_115 : decode cX10_snapshot 115 = .ok (.getfield 25, 3) := by decide +kernel
theorem dX10_snapshot_118 : decode cX10_snapshot 118 = .ok (.iload_n 1, 1) := by decide +kernel
theorem dX10_snapshot_119 : decode cX10_snapshot 119 = .ok (.iaload, 1) := by decide +kernel
theorem dX10_snapshot_120 : decode cX10_snapshot 120 = .ok (.iastore, 1) := by decide +kernel
theorem dX10_snapshot_121 : decode cX10_snapshot 121 = .ok (.aload_n 0, 1) := by decide +kernel
theorem dX10_snapshot_122 : decode cX10_snapshot 122 = .ok (.getfield 73, 3) := by decide +kernel
theorem dX10_snapshot_125 : decode cX10_snapshot 125 = .ok (.iload_n 1, 1) := by decide +kernel
theorem dX10_snapshot_126 : decode cX10_snapshot 126 = .ok (.aload_n 0, 1) := by decide +kernel
theorem dX10_snapshot_127 : decode cX10_snapshot 127 = .ok (.getfield 28, 3) := by decide +kernel
theorem dX10_snapshot_130 : decode cX10_snapshot 130 = .ok (.iload_n 1, 1) := by decide +kernel
theorem dX10_snapshot_131 : decode cX10_snapshot 131 = .ok (.faload, 1) := by decide +kernel
theorem dX10_snapshot_132 : decode cX10_snapshot 132 = .ok (.fastore, 1) := by decide +kernel
theorem dX10_snapshot_133 : decode cX10_snapshot 133 = .ok (.iinc 1 1, 3) := by decide +kernel
theorem dX10_snapshot_136 : decode cX10_snapshot 136 = .ok (.goto (-45), 3) := by decide +kernel
theorem dX10_snapshot_139 : decode cX10_snapshot 139 = .ok (.iconst 0, 1) := by decide +kernel
theorem dX10_snapshot_140 : decode cX10_snapshot 140 = .ok (.istore_n 1, 1) := by decide +kernel
theorem dX10_snapshot_141 : decode cX10_snapshot 141 = .ok (.iload_n 1, 1) := by decide +kernel
theorem dX10_snapshot_142 : decode cX10_snapshot 142 = .ok (.bipush 12, 2) := by decide +kernel
theorem dX10_snapshot_144 : decode cX10_snapshot 144 = .ok (.if_icmp .ge 21, 3) := by decide +kernel
theorem dX10_snapshot_147 : decode cX10_snapshot 147 = .ok (.aload_n 0, 1) := by decide +kernel
theorem dX10_snapshot_148 : decode cX10_snapshot 148 = .ok (.getfield 76, 3) := by decide +kernel
theorem dX10_snapshot_151 : decode cX10_snapshot 151 = .ok (.iload_n 1, 1) := by decide +kernel
theorem dX10_snapshot_152 : decode cX10_snapshot 152 = .ok (.aload_n 0, 1) := by decide +kernel
theorem dX10_snapshot_153 : decode cX10_snapshot 153 = .ok (.getfield 35, 3) := by decide +kernel
theorem dX10_snapshot_156 : decode cX10_snapshot 156 = .ok (.iload_n 1, 1) := by decide +kernel
theorem dX10_snapshot_157 : decode cX10_snapshot 157 = .ok (.iaload, 1) := by decide +kernel
theorem dX10_snapshot_158 : decode cX10_snapshot 158 = .ok (.iastore, 1) := by decide +kernel
theorem dX10_snapshot_159 : decode cX10_snapshot 159 = .ok (.iinc 1 1, 3) := by decide +kernel
theorem dX10_snapshot_162 : decode cX10_snapshot 162 = .ok (.goto (-21), 3) := by decide +kernel
theorem dX10_snapshot_165 : decode cX10_snapshot 165 = .ok (.aload_n 0, 1) := by decide +kernel
theorem dX10_snapshot_166 : decode cX10_snapshot 166 = .ok (.getfield 119, 3) := by decide +kernel
theorem dX10_snapshot_169 : decode cX10_snapshot 169 = .ok (.ireturn, 1) := by decide +kernel
theorem dX10_restore_0 : decode cX10_restore 0 = .ok (.aload_n 0, 1) := by decide +kernel
theorem dX10_restore_1 : decode cX10_restore 1 = .ok (.getfield 281, 3) := by decide +kernel
theorem dX10_restore_4 : decode cX10_restore 4 = .ok (.ifCond .ne 6, 3) := by decide +kernel
theorem dX10_restore_7 : decode cX10_restore 7 = .ok (.bipush (-6), 2) := by decide +kernel
theorem dX10_restore_9 : decode cX10_restore 9 = .ok (.ireturn, 1) := by decide +kernel
theorem dX10_restore_10 : decode cX10_restore 10 = .ok (.aload_n 0, 1) := by decide +kernel
theorem dX10_restore_11 : decode cX10_restore 11 = .ok (.aload_n 0, 1) := by decide +kernel
theorem dX10_restore_12 : decode cX10_restore 12 = .ok (.getfield 285, 3) := by decide +kernel
theorem dX10_restore_15 : decode cX10_restore 15 = .ok (.putfield 9, 3) := by decide +kernel
theorem dX10_restore_18 : decode cX10_restore 18 = .ok (.aload_n 0, 1) := by decide +kernel
theorem dX10_restore_19 : decode cX10_restore 19 = .ok (.aload_n 0, 1) := by decide +kernel
theorem dX10_restore_20 : decode cX10_restore 20 = .ok (.getfield 288, 3) := by decide +kernel
theorem dX10_restore_23 : decode cX10_restore 23 = .ok (.putfield 119, 3) := by decide +kernel
theorem dX10_restore_26 : decode cX10_restore 26 = .ok (.aload_n 0, 1) := by decide +kernel
theorem dX10_restore_27 : decode cX10_restore 27 = .ok (.aload_n 0, 1) := by decide +kernel
theorem dX10_restore_28 : decode cX10_restore 28 = .ok (.getfield 291, 3) := by decide +kernel
theorem dX10_restore_31 : decode cX10_restore 31 = .ok (.putfield 130, 3) := by decide +kernel
theorem dX10_restore_34 : decode cX10_restore 34 = .ok (.aload_n 0, 1) := by decide +kernel
theorem dX10_restore_35 : decode cX10_restore 35 = .ok (.aload_n 0, 1) := by decide +kernel
theorem dX10_restore_36 : decode cX10_restore 36 = .ok (.getfield 294, 3) := by decide +kernel
theorem dX10_restore_39 : decode cX10_restore 39 = .ok (.putfield 124, 3) := by decide +kernel
theorem dX10_restore_42 : decode cX10_restore 42 = .ok (.aload_n 0, 1) := by decide +kernel
theorem dX10_restore_43 : decode cX10_restore 43 = .ok (.iconst 0, 1) := by decide +kernel
theorem dX10_restore_44 : decode cX10_restore 44 = .ok (.putfield 127, 3) := by decide +kernel
theorem dX10_restore_47 : decode cX10_restore 47 = .ok (.iconst 0, 1) := by decide +kernel
theorem dX10_restore_48 : decode cX10_restore 48 = .ok (.istore_n 1, 1) := by decide +kernel
theorem dX10_restore_49 : decode cX10_restore 49 = .ok (.iload_n 1, 1) := by decide +kernel
theorem dX10_restore_50 : decode cX10_restore 50 = .ok (.bipush 96, 2) := by decide +kernel
theorem dX10_restore_52 : decode cX10_restore 52 = .ok (.if_icmp .ge 21, 3) := by decide +kernel
theorem dX10_restore_55 : decode cX10_restore 55 = .ok (.aload_n 0, 1) := by decide +kernel
theorem dX10_restore_56 : decode cX10_restore 56 = .ok (.getfield 19, 3) := by decide +kernel
theorem dX10_restore_59 : decode cX10_restore 59 = .ok (.iload_n 1, 1) := by decide +kernel
theorem dX10_restore_60 : decode cX10_restore 60 = .ok (.aload_n 0, 1) := by decide +kernel
theorem dX10_restore_61 : decode cX10_restore 61 = .ok (.getfield 64, 3) := by decide +kernel
theorem dX10_restore_64 : decode cX10_restore 64 = .ok (.iload_n 1, 1) := by decide +kernel
theorem dX10_restore_65 : decode cX10_restore 65 = .ok (.iaload, 1) := by decide +kernel
theorem dX10_restore_66 : decode cX10_restore 66 = .ok (.iastore, 1) := by decide +kernel
theorem dX10_restore_67 : decode cX10_restore 67 = .ok (.iinc 1 1, 3) := by decide +kernel
theorem dX10_restore_70 : decode cX10_restore 70 = .ok (.goto (-21), 3) := by decide +kernel
theorem dX10_restore_73 : decode cX10_restore 73 = .ok (.iconst 0, 1) := by decide +kernel
theorem dX10_restore_74 : decode cX10_restore 74 = .ok (.istore_n 1, 1) := by decide +kernel
theorem dX10_restore_75 : decode cX10_restore 75 = .ok (.iload_n 1, 1) := by decide +kernel
theorem dX10_restore_76 : decode cX10_restore 76 = .ok (.bipush 16, 2) := by decide +kernel
theorem dX10_restore_78 : decode cX10_restore 78 = .ok (.if_icmp .ge 21, 3) := by decide +kernel
theorem dX10_restore_81 : decode cX10_restore 81 = .ok (.aload_n 0, 1) := by decide +kernel
theorem dX10_restore_82 : decode cX10_restore 82 = .ok (.getfield 15, 3) := by decide +kernel
theorem dX10_restore_85 : decode cX10_restore 85 = .ok (.iload_n 1, 1) := by decide +kernel
theorem dX10_restore_86 : decode cX10_restore 86 = .ok (.aload_n 0, 1) := by decide +kernel
theorem dX10_restore_87 : decode cX10_restore 87 = .ok (.getfield 61, 3) := by decide +kernel
theorem dX10_restore_90 : decode cX10_restore 90 = .ok (.iload_n 1, 1) := by decide +kernel
theorem dX10_restore_91 : decode cX10_restore 91 = .ok (.iaload, 1) := by decide +kernel
theorem dX10_restore_92 : decode cX10_restore 92 = .ok (.iastore, 1) := by decide +kernel
theorem dX10_restore_93 : decode cX10_restore 93 = .ok (.iinc 1 1, 3) := by decide +kernel
theorem dX10_restore_96 : decode cX10_restore 96 = .ok (.goto (-21), 3) := by decide +kernel
theorem dX10_restore_99 : decode cX10_restore 99 = .ok (.iconst 0, 1) := by decide +kernel
theorem dX10_restore_100 : decode cX10_restore 100 = .ok (.istore_n 1, 1) := by decide +kernel
theorem dX10_restore_101 : decode cX10_restore 101 = .ok (.iload_n 1, 1) := by decide +kernel
theorem dX10_restore_102 : decode cX10_restore 102 = .ok (.bipush 6, 2) := by decide +kernel
theorem dX10_restore_104 : decode cX10_restore 104 = .ok (.if_icmp .ge 45, 3) := by decide +kernel
theorem dX10_restore_107 : decode cX10_restore 107 = .ok (.aload_n 0, 1) := by decide +kernel
theorem dX10_restore_108 : decode cX10_restore 108 = .ok (.getfield 22, 3) := by decide +kernel
theorem dX10_restore_111 : decode cX10_restore 111 = .ok (.iload_n 1, 1) := by decide +kernel
theorem dX10_restore_112 : decode cX10_restore 112 = .ok (.aload_n 0, 1) := by decide +kernel
theorem dX10_restore_113 : decode cX10_restore 113 = .ok (.getfield 67, 3) := by decide +kernel
theorem dX10_restore_116 : decode cX10_restore 116 = .ok (.iload_n 1, 1) := by decide +kernel
theorem dX10_restore_117 : decode cX10_restore 117 = .ok (.iaload, 1) := by decide +kernel
theorem dX10_restore_118 : decode cX10_restore 118 = .ok (.iastore, 1) := by decide +kernel
theorem dX10_restore_119 : decode cX10_restore 119 = .ok (.aload_n 0, 1) := by decide +kernel
theorem dX10_restore_120 : decode cX10_restore 120 = .ok (.getfield 25, 3) := by decide +kernel
theorem dX10_restore_123 : decode cX10_restore 123 = .ok (.iload_n 1, 1) := by decide +kernel
theorem dX10_restore_124 : decode cX10_restore 124 = .ok (.aload_n 0, 1) := by decide +kernel
theorem dX10_restore_125 : decode cX10_restore 125 = .ok (.getfield 70, 3) := by decide +kernel
theorem dX10_restore_128 : decode cX10_restore 128 = .ok (.iload_n 1, 1) := by decide +kernel
theorem dX10_restore_129 : decode cX10_restore 129 = .ok (.iaload, 1) := by decide +kernel
theorem dX10_restore_130 : decode cX10_restore 130 = .ok (.iastore, 1) := by decide +kernel
theorem dX10_restore_131 : decode cX10_restore 131 = .ok (.aload_n 0, 1) := by decide +kernel
theorem dX10_restore_132 : decode cX10_restore 132 = .ok (.getfield 28, 3) := by decide +kernel
theorem dX10_restore_135 : decode cX10_restore 135 = .ok (.iload_n 1, 1) := by decide +kernel
theorem dX10_restore_136 : decode cX10_restore 136 = .ok (.aload_n 0, 1) := by decide +kernel
theorem dX10_restore_137 : decode cX10_restore 137 = .ok (.getfield 73, 3) := by decide +kernel
theorem dX10_restore_140 : decode cX10_restore 140 = .ok (.iload_n 1, 1) := by decide +kernel
theorem dX10_restore_141 : decode cX10_restore 141 = .ok (.faload, 1) := by decide +kernel
theorem dX10_restore_142 : decode cX10_restore 142 = .ok (.fastore, 1) := by decide +kernel
theorem dX10_restore_143 : decode cX10_restore 143 = .ok (.iinc 1 1, 3) := by decide +kernel
theorem dX10_restore_146 : decode cX10_restore 146 = .ok (.goto (-45), 3) := by decide +kernel
theorem dX10_restore_149 : decode cX10_restore 149 = .ok (.iconst 0, 1) := by decide +kernel
theorem dX10_restore_150 : decode cX10_restore 150 = .ok (.istore_n 1, 1) := by decide +kernel
theorem dX10_restore_151 : decode cX10_restore 151 = .ok (.iload_n 1, 1) := by decide +kernel
theorem dX10_restore_152 : decode cX10_restore 152 = .ok (.bipush 12, 2) := by decide +kernel
theorem dX10_restore_154 : decode cX10_restore 154 = .ok (.if_icmp .ge 21, 3) := by decide +kernel
theorem dX10_restore_157 : decode cX10_restore 157 = .ok (.aload_n 0, 1) := by decide +kernel
theorem dX10_restore_158 : decode cX10_restore 158 = .ok (.getfield 35, 3) := by decide +kernel
theorem dX10_restore_161 : decode cX10_restore 161 = .ok (.iload_n 1, 1) := by decide +kernel
theorem dX10_restore_162 : decode cX10_restore 162 = .ok (.aload_n 0, 1) := by decide +kernel
theorem dX10_restore_163 : decode cX10_restore 163 = .ok (.getfield 76, 3) := by decide +kernel
theorem dX10_restore_166 : decode cX10_restore 166 = .ok (.iload_n 1, 1) := by decide +kernel
theorem dX10_restore_167 : decode cX10_restore 167 = .ok (.iaload, 1) := by decide +kernel
theorem dX10_restore_168 : decode cX10_restore 168 = .ok (.iastore, 1) := by decide +kernel
theorem dX10_restore_169 : decode cX10_restore 169 = .ok (.iinc 1 1, 3) := by decide +kernel
theorem dX10_restore_172 : decode cX10_restore 172 = .ok (.goto (-21), 3) := by decide +kernel
theorem dX10_restore_175 : decode cX10_restore 175 = .ok (.aload_n 0, 1) := by decide +kernel
theorem dX10_restore_176 : decode cX10_restore 176 = .ok (.getfield 119, 3) := by decide +kernel
theorem dX10_restore_179 : decode cX10_restore 179 = .ok (.ireturn, 1) := by decide +kernel
theorem dJ9_rint_294c1_0 : decode cJ9_rint_294c1 0 = .ok (.dload_n 0, 1) := by decide +kernel
theorem dJ9_rint_294c1_1 : decode cJ9_rint_294c1 1 = .ok (.invokestatic 59, 3) := by decide +kernel
theorem dJ9_rint_294c1_4 : decode cJ9_rint_294c1 4 = .ok (.dreturn, 1) := by decide +kernel
theorem dJ9_abs_294c1_0 : decode cJ9_abs_294c1 0 = .ok (.dload_n 0, 1) := by decide +kernel
theorem dJ9_abs_294c1_1 : decode cJ9_abs_294c1 1 = .ok (.invokestatic 79, 3) := by decide +kernel
theorem dJ9_abs_294c1_4 : decode cJ9_abs_294c1 4 = .ok (.ldc2_w 135, 3) := by decide +kernel
theorem dJ9_abs_294c1_7 : decode cJ9_abs_294c1 7 = .ok (.land, 1) := by decide +kernel
theorem dJ9_abs_294c1_8 : decode cJ9_abs_294c1 8 = .ok (.invokestatic 166, 3) := by decide +kernel
theorem dJ9_abs_294c1_11 : decode cJ9_abs_294c1 11 = .ok (.dreturn, 1) := by decide +kernel
theorem dJ9_max_7cf53_0 : decode cJ9_max_7cf53 0 = .ok (.iload_n 0, 1) := by decide +kernel
theorem dJ9_max_7cf53_1 : decode cJ9_max_7cf53 1 = .ok (.iload_n 1, 1) := by decide +kernel
theorem dJ9_max_7cf53_2 : decode cJ9_max_7cf53 2 = .ok (.if_icmp .lt 7, 3) := by decide +kernel
theorem dJ9_max_7cf53_5 : decode cJ9_max_7cf53 5 = .ok (.iload_n 0, 1) := by decide +kernel
theorem dJ9_max_7cf53_6 : decode cJ9_max_7cf53 6 = .ok (.goto 4, 3) := by decide +kernel
theorem dJ9_max_7cf53_9 : decode cJ9_max_7cf53 9 = .ok (.iload_n 1, 1) := by decide +kernel
theorem dJ9_max_7cf53_10 : decode cJ9_max_7cf53 10 = .ok (.ireturn, 1) := by decide +kernel
theorem dJ9_min_7cf53_0 : decode cJ9_min_7cf53 0 = .ok (.iload_n 0, 1) := by decide +kernel
theorem dJ9_min_7cf53_1 : decode cJ9_min_7cf53 1 = .ok (.iload_n 1, 1) := by decide +kernel
theorem dJ9_min_7cf53_2 : decode cJ9_min_7cf53 2 = .ok (.if_icmp .gt 7, 3) := by decide +kernel
theorem dJ9_min_7cf53_5 : decode cJ9_min_7cf53 5 = .ok (.iload_n 0, 1) := by decide +kernel
theorem dJ9_min_7cf53_6 : decode cJ9_min_7cf53 6 = .ok (.goto 4, 3) := by decide +kernel
theorem dJ9_min_7cf53_9 : decode cJ9_min_7cf53 9 = .ok (.iload_n 1, 1) := by decide +kernel
theorem dJ9_min_7cf53_10 : decode cJ9_min_7cf53 10 = .ok (.ireturn, 1) := by decide +kernel
theorem dJ9_copySign_eb370_0 : decode cJ9_copySign_eb370 0 = .ok (.dload_n 2, 1) := by decide +kernel
theorem dJ9_copySign_eb370_1 : decode cJ9_copySign_eb370 1 = .ok (.invokestatic 79, 3) := by decide +kernel
theorem dJ9_copySign_eb370_4 : decode cJ9_copySign_eb370 4 = .ok (.ldc2_w 128, 3) := by decide +kernel
theorem dJ9_copySign_eb370_7 : decode cJ9_copySign_eb370 7 = .ok (.land, 1) := by decide +kernel
theorem dJ9_copySign_eb370_8 : decode cJ9_copySign_eb370 8 = .ok (.dload_n 0, 1) := by decide +kernel
theorem dJ9_copySign_eb370_9 : decode cJ9_copySign_eb370 9 = .ok (.invokestatic 79, 3) := by decide +kernel
theorem dJ9_copySign_eb370_12 : decode cJ9_copySign_eb370 12 = .ok (.ldc2_w 135, 3) := by decide +kernel
theorem dJ9_copySign_eb370_15 : decode cJ9_copySign_eb370 15 = .ok (.land, 1) := by decide +kernel
theorem dJ9_copySign_eb370_16 : decode cJ9_copySign_eb370 16 = .ok (.lor, 1) := by decide +kernel
theorem dJ9_copySign_eb370_17 : decode cJ9_copySign_eb370 17 = .ok (.invokestatic 166, 3) := by decide +kernel
theorem dJ9_copySign_eb370_20 : decode cJ9_copySign_eb370 20 = .ok (.dreturn, 1) := by decide +kernel
theorem dJxfc994_rint_294c1_0 : decode cJxfc994_rint_294c1 0 = .ok (.ldc2_w 93, 3) := by decide +kernel
theorem dJxfc994_rint_294c1_3 : decode cJxfc994_rint_294c1 3 = .ok (.dstore_n 2, 1) := by decide +kernel
theorem dJxfc994_rint_294c1_4 : decode cJxfc994_rint_294c1 4 = .ok (.dconst 1, 1) := by decide +kernel
theorem dJxfc994_rint_294c1_5 : decode cJxfc994_rint_294c1 5 = .ok (.dload_n 0, 1) := by decide +kernel
theorem dJxfc994_rint_294c1_6 : decode cJxfc994_rint_294c1 6 = .ok (.invokestatic 95, 3) := by decide +kernel
theorem dJxfc994_rint_294c1_9 : decode cJxfc994_rint_294c1 9 = .ok (.dstore 4, 2) := by decide +kernel
theorem dJxfc994_rint_294c1_11 : decode cJxfc994_rint_294c1 11 = .ok (.dload_n 0, 1) := by decide +kernel
theorem dJxfc994_rint_294c1_12 : decode cJxfc994_rint_294c1 12 = .ok (.invokestatic 98, 3) := by decide +kernel
theorem dJxfc994_rint_294c1_15 : decode cJxfc994_rint_294c1 15 = .ok (.dstore_n 0, 1) := by decide +kernel
theorem dJxfc994_rint_294c1_16 : decode cJxfc994_rint_294c1 16 = .ok (.dload_n 0, 1) := by decide +kernel
theorem dJxfc994_rint_294c1_17 : decode cJxfc994_rint_294c1 17 = .ok (.dload_n 2, 1) := by decide +kernel
theorem dJxfc994_rint_294c1_18 : decode cJxfc994_rint_294c1 18 = .ok (.dcmp .g, 1) := by decide +kernel
theorem dJxfc994_rint_294c1_19 : decode cJxfc994_rint_294c1 19 = .ok (.ifCond .ge 9, 3) := by decide +kernel
theorem dJxfc994_rint_294c1_22 : decode cJxfc994_rint_294c1 22 = .ok (.dload_n 2, 1) := by decide +kernel
theorem dJxfc994_rint_294c1_23 : decode cJxfc994_rint_294c1 23 = .ok (.dload_n 0, 1) := by decide +kernel
theorem dJxfc994_rint_294c1_24 : decode cJxfc994_rint_294c1 24 = .ok (.dadd, 1) := by decide +kernel
theorem dJxfc994_rint_294c1_25 : decode cJxfc994_rint_294c1 25 = .ok (.dload_n 2, 1) := by decide +kernel
theorem dJxfc994_rint_294c1_26 : decode cJxfc994_rint_294c1 26 = .ok (.dsub, 1) := by decide +kernel
theorem dJxfc994_rint_294c1_27 : decode cJxfc994_rint_294c1 27 = .ok (.dstore_n 0, 1) := by decide +kernel
theorem dJxfc994_rint_294c1_28 : decode cJxfc994_rint_294c1 28 = .ok (.dload 4, 2) := by decide +kernel
theorem dJxfc994_rint_294c1_30 : decode cJxfc994_rint_294c1 30 = .ok (.dload_n 0, 1) := by decide +kernel
theorem dJxfc994_rint_294c1_31 : decode cJxfc994_rint_294c1 31 = .ok (.dmul, 1) := by decide +kernel
theorem dJxfc994_rint_294c1_32 : decode cJxfc994_rint_294c1 32 = .ok (.dreturn, 1) := by decide +kernel
theorem dJ7_fill_53178_0 : decode cJ7_fill_53178 0 = .ok (.iconst 0, 1) := by decide +kernel
theorem dJ7_fill_53178_1 : decode cJ7_fill_53178 1 = .ok (.istore_n 2, 1) := by decide +kernel
theorem dJ7_fill_53178_2 : decode cJ7_fill_53178 2 = .ok (.aload_n 0, 1) := by decide +kernel
theorem dJ7_fill_53178_3 : decode cJ7_fill_53178 3 = .ok (.arraylength, 1) := by decide +kernel
theorem dJ7_fill_53178_4 : decode cJ7_fill_53178 4 = .ok (.istore_n 3, 1) := by decide +kernel
theorem dJ7_fill_53178_5 : decode cJ7_fill_53178 5 = .ok (.iload_n 2, 1) := by decide +kernel
theorem dJ7_fill_53178_6 : decode cJ7_fill_53178 6 = .ok (.iload_n 3, 1) := by decide +kernel
theorem dJ7_fill_53178_7 : decode cJ7_fill_53178 7 = .ok (.if_icmp .ge 13, 3) := by decide +kernel
theorem dJ7_fill_53178_10 : decode cJ7_fill_53178 10 = .ok (.aload_n 0, 1) := by decide +kernel
theorem dJ7_fill_53178_11 : decode cJ7_fill_53178 11 = .ok (.iload_n 2, 1) := by decide +kernel
theorem dJ7_fill_53178_12 : decode cJ7_fill_53178 12 = .ok (.iload_n 1, 1) := by decide +kernel
theorem dJ7_fill_53178_13 : decode cJ7_fill_53178 13 = .ok (.iastore, 1) := by decide +kernel
theorem dJ7_fill_53178_14 : decode cJ7_fill_53178 14 = .ok (.iinc 2 1, 3) := by decide +kernel
theorem dJ7_fill_53178_17 : decode cJ7_fill_53178 17 = .ok (.goto (-12), 3) := by decide +kernel
theorem dJ7_fill_53178_20 : decode cJ7_fill_53178 20 = .ok (.return_, 1) := by decide +kernel
theorem dL_law_0 : decode cL_law 0 = .ok (.new 7, 3) := by decide +kernel
theorem dL_law_3 : decode cL_law 3 = .ok (.dup, 1) := by decide +kernel
theorem dL_law_4 : decode cL_law 4 = .ok (.invokespecial 9, 3) := by decide +kernel
theorem dL_law_7 : decode cL_law 7 = .ok (.astore_n 1, 1) := by decide +kernel
theorem dL_law_8 : decode cL_law 8 = .ok (.new 10, 3) := by decide +kernel
theorem dL_law_11 : decode cL_law 11 = .ok (.dup, 1) := by decide +kernel
theorem dL_law_12 : decode cL_law 12 = .ok (.invokespecial 12, 3) := by decide +kernel
theorem dL_law_15 : decode cL_law 15 = .ok (.astore_n 2, 1) := by decide +kernel
theorem dL_law_16 : decode cL_law 16 = .ok (.iconst 0, 1) := by decide +kernel
theorem dL_law_17 : decode cL_law 17 = .ok (.istore_n 3, 1) := by decide +kernel
theorem dL_law_18 : decode cL_law 18 = .ok (.iload_n 3, 1) := by decide +kernel
theorem dL_law_19 : decode cL_law 19 = .ok (.aload_n 0, 1) := by decide +kernel
theorem dL_law_20 : decode cL_law 20 = .ok (.arraylength, 1) := by decide +kernel
theorem dL_law_21 : decode cL_law 21 = .ok (.bipush 6, 2) := by decide +kernel
theorem dL_law_23 : decode cL_law 23 = .ok (.isub, 1) := by decide +kernel
theorem dL_law_24 : decode cL_law 24 = .ok (.if_icmp .gt 1355, 3) := by decide +kernel
theorem dL_law_27 : decode cL_law 27 = .ok (.aload_n 0, 1) := by decide +kernel
theorem dL_law_28 : decode cL_law 28 = .ok (.iload_n 3, 1) := by decide +kernel
theorem dL_law_29 : decode cL_law 29 = .ok (.iaload, 1) := by decide +kernel
theorem dL_law_30 : decode cL_law 30 = .ok (.bipush 63, 2) := by decide +kernel
theorem dL_law_32 : decode cL_law 32 = .ok (.iand, 1) := by decide +kernel
theorem dL_law_33 : decode cL_law 33 = .ok (.tableswitch 1340 0 45 #[199, 222, 235, 268, 281, 294, 317, 330, 373, 406, 439, 462, 495, 518, 541, 554, 577, 590, 603, 626, 639, 652, 665, 688, 701, 714, 737, 750, 783, 806, 819, 842, 875, 898, 941, 965, 989, 1012, 1055, 1078, 1151, 1194, 1228, 1291, 1314, 1327], 199) := by decide +kernel
theorem dL_law_232 : decode cL_law 232 = .ok (.aload_n 1, 1) := by decide +kernel
theorem dL_law_233 : decode cL_law 233 = .ok (.aload_n 0, 1) := by decide +kernel
theorem dL_law_234 : decode cL_law 234 = .ok (.iload_n 3, 1) := by decide +kernel
theorem dL_law_235 : decode cL_law 235 = .ok (.iconst 1, 1) := by decide +kernel
theorem dL_law_236 : decode cL_law 236 = .ok (.iadd, 1) := by decide +kernel
theorem dL_law_237 : decode cL_law 237 = .ok (.iaload, 1) := by decide +kernel
theorem dL_law_238 : decode cL_law 238 = .ok (.invokevirtual 13, 3) := by decide +kernel
theorem dL_law_241 : decode cL_law 241 = .ok (.aload_n 2, 1) := by decide +kernel
theorem dL_law_242 : decode cL_law 242 = .ok (.aload_n 0, 1) := by decide +kernel
theorem dL_law_243 : decode cL_law 243 = .ok (.iload_n 3, 1) := by decide +kernel
theorem dL_law_244 : decode cL_law 244 = .ok (.iconst 1, 1) := by decide +kernel
theorem dL_law_245 : decode cL_law 245 = .ok (.iadd, 1) := by decide +kernel
theorem dL_law_246 : decode cL_law 246 = .ok (.iaload, 1) := by decide +kernel
theorem dL_law_247 : decode cL_law 247 = .ok (.invokevirtual 17, 3) := by decide +kernel
theorem dL_law_250 : decode cL_law 250 = .ok (.if_icmp .eq 1123, 3) := by decide +kernel
theorem dL_law_253 : decode cL_law 253 = .ok (.iconst 0, 1) := by decide +kernel
theorem dL_law_254 : decode cL_law 254 = .ok (.ireturn, 1) := by decide +kernel
theorem dL_law_255 : decode cL_law 255 = .ok (.aload_n 1, 1) := by decide +kernel
theorem dL_law_256 : decode cL_law 256 = .ok (.invokevirtual 18, 3) := by decide +kernel
theorem dL_law_259 : decode cL_law 259 = .ok (.aload_n 2, 1) := by decide +kernel
theorem dL_law_260 : decode cL_law 260 = .ok (.invokevirtual 22, 3) := by decide +kernel
theorem dL_law_263 : decode cL_law 263 = .ok (.if_icmp .eq 1110, 3) := by decide +kernel
theorem dL_law_266 : decode cL_law 266 = .ok (.iconst 0, 1) := by decide +kernel
theorem dL_law_267 : decode cL_law 267 = .ok (.ireturn, 1) := by decide +kernel
theorem dL_law_268 : decode cL_law 268 = .ok (.aload_n 1, 1) := by decide +kernel
theorem dL_law_269 : decode cL_law 269 = .ok (.aload_n 0, 1) := by decide +kernel
theorem dL_law_270 : decode cL_law 270 = .ok (.iload_n 3, 1) := by decide +kernel
theorem dL_law_271 : decode cL_law 271 = .ok (.iconst 1, 1) := by decide +kernel
theorem dL_law_272 : decode cL_law 272 = .ok (.iadd, 1) := by decide +kernel
theorem dL_law_273 : decode cL_law 273 = .ok (.iaload, 1) := by decide +kernel
theorem dL_law_274 : decode cL_law 274 = .ok (.aload_n 0, 1) := by decide +kernel
theorem dL_law_275 : decode cL_law 275 = .ok (.iload_n 3, 1) := by decide +kernel
theorem dL_law_276 : decode cL_law 276 = .ok (.iconst 2, 1) := by decide +kernel
theorem dL_law_277 : decode cL_law 277 = .ok (.iadd, 1) := by decide +kernel
theorem dL_law_278 : decode cL_law 278 = .ok (.iaload, 1) := by decide +kernel
theorem dL_law_279 : decode cL_law 279 = .ok (.invokevirtual 23, 3) := by decide +kernel
theorem dL_law_282 : decode cL_law 282 = .ok (.aload_n 2, 1) := by decide +kernel
theorem dL_law_283 : decode cL_law 283 = .ok (.aload_n 0, 1) := by decide +kernel
theorem dL_law_284 : decode cL_law 284 = .ok (.iload_n 3, 1) := by decide +kernel
theorem dL_law_285 : decode cL_law 285 = .ok (.iconst 1, 1) := by decide +kernel
theorem dL_law_286 : decode cL_law 286 = .ok (.iadd, 1) := by decide +kernel
theorem dL_law_287 : decode cL_law 287 = .ok (.iaload, 1) := by decide +kernel
theorem dL_law_288 : decode cL_law 288 = .ok (.aload_n 0, 1) := by decide +kernel
theorem dL_law_289 : decode cL_law 289 = .ok (.iload_n 3, 1) := by decide +kernel
theorem dL_law_290 : decode cL_law 290 = .ok (.iconst 2, 1) := by decide +kernel
theorem dL_law_291 : decode cL_law 291 = .ok (.iadd, 1) := by decide +kernel
theorem dL_law_292 : decode cL_law 292 = .ok (.iaload, 1) := by decide +kernel
theorem dL_law_293 : decode cL_law 293 = .ok (.invokevirtual 27, 3) := by decide +kernel
theorem dL_law_296 : decode cL_law 296 = .ok (.if_icmp .eq 1077, 3) := by decide +kernel
theorem dL_law_299 : decode cL_law 299 = .ok (.iconst 0, 1) := by decide +kernel
theorem dL_law_300 : decode cL_law 300 = .ok (.ireturn, 1) := by decide +kernel
theorem dL_law_301 : decode cL_law 301 = .ok (.aload_n 1, 1) := by decide +kernel
theorem dL_law_302 : decode cL_law 302 = .ok (.invokevirtual 28, 3) := by decide +kernel
theorem dL_law_305 : decode cL_law 305 = .ok (.aload_n 2, 1) := by decide +kernel
theorem dL_law_306 : decode cL_law 306 = .ok (.invokevirtual 31, 3) := by decide +kernel
theorem dL_law_309 : decode cL_law 309 = .ok (.if_icmp .eq 1064, 3) := by decide +kernel
theorem dL_law_312 : decode cL_law 312 = .ok (.iconst 0, 1) := by decide +kernel
theorem dL_law_313 : decode cL_law 313 = .ok (.ireturn, 1) := by decide +kernel
theorem dL_law_314 : decode cL_law 314 = .ok (.aload_n 1, 1) := by decide +kernel
theorem dL_law_315 : decode cL_law 315 = .ok (.invokevirtual 32, 3) := by decide +kernel
theorem dL_law_318 : decode cL_law 318 = .ok (.aload_n 2, 1) := by decide +kernel
theorem dL_law_319 : decode cL_law 319 = .ok (.invokevirtual 35, 3) := by decide +kernel
theorem dL_law_322 : decode cL_law 322 = .ok (.if_icmp .eq 1051, 3) := by decide +kernel
theorem dL_law_325 : decode cL_law 325 = .ok (.iconst 0, 1) := by decide +kernel
theorem dL_law_326 : decode cL_law 326 = .ok (.ireturn, 1) := by decide +kernel
theorem dL_law_327 : decode cL_law 327 = .ok (.aload_n 1, 1) := by decide +kernel
theorem dL_law_328 : decode cL_law 328 = .ok (.aload_n 0, 1) := by decide +kernel
theorem dL_law_329 : decode cL_law 329 = .ok (.iload_n 3, 1) := by decide +kernel
theorem dL_law_330 : decode cL_law 330 = .ok (.iconst 1, 1) := by decide +kernel
theorem dL_law_331 : decode cL_law 331 = .ok (.iadd, 1) := by decide +kernel
theorem dL_law_332 : decode cL_law 332 = .ok (.iaload, 1) := by decide +kernel
theorem dL_law_333 : decode cL_law 333 = .ok (.invokevirtual 36, 3) := by decide +kernel
theorem dL_law_336 : decode cL_law 336 = .ok (.aload_n 2, 1) := by decide +kernel
theorem dL_law_337 : decode cL_law 337 = .ok (.aload_n 0, 1) := by decide +kernel
theorem dL_law_338 : decode cL_law 338 = .ok (.iload_n 3, 1) := by decide +kernel
theorem dL_law_339 : decode cL_law 339 = .ok (.iconst 1, 1) := by decide +kernel
theorem dL_law_340 : decode cL_law 340 = .ok (.iadd, 1) := by decide +kernel
theorem dL_law_341 : decode cL_law 341 = .ok (.iaload, 1) := by decide +kernel
theorem dL_law_342 : decode cL_law 342 = .ok (.invokevirtual 39, 3) := by decide +kernel
theorem dL_law_345 : decode cL_law 345 = .ok (.if_icmp .eq 1028, 3) := by decide +kernel
theorem dL_law_348 : decode cL_law 348 = .ok (.iconst 0, 1) := by decide +kernel
theorem dL_law_349 : decode cL_law 349 = .ok (.ireturn, 1) := by decide +kernel
theorem dL_law_350 : decode cL_law 350 = .ok (.aload_n 1, 1) := by decide +kernel
theorem dL_law_351 : decode cL_law 351 = .ok (.invokevirtual 40, 3) := by decide +kernel
theorem dL_law_354 : decode cL_law 354 = .ok (.aload_n 2, 1) := by decide +kernel
theorem dL_law_355 : decode cL_law 355 = .ok (.invokevirtual 43, 3) := by decide +kernel
theorem dL_law_358 : decode cL_law 358 = .ok (.if_icmp .eq 1015, 3) := by decide +kernel
theorem dL_law_361 : decode cL_law 361 = .ok (.iconst 0, 1) := by decide +kernel
theorem dL_law_362 : decode cL_law 362 = .ok (.ireturn, 1) := by decide +kernel
theorem dL_law_363 : decode cL_law 363 = .ok (.aload_n 1, 1) := by decide +kernel
theorem dL_law_364 : decode cL_law 364 = .ok (.aload_n 0, 1) := by decide +kernel
theorem dL_law_365 : decode cL_law 365 = .ok (.iload_n 3, 1) := by decide +kernel
theorem dL_law_366 : decode cL_law 366 = .ok (.iconst 1, 1) := by decide +kernel
theorem dL_law_367 : decode cL_law 367 = .ok (.iadd, 1) := by decide +kernel
theorem dL_law_368 : decode cL_law 368 = .ok (.iaload, 1) := by decide +kernel
theorem dL_law_369 : decode cL_law 369 = .ok (.aload_n 0, 1) := by decide +kernel
theorem dL_law_370 : decode cL_law 370 = .ok (.iload_n 3, 1) := by decide +kernel
theorem dL_law_371 : decode cL_law 371 = .ok (.iconst 2, 1) := by decide +kernel
theorem dL_law_372 : decode cL_law 372 = .ok (.iadd, 1) := by decide +kernel
theorem dL_law_373 : decode cL_law 373 = .ok (.iaload, 1) := by decide +kernel
theorem dL_law_374 : decode cL_law 374 = .ok (.aload_n 0, 1) := by decide +kernel
theorem dL_law_375 : decode cL_law 375 = .ok (.iload_n 3, 1) := by decide +kernel
theorem dL_law_376 : decode cL_law 376 = .ok (.iconst 3, 1) := by decide +kernel
theorem dL_law_377 : decode cL_law 377 = .ok (.iadd, 1) := by decide +kernel
theorem dL_law_378 : decode cL_law 378 = .ok (.iaload, 1) := by decide +kernel
theorem dL_law_379 : decode cL_law 379 = .ok (.invokevirtual 44, 3) := by decide +kernel
theorem dL_law_382 : decode cL_law 382 = .ok (.aload_n 2, 1) := by decide +kernel
theorem dL_law_383 : decode cL_law 383 = .ok (.aload_n 0, 1) := by decide +kernel
theorem dL_law_384 : decode cL_law 384 = .ok (.iload_n 3, 1) := by decide +kernel
theorem dL_law_385 : decode cL_law 385 = .ok (.iconst 1, 1) := by decide +kernel
theorem dL_law_386 : decode cL_law 386 = .ok (.iadd, 1) := by decide +kernel
theorem dL_law_387 : decode cL_law 387 = .ok (.iaload, 1) := by decide +kernel
theorem dL_law_388 : decode cL_law 388 = .ok (.aload_n 0, 1) := by decide +kernel
theorem dL_law_389 : decode cL_law 389 = .ok (.iload_n 3, 1) := by decide +kernel
theorem dL_law_390 : decode cL_law 390 = .ok (.iconst 2, 1) := by decide +kernel
theorem dL_law_391 : decode cL_law 391 = .ok (.iadd, 1) := by decide +kernel
theorem dL_law_392 : decode cL_law 392 = .ok (.iaload, 1) := by decide +kernel
theorem dL_law_393 : decode cL_law 393 = .ok (.aload_n 0, 1) := by decide +kernel
theorem dL_law_394 : decode cL_law 394 = .ok (.iload_n 3, 1) := by decide +kernel
theorem dL_law_395 : decode cL_law 395 = .ok (.iconst 3, 1) := by decide +kernel
theorem dL_law_396 : decode cL_law 396 = .ok (.iadd, 1) := by decide +kernel
theorem dL_law_397 : decode cL_law 397 = .ok (.iaload, 1) := by decide +kernel
theorem dL_law_398 : decode cL_law 398 = .ok (.invokevirtual 48, 3) := by decide +kernel
theorem dL_law_401 : decode cL_law 401 = .ok (.if_icmp .eq 972, 3) := by decide +kernel
theorem dL_law_404 : decode cL_law 404 = .ok (.iconst 0, 1) := by decide +kernel
theorem dL_law_405 : decode cL_law 405 = .ok (.ireturn, 1) := by decide +kernel
theorem dL_law_406 : decode cL_law 406 = .ok (.aload_n 1, 1) := by decide +kernel
theorem dL_law_407 : decode cL_law 407 = .ok (.aload_n 0, 1) := by decide +kernel
theorem dL_law_408 : decode cL_law 408 = .ok (.iload_n 3, 1) := by decide +kernel
theorem dL_law_409 : decode cL_law 409 = .ok (.iconst 1, 1) := by decide +kernel
theorem dL_law_410 : decode cL_law 410 = .ok (.iadd, 1) := by decide +kernel
theorem dL_law_411 : decode cL_law 411 = .ok (.iaload, 1) := by decide +kernel
theorem dL_law_412 : decode cL_law 412 = .ok (.aload_n 0, 1) := by decide +kernel
theorem dL_law_413 : decode cL_law 413 = .ok (.iload_n 3, 1) := by decide +kernel
theorem dL_law_414 : decode cL_law 414 = .ok (.iconst 2, 1) := by decide +kernel
theorem dL_law_415 : decode cL_law 415 = .ok (.iadd, 1) := by decide +kernel
theorem dL_law_416 : decode cL_law 416 = .ok (.iaload, 1) := by decide +kernel
theorem dL_law_417 : decode cL_law 417 = .ok (.invokevirtual 49, 3) := by decide +kernel
theorem dL_law_420 : decode cL_law 420 = .ok (.aload_n 2, 1) := by decide +kernel
theorem dL_law_421 : decode cL_law 421 = .ok (.aload_n 0, 1) := by decide +kernel
theorem dL_law_422 : decode cL_law 422 = .ok (.iload_n 3, 1) := by decide +kernel
theorem dL_law_423 : decode cL_law 423 = .ok (.iconst 1, 1) := by decide +kernel
theorem dL_law_424 : decode cL_law 424 = .ok (.iadd, 1) := by decide +kernel
theorem dL_law_425 : decode cL_law 425 = .ok (.iaload, 1) := by decide +kernel
theorem dL_law_426 : decode cL_law 426 = .ok (.aload_n 0, 1) := by decide +kernel
theorem dL_law_427 : decode cL_law 427 = .ok (.iload_n 3, 1) := by decide +kernel
theorem dL_law_428 : decode cL_law 428 = .ok (.iconst 2, 1) := by decide +kernel
theorem dL_law_429 : decode cL_law 429 = .ok (.iadd, 1) := by decide +kernel
theorem dL_law_430 : decode cL_law 430 = .ok (.iaload, 1) := by decide +kernel
theorem dL_law_431 : decode cL_law 431 = .ok (.invokevirtual 52, 3) := by decide +kernel
theorem dL_law_434 : decode cL_law 434 = .ok (.if_icmp .eq 939, 3) := by decide +kernel
theorem dL_law_437 : decode cL_law 437 = .ok (.iconst 0, 1) := by decide +kernel
theorem dL_law_438 : decode cL_law 438 = .ok (.ireturn, 1) := by decide +kernel
theorem dL_law_439 : decode cL_law 439 = .ok (.aload_n 1, 1) := by decide +kernel
theorem dL_law_440 : decode cL_law 440 = .ok (.aload_n 0, 1) := by decide +kernel
theorem dL_law_441 : decode cL_law 441 = .ok (.iload_n 3, 1) := by decide +kernel
theorem dL_law_442 : decode cL_law 442 = .ok (.iconst 1, 1) := by decide +kernel
theorem dL_law_443 : decode cL_law 443 = .ok (.iadd, 1) := by decide +kernel
theorem dL_law_444 : decode cL_law 444 = .ok (.iaload, 1) := by decide +kernel
theorem dL_law_445 : decode cL_law 445 = .ok (.aload_n 0, 1) := by decide +kernel
theorem dL_law_446 : decode cL_law 446 = .ok (.iload_n 3, 1) := by decide +kernel
theorem dL_law_447 : decode cL_law 447 = .ok (.iconst 2, 1) := by decide +kernel
theorem dL_law_448 : decode cL_law 448 = .ok (.iadd, 1) := by decide +kernel
theorem dL_law_449 : decode cL_law 449 = .ok (.iaload, 1) := by decide +kernel
theorem dL_law_450 : decode cL_law 450 = .ok (.invokevirtual 53, 3) := by decide +kernel
theorem dL_law_453 : decode cL_law 453 = .ok (.aload_n 2, 1) := by decide +kernel
theorem dL_law_454 : decode cL_law 454 = .ok (.aload_n 0, 1) := by decide +kernel
theorem dL_law_455 : decode cL_law 455 = .ok (.iload_n 3, 1) := by decide +kernel
theorem dL_law_456 : decode cL_law 456 = .ok (.iconst 1, 1) := by decide +kernel
theorem dL_law_457 : decode cL_law 457 = .ok (.iadd, 1) := by decide +kernel
theorem dL_law_458 : decode cL_law 458 = .ok (.iaload, 1) := by decide +kernel
theorem dL_law_459 : decode cL_law 459 = .ok (.aload_n 0, 1) := by decide +kernel
theorem dL_law_460 : decode cL_law 460 = .ok (.iload_n 3, 1) := by decide +kernel
theorem dL_law_461 : decode cL_law 461 = .ok (.iconst 2, 1) := by decide +kernel
theorem dL_law_462 : decode cL_law 462 = .ok (.iadd, 1) := by decide +kernel
theorem dL_law_463 : decode cL_law 463 = .ok (.iaload, 1) := by decide +kernel
theorem dL_law_464 : decode cL_law 464 = .ok (.invokevirtual 56, 3) := by decide +kernel
theorem dL_law_467 : decode cL_law 467 = .ok (.if_icmp .eq 906, 3) := by decide +kernel
theorem dL_law_470 : decode cL_law 470 = .ok (.iconst 0, 1) := by decide +kernel
theorem dL_law_471 : decode cL_law 471 = .ok (.ireturn, 1) := by decide +kernel
theorem dL_law_472 : decode cL_law 472 = .ok (.aload_n 1, 1) := by decide +kernel
theorem dL_law_473 : decode cL_law 473 = .ok (.aload_n 0, 1) := by decide +kernel
theorem dL_law_474 : decode cL_law 474 = .ok (.iload_n 3, 1) := by decide +kernel
theorem dL_law_475 : decode cL_law 475 = .ok (.iconst 1, 1) := by decide +kernel
theorem dL_law_476 : decode cL_law 476 = .ok (.iadd, 1) := by decide +kernel
theorem dL_law_477 : decode cL_law 477 = .ok (.iaload, 1) := by decide +kernel
theorem dL_law_478 : decode cL_law 478 = .ok (.invokevirtual 57, 3) := by decide +kernel
theorem dL_law_481 : decode cL_law 481 = .ok (.aload_n 2, 1) := by decide +kernel
theorem dL_law_482 : decode cL_law 482 = .ok (.aload_n 0, 1) := by decide +kernel
theorem dL_law_483 : decode cL_law 483 = .ok (.iload_n 3, 1) := by decide +kernel
theorem dL_law_484 : decode cL_law 484 = .ok (.iconst 1, 1) := by decide +kernel
theorem dL_law_485 : decode cL_law 485 = .ok (.iadd, 1) := by decide +kernel
theorem dL_law_486 : decode cL_law 486 = .ok (.iaload, 1) := by decide +kernel
theorem dL_law_487 : decode cL_law 487 = .ok (.invokevirtual 60, 3) := by decide +kernel
theorem dL_law_490 : decode cL_law 490 = .ok (.if_icmp .eq 883, 3) := by decide +kernel
theorem dL_law_493 : decode cL_law 493 = .ok (.iconst 0, 1) := by decide +kernel
theorem dL_law_494 : decode cL_law 494 = .ok (.ireturn, 1) := by decide +kernel
theorem dL_law_495 : decode cL_law 495 = .ok (.aload_n 1, 1) := by decide +kernel
theorem dL_law_496 : decode cL_law 496 = .ok (.aload_n 0, 1) := by decide +kernel
theorem dL_law_497 : decode cL_law 497 = .ok (.iload_n 3, 1) := by decide +kernel
theorem dL_law_498 : decode cL_law 498 = .ok (.iconst 1, 1) := by decide +kernel
theorem dL_law_499 : decode cL_law 499 = .ok (.iadd, 1) := by decide +kernel
theorem dL_law_500 : decode cL_law 500 = .ok (.iaload, 1) := by decide +kernel
theorem dL_law_501 : decode cL_law 501 = .ok (.aload_n 0, 1) := by decide +kernel
theorem dL_law_502 : decode cL_law 502 = .ok (.iload_n 3, 1) := by decide +kernel
theorem dL_law_503 : decode cL_law 503 = .ok (.iconst 2, 1) := by decide +kernel
theorem dL_law_504 : decode cL_law 504 = .ok (.iadd, 1) := by decide +kernel
theorem dL_law_505 : decode cL_law 505 = .ok (.iaload, 1) := by decide +kernel
theorem dL_law_506 : decode cL_law 506 = .ok (.invokevirtual 61, 3) := by decide +kernel
theorem dL_law_509 : decode cL_law 509 = .ok (.aload_n 2, 1) := by decide +kernel
theorem dL_law_510 : decode cL_law 510 = .ok (.aload_n 0, 1) := by decide +kernel
theorem dL_law_511 : decode cL_law 511 = .ok (.iload_n 3, 1) := by decide +kernel
theorem dL_law_512 : decode cL_law 512 = .ok (.iconst 1, 1) := by decide +kernel
theorem dL_law_513 : decode cL_law 513 = .ok (.iadd, 1) := by decide +kernel
theorem dL_law_514 : decode cL_law 514 = .ok (.iaload, 1) := by decide +kernel
theorem dL_law_515 : decode cL_law 515 = .ok (.aload_n 0, 1) := by decide +kernel
theorem dL_law_516 : decode cL_law 516 = .ok (.iload_n 3, 1) := by decide +kernel
theorem dL_law_517 : decode cL_law 517 = .ok (.iconst 2, 1) := by decide +kernel
theorem dL_law_518 : decode cL_law 518 = .ok (.iadd, 1) := by decide +kernel
theorem dL_law_519 : decode cL_law 519 = .ok (.iaload, 1) := by decide +kernel
theorem dL_law_520 : decode cL_law 520 = .ok (.invokevirtual 64, 3) := by decide +kernel
theorem dL_law_523 : decode cL_law 523 = .ok (.if_icmp .eq 850, 3) := by decide +kernel
theorem dL_law_526 : decode cL_law 526 = .ok (.iconst 0, 1) := by decide +kernel
theorem dL_law_527 : decode cL_law 527 = .ok (.ireturn, 1) := by decide +kernel
theorem dL_law_528 : decode cL_law 528 = .ok (.aload_n 1, 1) := by decide +kernel
theorem dL_law_529 : decode cL_law 529 = .ok (.aload_n 0, 1) := by decide +kernel
theorem dL_law_530 : decode cL_law 530 = .ok (.iload_n 3, 1) := by decide +kernel
theorem dL_law_531 : decode cL_law 531 = .ok (.iconst 1, 1) := by decide +kernel
theorem dL_law_532 : decode cL_law 532 = .ok (.iadd, 1) := by decide +kernel
theorem dL_law_533 : decode cL_law 533 = .ok (.iaload, 1) := by decide +kernel
theorem dL_law_534 : decode cL_law 534 = .ok (.invokevirtual 65, 3) := by decide +kernel
theorem dL_law_537 : decode cL_law 537 = .ok (.aload_n 2, 1) := by decide +kernel
theorem dL_law_538 : decode cL_law 538 = .ok (.aload_n 0, 1) := by decide +kernel
theorem dL_law_539 : decode cL_law 539 = .ok (.iload_n 3, 1) := by decide +kernel
theorem dL_law_540 : decode cL_law 540 = .ok (.iconst 1, 1) := by decide +kernel
theorem dL_law_541 : decode cL_law 541 = .ok (.iadd, 1) := by decide +kernel
theorem dL_law_542 : decode cL_law 542 = .ok (.iaload, 1) := by decide +kernel
theorem dL_law_543 : decode cL_law 543 = .ok (.invokevirtual 68, 3) := by decide +kernel
theorem dL_law_546 : decode cL_law 546 = .ok (.if_icmp .eq 827, 3) := by decide +kernel
theorem dL_law_549 : decode cL_law 549 = .ok (.iconst 0, 1) := by decide +kernel
theorem dL_law_550 : decode cL_law 550 = .ok (.ireturn, 1) := by decide +kernel
theorem dL_law_551 : decode cL_law 551 = .ok (.aload_n 1, 1) := by decide +kernel
theorem dL_law_552 : decode cL_law 552 = .ok (.aload_n 0, 1) := by decide +kernel
theorem dL_law_553 : decode cL_law 553 = .ok (.iload_n 3, 1) := by decide +kernel
theorem dL_law_554 : decode cL_law 554 = .ok (.iconst 1, 1) := by decide +kernel
theorem dL_law_555 : decode cL_law 555 = .ok (.iadd, 1) := by decide +kernel
theorem dL_law_556 : decode cL_law 556 = .ok (.iaload, 1) := by decide +kernel
theorem dL_law_557 : decode cL_law 557 = .ok (.invokevirtual 69, 3) := by decide +kernel
theorem dL_law_560 : decode cL_law 560 = .ok (.aload_n 2, 1) := by decide +kernel
theorem dL_law_561 : decode cL_law 561 = .ok (.aload_n 0, 1) := by decide +kernel
theorem dL_law_562 : decode cL_law 562 = .ok (.iload_n 3, 1) := by decide +kernel
theorem dL_law_563 : decode cL_law 563 = .ok (.iconst 1, 1) := by decide +kernel
theorem dL_law_564 : decode cL_law 564 = .ok (.iadd, 1) := by decide +kernel
theorem dL_law_565 : decode cL_law 565 = .ok (.iaload, 1) := by decide +kernel
theorem dL_law_566 : decode cL_law 566 = .ok (.invokevirtual 72, 3) := by decide +kernel
theorem dL_law_569 : decode cL_law 569 = .ok (.if_icmp .eq 804, 3) := by decide +kernel
theorem dL_law_572 : decode cL_law 572 = .ok (.iconst 0, 1) := by decide +kernel
theorem dL_law_573 : decode cL_law 573 = .ok (.ireturn, 1) := by decide +kernel
theorem dL_law_574 : decode cL_law 574 = .ok (.aload_n 1, 1) := by decide +kernel
theorem dL_law_575 : decode cL_law 575 = .ok (.invokevirtual 73, 3) := by decide +kernel
theorem dL_law_578 : decode cL_law 578 = .ok (.aload_n 2, 1) := by decide +kernel
theorem dL_law_579 : decode cL_law 579 = .ok (.invokevirtual 76, 3) := by decide +kernel
theorem dL_law_582 : decode cL_law 582 = .ok (.if_icmp .eq 791, 3) := by decide +kernel
theorem dL_law_585 : decode cL_law 585 = .ok (.iconst 0, 1) := by decide +kernel
theorem dL_law_586 : decode cL_law 586 = .ok (.ireturn, 1) := by decide +kernel
theorem dL_law_587 : decode cL_law 587 = .ok (.aload_n 1, 1) := by decide +kernel
theorem dL_law_588 : decode cL_law 588 = .ok (.aload_n 0, 1) := by decide +kernel
theorem dL_law_589 : decode cL_law 589 = .ok (.iload_n 3, 1) := by decide +kernel
theorem dL_law_590 : decode cL_law 590 = .ok (.iconst 1, 1) := by decide +kernel
theorem dL_law_591 : decode cL_law 591 = .ok (.iadd, 1) := by decide +kernel
theorem dL_law_592 : decode cL_law 592 = .ok (.iaload, 1) := by decide +kernel
theorem dL_law_593 : decode cL_law 593 = .ok (.invokevirtual 77, 3) := by decide +kernel
theorem dL_law_596 : decode cL_law 596 = .ok (.aload_n 2, 1) := by decide +kernel
theorem dL_law_597 : decode cL_law 597 = .ok (.aload_n 0, 1) := by decide +kernel
theorem dL_law_598 : decode cL_law 598 = .ok (.iload_n 3, 1) := by decide +kernel
theorem dL_law_599 : decode cL_law 599 = .ok (.iconst 1, 1) := by decide +kernel
theorem dL_law_600 : decode cL_law 600 = .ok (.iadd, 1) := by decide +kernel
theorem dL_law_601 : decode cL_law 601 = .ok (.iaload, 1) := by decide +kernel
theorem dL_law_602 : decode cL_law 602 = .ok (.invokevirtual 80, 3) := by decide +kernel
theorem dL_law_605 : decode cL_law 605 = .ok (.if_icmp .eq 768, 3) := by decide +kernel
theorem dL_law_608 : decode cL_law 608 = .ok (.iconst 0, 1) := by decide +kernel
theorem dL_law_609 : decode cL_law 609 = .ok (.ireturn, 1) := by decide +kernel
theorem dL_law_610 : decode cL_law 610 = .ok (.aload_n 1, 1) := by decide +kernel
theorem dL_law_611 : decode cL_law 611 = .ok (.invokevirtual 81, 3) := by decide +kernel
theorem dL_law_614 : decode cL_law 614 = .ok (.aload_n 2, 1) := by decide +kernel
theorem dL_law_615 : decode cL_law 615 = .ok (.invokevirtual 84, 3) := by decide +kernel
theorem dL_law_618 : decode cL_law 618 = .ok (.if_icmp .eq 755, 3) := by decide +kernel
theorem dL_law_621 : decode cL_law 621 = .ok (.iconst 0, 1) := by decide +kernel
theorem dL_law_622 : decode cL_law 622 = .ok (.ireturn, 1) := by decide +kernel
theorem dL_law_623 : decode cL_law 623 = .ok (.aload_n 1, 1) := by decide +kernel
theorem dL_law_624 : decode cL_law 624 = .ok (.invokevirtual 85, 3) := by decide +kernel
theorem dL_law_627 : decode cL_law 627 = .ok (.aload_n 2, 1) := by decide +kernel
theorem dL_law_628 : decode cL_law 628 = .ok (.invokevirtual 88, 3) := by decide +kernel
theorem dL_law_631 : decode cL_law 631 = .ok (.if_icmp .eq 742, 3) := by decide +kernel
theorem dL_law_634 : decode cL_law 634 = .ok (.iconst 0, 1) := by decide +kernel
theorem dL_law_635 : decode cL_law 635 = .ok (.ireturn, 1) := by decide +kernel
theorem dL_law_636 : decode cL_law 636 = .ok (.aload_n 1, 1) := by decide +kernel
theorem dL_law_637 : decode cL_law 637 = .ok (.aload_n 0, 1) := by decide +kernel
theorem dL_law_638 : decode cL_law 638 = .ok (.iload_n 3, 1) := by decide +kernel
theorem dL_law_639 : decode cL_law 639 = .ok (.iconst 1, 1) := by decide +kernel
theorem dL_law_640 : decode cL_law 640 = .ok (.iadd, 1) := by decide +kernel
theorem dL_law_641 : decode cL_law 641 = .ok (.iaload, 1) := by decide +kernel
theorem dL_law_642 : decode cL_law 642 = .ok (.invokevirtual 89, 3) := by decide +kernel
theorem dL_law_645 : decode cL_law 645 = .ok (.aload_n 2, 1) := by decide +kernel
theorem dL_law_646 : decode cL_law 646 = .ok (.aload_n 0, 1) := by decide +kernel
theorem dL_law_647 : decode cL_law 647 = .ok (.iload_n 3, 1) := by decide +kernel
theorem dL_law_648 : decode cL_law 648 = .ok (.iconst 1, 1) := by decide +kernel
theorem dL_law_649 : decode cL_law 649 = .ok (.iadd, 1) := by decide +kernel
theorem dL_law_650 : decode cL_law 650 = .ok (.iaload, 1) := by decide +kernel
theorem dL_law_651 : decode cL_law 651 = .ok (.invokevirtual 92, 3) := by decide +kernel
theorem dL_law_654 : decode cL_law 654 = .ok (.if_icmp .eq 719, 3) := by decide +kernel
theorem dL_law_657 : decode cL_law 657 = .ok (.iconst 0, 1) := by decide +kernel
theorem dL_law_658 : decode cL_law 658 = .ok (.ireturn, 1) := by decide +kernel
theorem dL_law_659 : decode cL_law 659 = .ok (.aload_n 1, 1) := by decide +kernel
theorem dL_law_660 : decode cL_law 660 = .ok (.invokevirtual 93, 3) := by decide +kernel
theorem dL_law_663 : decode cL_law 663 = .ok (.aload_n 2, 1) := by decide +kernel
theorem dL_law_664 : decode cL_law 664 = .ok (.invokevirtual 96, 3) := by decide +kernel
theorem dL_law_667 : decode cL_law 667 = .ok (.if_icmp .eq 706, 3) := by decide +kernel
theorem dL_law_670 : decode cL_law 670 = .ok (.iconst 0, 1) := by decide +kernel
theorem dL_law_671 : decode cL_law 671 = .ok (.ireturn, 1) := by decide +kernel
theorem dL_law_672 : decode cL_law 672 = .ok (.aload_n 1, 1) := by decide +kernel
theorem dL_law_673 : decode cL_law 673 = .ok (.invokevirtual 97, 3) := by decide +kernel
theorem dL_law_676 : decode cL_law 676 = .ok (.aload_n 2, 1) := by decide +kernel
theorem dL_law_677 : decode cL_law 677 = .ok (.invokevirtual 100, 3) := by decide +kernel
theorem dL_law_680 : decode cL_law 680 = .ok (.if_icmp .eq 693, 3) := by decide +kernel
theorem dL_law_683 : decode cL_law 683 = .ok (.iconst 0, 1) := by decide +kernel
theorem dL_law_684 : decode cL_law 684 = .ok (.ireturn, 1) := by decide +kernel
theorem dL_law_685 : decode cL_law 685 = .ok (.aload_n 1, 1) := by decide +kernel
theorem dL_law_686 : decode cL_law 686 = .ok (.invokevirtual 101, 3) := by decide +kernel
theorem dL_law_689 : decode cL_law 689 = .ok (.aload_n 2, 1) := by decide +kernel
theorem dL_law_690 : decode cL_law 690 = .ok (.invokevirtual 104, 3) := by decide +kernel
theorem dL_law_693 : decode cL_law 693 = .ok (.if_icmp .eq 680, 3) := by decide +kernel
theorem dL_law_696 : decode cL_law 696 = .ok (.iconst 0, 1) := by decide +kernel
theorem dL_law_697 : decode cL_law 697 = .ok (.ireturn, 1) := by decide +kernel
theorem dL_law_698 : decode cL_law 698 = .ok (.aload_n 1, 1) := by decide +kernel
theorem dL_law_699 : decode cL_law 699 = .ok (.aload_n 0, 1) := by decide +kernel
theorem dL_law_700 : decode cL_law 700 = .ok (.iload_n 3, 1) := by decide +kernel
theorem dL_law_701 : decode cL_law 701 = .ok (.iconst 1, 1) := by decide +kernel
theorem dL_law_702 : decode cL_law 702 = .ok (.iadd, 1) := by decide +kernel
theorem dL_law_703 : decode cL_law 703 = .ok (.iaload, 1) := by decide +kernel
theorem dL_law_704 : decode cL_law 704 = .ok (.invokevirtual 105, 3) := by decide +kernel
theorem dL_law_707 : decode cL_law 707 = .ok (.aload_n 2, 1) := by decide +kernel
theorem dL_law_708 : decode cL_law 708 = .ok (.aload_n 0, 1) := by decide +kernel
theorem dL_law_709 : decode cL_law 709 = .ok (.iload_n 3, 1) := by decide +kernel
theorem dL_law_710 : decode cL_law 710 = .ok (.iconst 1, 1) := by decide +kernel
theorem dL_law_711 : decode cL_law 711 = .ok (.iadd, 1) := by decide +kernel
theorem dL_law_712 : decode cL_law 712 = .ok (.iaload, 1) := by decide +kernel
theorem dL_law_713 : decode cL_law 713 = .ok (.invokevirtual 108, 3) := by decide +kernel
theorem dL_law_716 : decode cL_law 716 = .ok (.if_icmp .eq 657, 3) := by decide +kernel
theorem dL_law_719 : decode cL_law 719 = .ok (.iconst 0, 1) := by decide +kernel
theorem dL_law_720 : decode cL_law 720 = .ok (.ireturn, 1) := by decide +kernel
theorem dL_law_721 : decode cL_law 721 = .ok (.aload_n 1, 1) := by decide +kernel
theorem dL_law_722 : decode cL_law 722 = .ok (.invokevirtual 109, 3) := by decide +kernel
theorem dL_law_725 : decode cL_law 725 = .ok (.aload_n 2, 1) := by decide +kernel
theorem dL_law_726 : decode cL_law 726 = .ok (.invokevirtual 112, 3) := by decide +kernel
theorem dL_law_729 : decode cL_law 729 = .ok (.if_icmp .eq 644, 3) := by decide +kernel
theorem dL_law_732 : decode cL_law 732 = .ok (.iconst 0, 1) := by decide +kernel
theorem dL_law_733 : decode cL_law 733 = .ok (.ireturn, 1) := by decide +kernel
theorem dL_law_734 : decode cL_law 734 = .ok (.aload_n 1, 1) := by decide +kernel
theorem dL_law_735 : decode cL_law 735 = .ok (.invokevirtual 113, 3) := by decide +kernel
theorem dL_law_738 : decode cL_law 738 = .ok (.aload_n 2, 1) := by decide +kernel
theorem dL_law_739 : decode cL_law 739 = .ok (.invokevirtual 116, 3) := by decide +kernel
theorem dL_law_742 : decode cL_law 742 = .ok (.if_icmp .eq 631, 3) := by decide +kernel
theorem dL_law_745 : decode cL_law 745 = .ok (.iconst 0, 1) := by decide +kernel
theorem dL_law_746 : decode cL_law 746 = .ok (.ireturn, 1) := by decide +kernel
theorem dL_law_747 : decode cL_law 747 = .ok (.aload_n 1, 1) := by decide +kernel
theorem dL_law_748 : decode cL_law 748 = .ok (.aload_n 0, 1) := by decide +kernel
theorem dL_law_749 : decode cL_law 749 = .ok (.iload_n 3, 1) := by decide +kernel
theorem dL_law_750 : decode cL_law 750 = .ok (.iconst 1, 1) := by decide +kernel
theorem dL_law_751 : decode cL_law 751 = .ok (.iadd, 1) := by decide +kernel
theorem dL_law_752 : decode cL_law 752 = .ok (.iaload, 1) := by decide +kernel
theorem dL_law_753 : decode cL_law 753 = .ok (.invokevirtual 117, 3) := by decide +kernel
theorem dL_law_756 : decode cL_law 756 = .ok (.aload_n 2, 1) := by decide +kernel
theorem dL_law_757 : decode cL_law 757 = .ok (.aload_n 0, 1) := by decide +kernel
theorem dL_law_758 : decode cL_law 758 = .ok (.iload_n 3, 1) := by decide +kernel
theorem dL_law_759 : decode cL_law 759 = .ok (.iconst 1, 1) := by decide +kernel
theorem dL_law_760 : decode cL_law 760 = .ok (.iadd, 1) := by decide +kernel
theorem dL_law_761 : decode cL_law 761 = .ok (.iaload, 1) := by decide +kernel
theorem dL_law_762 : decode cL_law 762 = .ok (.invokevirtual 120, 3) := by decide +kernel
theorem dL_law_765 : decode cL_law 765 = .ok (.if_icmp .eq 608, 3) := by decide +kernel
theorem dL_law_768 : decode cL_law 768 = .ok (.iconst 0, 1) := by decide +kernel
theorem dL_law_769 : decode cL_law 769 = .ok (.ireturn, 1) := by decide +kernel
theorem dL_law_770 : decode cL_law 770 = .ok (.aload_n 1, 1) := by decide +kernel
theorem dL_law_771 : decode cL_law 771 = .ok (.invokevirtual 121, 3) := by decide +kernel
theorem dL_law_774 : decode cL_law 774 = .ok (.aload_n 2, 1) := by decide +kernel
theorem dL_law_775 : decode cL_law 775 = .ok (.invokevirtual 124, 3) := by decide +kernel
theorem dL_law_778 : decode cL_law 778 = .ok (.if_icmp .eq 595, 3) := by decide +kernel
theorem dL_law_781 : decode cL_law 781 = .ok (.iconst 0, 1) := by decide +kernel
theorem dL_law_782 : decode cL_law 782 = .ok (.ireturn, 1) := by decide +kernel
theorem dL_law_783 : decode cL_law 783 = .ok (.aload_n 1, 1) := by decide +kernel
theorem dL_law_784 : decode cL_law 784 = .ok (.aload_n 0, 1) := by decide +kernel
theorem dL_law_785 : decode cL_law 785 = .ok (.iload_n 3, 1) := by decide +kernel
theorem dL_law_786 : decode cL_law 786 = .ok (.iconst 1, 1) := by decide +kernel
theorem dL_law_787 : decode cL_law 787 = .ok (.iadd, 1) := by decide +kernel
theorem dL_law_788 : decode cL_law 788 = .ok (.iaload, 1) := by decide +kernel
theorem dL_law_789 : decode cL_law 789 = .ok (.aload_n 0, 1) := by decide +kernel
theorem dL_law_790 : decode cL_law 790 = .ok (.iload_n 3, 1) := by decide +kernel
theorem dL_law_791 : decode cL_law 791 = .ok (.iconst 2, 1) := by decide +kernel
theorem dL_law_792 : decode cL_law 792 = .ok (.iadd, 1) := by decide +kernel
theorem dL_law_793 : decode cL_law 793 = .ok (.iaload, 1) := by decide +kernel
theorem dL_law_794 : decode cL_law 794 = .ok (.invokevirtual 125, 3) := by decide +kernel
theorem dL_law_797 : decode cL_law 797 = .ok (.aload_n 2, 1) := by decide +kernel
theorem dL_law_798 : decode cL_law 798 = .ok (.aload_n 0, 1) := by decide +kernel
theorem dL_law_799 : decode cL_law 799 = .ok (.iload_n 3, 1) := by decide +kernel
theorem dL_law_800 : decode cL_law 800 = .ok (.iconst 1, 1) := by decide +kernel
theorem dL_law_801 : decode cL_law 801 = .ok (.iadd, 1) := by decide +kernel
theorem dL_law_802 : decode cL_law 802 = .ok (.iaload, 1) := by decide +kernel
theorem dL_law_803 : decode cL_law 803 = .ok (.aload_n 0, 1) := by decide +kernel
theorem dL_law_804 : decode cL_law 804 = .ok (.iload_n 3, 1) := by decide +kernel
theorem dL_law_805 : decode cL_law 805 = .ok (.iconst 2, 1) := by decide +kernel
theorem dL_law_806 : decode cL_law 806 = .ok (.iadd, 1) := by decide +kernel
theorem dL_law_807 : decode cL_law 807 = .ok (.iaload, 1) := by decide +kernel
theorem dL_law_808 : decode cL_law 808 = .ok (.invokevirtual 128, 3) := by decide +kernel
theorem dL_law_811 : decode cL_law 811 = .ok (.if_icmp .eq 562, 3) := by decide +kernel
theorem dL_law_814 : decode cL_law 814 = .ok (.iconst 0, 1) := by decide +kernel
theorem dL_law_815 : decode cL_law 815 = .ok (.ireturn, 1) := by decide +kernel
theorem dL_law_816 : decode cL_law 816 = .ok (.aload_n 1, 1) := by decide +kernel
theorem dL_law_817 : decode cL_law 817 = .ok (.aload_n 0, 1) := by decide +kernel
theorem dL_law_818 : decode cL_law 818 = .ok (.iload_n 3, 1) := by decide +kernel
theorem dL_law_819 : decode cL_law 819 = .ok (.iconst 1, 1) := by decide +kernel
theorem dL_law_820 : decode cL_law 820 = .ok (.iadd, 1) := by decide +kernel
theorem dL_law_821 : decode cL_law 821 = .ok (.iaload, 1) := by decide +kernel
theorem dL_law_822 : decode cL_law 822 = .ok (.invokevirtual 129, 3) := by decide +kernel
theorem dL_law_825 : decode cL_law 825 = .ok (.aload_n 2, 1) := by decide +kernel
theorem dL_law_826 : decode cL_law 826 = .ok (.aload_n 0, 1) := by decide +kernel
theorem dL_law_827 : decode cL_law 827 = .ok (.iload_n 3, 1) := by decide +kernel
theorem dL_law_828 : decode cL_law 828 = .ok (.iconst 1, 1) := by decide +kernel
theorem dL_law_829 : decode cL_law 829 = .ok (.iadd, 1) := by decide +kernel
theorem dL_law_830 : decode cL_law 830 = .ok (.iaload, 1) := by decide +kernel
theorem dL_law_831 : decode cL_law 831 = .ok (.invokevirtual 132, 3) := by decide +kernel
theorem dL_law_834 : decode cL_law 834 = .ok (.if_icmp .eq 539, 3) := by decide +kernel
theorem dL_law_837 : decode cL_law 837 = .ok (.iconst 0, 1) := by decide +kernel
theorem dL_law_838 : decode cL_law 838 = .ok (.ireturn, 1) := by decide +kernel
theorem dL_law_839 : decode cL_law 839 = .ok (.aload_n 1, 1) := by decide +kernel
theorem dL_law_840 : decode cL_law 840 = .ok (.invokevirtual 133, 3) := by decide +kernel
theorem dL_law_843 : decode cL_law 843 = .ok (.aload_n 2, 1) := by decide +kernel
theorem dL_law_844 : decode cL_law 844 = .ok (.invokevirtual 136, 3) := by decide +kernel
theorem dL_law_847 : decode cL_law 847 = .ok (.if_icmp .eq 526, 3) := by decide +kernel
theorem dL_law_850 : decode cL_law 850 = .ok (.iconst 0, 1) := by decide +kernel
theorem dL_law_851 : decode cL_law 851 = .ok (.ireturn, 1) := by decide +kernel
theorem dL_law_852 : decode cL_law 852 = .ok (.aload_n 1, 1) := by decide +kernel
theorem dL_law_853 : decode cL_law 853 = .ok (.aload_n 0, 1) := by decide +kernel
theorem dL_law_854 : decode cL_law 854 = .ok (.iload_n 3, 1) := by decide +kernel
theorem dL_law_855 : decode cL_law 855 = .ok (.iconst 1, 1) := by decide +kernel
theorem dL_law_856 : decode cL_law 856 = .ok (.iadd, 1) := by decide +kernel
theorem dL_law_857 : decode cL_law 857 = .ok (.iaload, 1) := by decide +kernel
theorem dL_law_858 : decode cL_law 858 = .ok (.invokevirtual 137, 3) := by decide +kernel
theorem dL_law_861 : decode cL_law 861 = .ok (.aload_n 2, 1) := by decide +kernel
theorem dL_law_862 : decode cL_law 862 = .ok (.aload_n 0, 1) := by decide +kernel
theorem dL_law_863 : decode cL_law 863 = .ok (.iload_n 3, 1) := by decide +kernel
theorem dL_law_864 : decode cL_law 864 = .ok (.iconst 1, 1) := by decide +kernel
theorem dL_law_865 : decode cL_law 865 = .ok (.iadd, 1) := by decide +kernel
theorem dL_law_866 : decode cL_law 866 = .ok (.iaload, 1) := by decide +kernel
theorem dL_law_867 : decode cL_law 867 = .ok (.invokevirtual 140, 3) := by decide +kernel
theorem dL_law_870 : decode cL_law 870 = .ok (.if_icmp .eq 503, 3) := by decide +kernel
theorem dL_law_873 : decode cL_law 873 = .ok (.iconst 0, 1) := by decide +kernel
theorem dL_law_874 : decode cL_law 874 = .ok (.ireturn, 1) := by decide +kernel
theorem dL_law_875 : decode cL_law 875 = .ok (.aload_n 1, 1) := by decide +kernel
theorem dL_law_876 : decode cL_law 876 = .ok (.aload_n 0, 1) := by decide +kernel
theorem dL_law_877 : decode cL_law 877 = .ok (.iload_n 3, 1) := by decide +kernel
theorem dL_law_878 : decode cL_law 878 = .ok (.iconst 1, 1) := by decide +kernel
theorem dL_law_879 : decode cL_law 879 = .ok (.iadd, 1) := by decide +kernel
theorem dL_law_880 : decode cL_law 880 = .ok (.iaload, 1) := by decide +kernel
theorem dL_law_881 : decode cL_law 881 = .ok (.aload_n 0, 1) := by decide +kernel
theorem dL_law_882 : decode cL_law 882 = .ok (.iload_n 3, 1) := by decide +kernel
theorem dL_law_883 : decode cL_law 883 = .ok (.iconst 2, 1) := by decide +kernel
theorem dL_law_884 : decode cL_law 884 = .ok (.iadd, 1) := by decide +kernel
theorem dL_law_885 : decode cL_law 885 = .ok (.iaload, 1) := by decide +kernel
theorem dL_law_886 : decode cL_law 886 = .ok (.invokevirtual 141, 3) := by decide +kernel
theorem dL_law_889 : decode cL_law 889 = .ok (.aload_n 2, 1) := by decide +kernel
theorem dL_law_890 : decode cL_law 890 = .ok (.aload_n 0, 1) := by decide +kernel
theorem dL_law_891 : decode cL_law 891 = .ok (.iload_n 3, 1) := by decide +kernel
theorem dL_law_892 : decode cL_law 892 = .ok (.iconst 1, 1) := by decide +kernel
theorem dL_law_893 : decode cL_law 893 = .ok (.iadd, 1) := by decide +kernel
theorem dL_law_894 : decode cL_law 894 = .ok (.iaload, 1) := by decide +kernel
theorem dL_law_895 : decode cL_law 895 = .ok (.aload_n 0, 1) := by decide +kernel
theorem dL_law_896 : decode cL_law 896 = .ok (.iload_n 3, 1) := by decide +kernel
theorem dL_law_897 : decode cL_law 897 = .ok (.iconst 2, 1) := by decide +kernel
theorem dL_law_898 : decode cL_law 898 = .ok (.iadd, 1) := by decide +kernel
theorem dL_law_899 : decode cL_law 899 = .ok (.iaload, 1) := by decide +kernel
theorem dL_law_900 : decode cL_law 900 = .ok (.invokevirtual 144, 3) := by decide +kernel
theorem dL_law_903 : decode cL_law 903 = .ok (.if_icmp .eq 470, 3) := by decide +kernel
theorem dL_law_906 : decode cL_law 906 = .ok (.iconst 0, 1) := by decide +kernel
theorem dL_law_907 : decode cL_law 907 = .ok (.ireturn, 1) := by decide +kernel
theorem dL_law_908 : decode cL_law 908 = .ok (.aload_n 1, 1) := by decide +kernel
theorem dL_law_909 : decode cL_law 909 = .ok (.aload_n 0, 1) := by decide +kernel
theorem dL_law_910 : decode cL_law 910 = .ok (.iload_n 3, 1) := by decide +kernel
theorem dL_law_911 : decode cL_law 911 = .ok (.iconst 1, 1) := by decide +kernel
theorem dL_law_912 : decode cL_law 912 = .ok (.iadd, 1) := by decide +kernel
theorem dL_law_913 : decode cL_law 913 = .ok (.iaload, 1) := by decide +kernel
theorem dL_law_914 : decode cL_law 914 = .ok (.invokevirtual 145, 3) := by decide +kernel
theorem dL_law_917 : decode cL_law 917 = .ok (.aload_n 2, 1) := by decide +kernel
theorem dL_law_918 : decode cL_law 918 = .ok (.aload_n 0, 1) := by decide +kernel
theorem dL_law_919 : decode cL_law 919 = .ok (.iload_n 3, 1) := by decide +kernel
theorem dL_law_920 : decode cL_law 920 = .ok (.iconst 1, 1) := by decide +kernel
theorem dL_law_921 : decode cL_law 921 = .ok (.iadd, 1) := by decide +kernel
theorem dL_law_922 : decode cL_law 922 = .ok (.iaload, 1) := by decide +kernel
theorem dL_law_923 : decode cL_law 923 = .ok (.invokevirtual 148, 3) := by decide +kernel
theorem dL_law_926 : decode cL_law 926 = .ok (.if_icmp .eq 447, 3) := by decide +kernel
theorem dL_law_929 : decode cL_law 929 = .ok (.iconst 0, 1) := by decide +kernel
theorem dL_law_930 : decode cL_law 930 = .ok (.ireturn, 1) := by decide +kernel
theorem dL_law_931 : decode cL_law 931 = .ok (.aload_n 1, 1) := by decide +kernel
theorem dL_law_932 : decode cL_law 932 = .ok (.aload_n 0, 1) := by decide +kernel
theorem dL_law_933 : decode cL_law 933 = .ok (.iload_n 3, 1) := by decide +kernel
theorem dL_law_934 : decode cL_law 934 = .ok (.iconst 1, 1) := by decide +kernel
theorem dL_law_935 : decode cL_law 935 = .ok (.iadd, 1) := by decide +kernel
theorem dL_law_936 : decode cL_law 936 = .ok (.iaload, 1) := by decide +kernel
theorem dL_law_937 : decode cL_law 937 = .ok (.aload_n 0, 1) := by decide +kernel
theorem dL_law_938 : decode cL_law 938 = .ok (.iload_n 3, 1) := by decide +kernel
theorem dL_law_939 : decode cL_law 939 = .ok (.iconst 2, 1) := by decide +kernel
theorem dL_law_940 : decode cL_law 940 = .ok (.iadd, 1) := by decide +kernel
theorem dL_law_941 : decode cL_law 941 = .ok (.iaload, 1) := by decide +kernel
theorem dL_law_942 : decode cL_law 942 = .ok (.aload_n 0, 1) := by decide +kernel
theorem dL_law_943 : decode cL_law 943 = .ok (.iload_n 3, 1) := by decide +kernel
theorem dL_law_944 : decode cL_law 944 = .ok (.iconst 3, 1) := by decide +kernel
theorem dL_law_945 : decode cL_law 945 = .ok (.iadd, 1) := by decide +kernel
theorem dL_law_946 : decode cL_law 946 = .ok (.iaload, 1) := by decide +kernel
theorem dL_law_947 : decode cL_law 947 = .ok (.invokevirtual 149, 3) := by decide +kernel
theorem dL_law_950 : decode cL_law 950 = .ok (.aload_n 2, 1) := by decide +kernel
theorem dL_law_951 : decode cL_law 951 = .ok (.aload_n 0, 1) := by decide +kernel
theorem dL_law_952 : decode cL_law 952 = .ok (.iload_n 3, 1) := by decide +kernel
theorem dL_law_953 : decode cL_law 953 = .ok (.iconst 1, 1) := by decide +kernel
theorem dL_law_954 : decode cL_law 954 = .ok (.iadd, 1) := by decide +kernel
theorem dL_law_955 : decode cL_law 955 = .ok (.iaload, 1) := by decide +kernel
theorem dL_law_956 : decode cL_law 956 = .ok (.aload_n 0, 1) := by decide +kernel
theorem dL_law_957 : decode cL_law 957 = .ok (.iload_n 3, 1) := by decide +kernel
theorem dL_law_958 : decode cL_law 958 = .ok (.iconst 2, 1) := by decide +kernel
theorem dL_law_959 : decode cL_law 959 = .ok (.iadd, 1) := by decide +kernel
theorem dL_law_960 : decode cL_law 960 = .ok (.iaload, 1) := by decide +kernel
theorem dL_law_961 : decode cL_law 961 = .ok (.aload_n 0, 1) := by decide +kernel
theorem dL_law_962 : decode cL_law 962 = .ok (.iload_n 3, 1) := by decide +kernel
theorem dL_law_963 : decode cL_law 963 = .ok (.iconst 3, 1) := by decide +kernel
theorem dL_law_964 : decode cL_law 964 = .ok (.iadd, 1) := by decide +kernel
theorem dL_law_965 : decode cL_law 965 = .ok (.iaload, 1) := by decide +kernel
theorem dL_law_966 : decode cL_law 966 = .ok (.invokevirtual 152, 3) := by decide +kernel
theorem dL_law_969 : decode cL_law 969 = .ok (.if_icmp .eq 404, 3) := by decide +kernel
theorem dL_law_972 : decode cL_law 972 = .ok (.iconst 0, 1) := by decide +kernel
theorem dL_law_973 : decode cL_law 973 = .ok (.ireturn, 1) := by decide +kernel
theorem dL_law_974 : decode cL_law 974 = .ok (.aload_n 1, 1) := by decide +kernel
theorem dL_law_975 : decode cL_law 975 = .ok (.aload_n 0, 1) := by decide +kernel
theorem dL_law_976 : decode cL_law 976 = .ok (.iload_n 3, 1) := by decide +kernel
theorem dL_law_977 : decode cL_law 977 = .ok (.iconst 1, 1) := by decide +kernel
theorem dL_law_978 : decode cL_law 978 = .ok (.iadd, 1) := by decide +kernel
theorem dL_law_979 : decode cL_law 979 = .ok (.iaload, 1) := by decide +kernel
theorem dL_law_980 : decode cL_law 980 = .ok (.invokevirtual 153, 3) := by decide +kernel
theorem dL_law_983 : decode cL_law 983 = .ok (.aload_n 2, 1) := by decide +kernel
theorem dL_law_984 : decode cL_law 984 = .ok (.aload_n 0, 1) := by decide +kernel
theorem dL_law_985 : decode cL_law 985 = .ok (.iload_n 3, 1) := by decide +kernel
theorem dL_law_986 : decode cL_law 986 = .ok (.iconst 1, 1) := by decide +kernel
theorem dL_law_987 : decode cL_law 987 = .ok (.iadd, 1) := by decide +kernel
theorem dL_law_988 : decode cL_law 988 = .ok (.iaload, 1) := by decide +kernel
theorem dL_law_989 : decode cL_law 989 = .ok (.invokevirtual 157, 3) := by decide +kernel
theorem dL_law_992 : decode cL_law 992 = .ok (.lcmp, 1) := by decide +kernel
theorem dL_law_993 : decode cL_law 993 = .ok (.ifCond .eq 380, 3) := by decide +kernel
theorem dL_law_996 : decode cL_law 996 = .ok (.iconst 0, 1) := by decide +kernel
theorem dL_law_997 : decode cL_law 997 = .ok (.ireturn, 1) := by decide +kernel
theorem dL_law_998 : decode cL_law 998 = .ok (.aload_n 1, 1) := by decide +kernel
theorem dL_law_999 : decode cL_law 999 = .ok (.aload_n 0, 1) := by decide +kernel
theorem dL_law_1000 : decode cL_law 1000 = .ok (.iload_n 3, 1) := by decide +kernel
theorem dL_law_1001 : decode cL_law 1001 = .ok (.iconst 1, 1) := by decide +kernel
theorem dL_law_1002 : decode cL_law 1002 = .ok (.iadd, 1) := by decide +kernel
theorem dL_law_1003 : decode cL_law 1003 = .ok (.iaload, 1) := by decide +kernel
theorem dL_law_1004 : decode cL_law 1004 = .ok (.invokevirtual 158, 3) := by decide +kernel
theorem dL_law_1007 : decode cL_law 1007 = .ok (.aload_n 2, 1) := by decide +kernel
theorem dL_law_1008 : decode cL_law 1008 = .ok (.aload_n 0, 1) := by decide +kernel
theorem dL_law_1009 : decode cL_law 1009 = .ok (.iload_n 3, 1) := by decide +kernel
theorem dL_law_1010 : decode cL_law 1010 = .ok (.iconst 1, 1) := by decide +kernel
theorem dL_law_1011 : decode cL_law 1011 = .ok (.iadd, 1) := by decide +kernel
theorem dL_law_1012 : decode cL_law 1012 = .ok (.iaload, 1) := by decide +kernel
theorem dL_law_1013 : decode cL_law 1013 = .ok (.invokevirtual 161, 3) := by decide +kernel
theorem dL_law_1016 : decode cL_law 1016 = .ok (.lcmp, 1) := by decide +kernel
theorem dL_law_1017 : decode cL_law 1017 = .ok (.ifCond .eq 356, 3) := by decide +kernel
theorem dL_law_1020 : decode cL_law 1020 = .ok (.iconst 0, 1) := by decide +kernel
theorem dL_law_1021 : decode cL_law 1021 = .ok (.ireturn, 1) := by decide +kernel
theorem dL_law_1022 : decode cL_law 1022 = .ok (.aload_n 1, 1) := by decide +kernel
theorem dL_law_1023 : decode cL_law 1023 = .ok (.aload_n 0, 1) := by decide +kernel
theorem dL_law_1024 : decode cL_law 1024 = .ok (.iload_n 3, 1) := by decide +kernel
theorem dL_law_1025 : decode cL_law 1025 = .ok (.iconst 1, 1) := by decide +kernel
theorem dL_law_1026 : decode cL_law 1026 = .ok (.iadd, 1) := by decide +kernel
theorem dL_law_1027 : decode cL_law 1027 = .ok (.iaload, 1) := by decide +kernel
theorem dL_law_1028 : decode cL_law 1028 = .ok (.invokevirtual 162, 3) := by decide +kernel
theorem dL_law_1031 : decode cL_law 1031 = .ok (.aload_n 2, 1) := by decide +kernel
theorem dL_law_1032 : decode cL_law 1032 = .ok (.aload_n 0, 1) := by decide +kernel
theorem dL_law_1033 : decode cL_law 1033 = .ok (.iload_n 3, 1) := by decide +kernel
theorem dL_law_1034 : decode cL_law 1034 = .ok (.iconst 1, 1) := by decide +kernel
theorem dL_law_1035 : decode cL_law 1035 = .ok (.iadd, 1) := by decide +kernel
theorem dL_law_1036 : decode cL_law 1036 = .ok (.iaload, 1) := by decide +kernel
theorem dL_law_1037 : decode cL_law 1037 = .ok (.invokevirtual 165, 3) := by decide +kernel
theorem dL_law_1040 : decode cL_law 1040 = .ok (.if_icmp .eq 333, 3) := by decide +kernel
theorem dL_law_1043 : decode cL_law 1043 = .ok (.iconst 0, 1) := by decide +kernel
theorem dL_law_1044 : decode cL_law 1044 = .ok (.ireturn, 1) := by decide +kernel
theorem dL_law_1045 : decode cL_law 1045 = .ok (.aload_n 1, 1) := by decide +kernel
theorem dL_law_1046 : decode cL_law 1046 = .ok (.aload_n 0, 1) := by decide +kernel
theorem dL_law_1047 : decode cL_law 1047 = .ok (.iload_n 3, 1) := by decide +kernel
theorem dL_law_1048 : decode cL_law 1048 = .ok (.iconst 1, 1) := by decide +kernel
theorem dL_law_1049 : decode cL_law 1049 = .ok (.iadd, 1) := by decide +kernel
theorem dL_law_1050 : decode cL_law 1050 = .ok (.iaload, 1) := by decide +kernel
theorem dL_law_1051 : decode cL_law 1051 = .ok (.aload_n 0, 1) := by decide +kernel
theorem dL_law_1052 : decode cL_law 1052 = .ok (.iload_n 3, 1) := by decide +kernel
theorem dL_law_1053 : decode cL_law 1053 = .ok (.iconst 2, 1) := by decide +kernel
theorem dL_law_1054 : decode cL_law 1054 = .ok (.iadd, 1) := by decide +kernel
theorem dL_law_1055 : decode cL_law 1055 = .ok (.iaload, 1) := by decide +kernel
theorem dL_law_1056 : decode cL_law 1056 = .ok (.aload_n 0, 1) := by decide +kernel
theorem dL_law_1057 : decode cL_law 1057 = .ok (.iload_n 3, 1) := by decide +kernel
theorem dL_law_1058 : decode cL_law 1058 = .ok (.iconst 3, 1) := by decide +kernel
theorem dL_law_1059 : decode cL_law 1059 = .ok (.iadd, 1) := by decide +kernel
theorem dL_law_1060 : decode cL_law 1060 = .ok (.iaload, 1) := by decide +kernel
theorem dL_law_1061 : decode cL_law 1061 = .ok (.invokevirtual 166, 3) := by decide +kernel
theorem dL_law_1064 : decode cL_law 1064 = .ok (.aload_n 2, 1) := by decide +kernel
theorem dL_law_1065 : decode cL_law 1065 = .ok (.aload_n 0, 1) := by decide +kernel
theorem dL_law_1066 : decode cL_law 1066 = .ok (.iload_n 3, 1) := by decide +kernel
theorem dL_law_1067 : decode cL_law 1067 = .ok (.iconst 1, 1) := by decide +kernel
theorem dL_law_1068 : decode cL_law 1068 = .ok (.iadd, 1) := by decide +kernel
theorem dL_law_1069 : decode cL_law 1069 = .ok (.iaload, 1) := by decide +kernel
theorem dL_law_1070 : decode cL_law 1070 = .ok (.aload_n 0, 1) := by decide +kernel
theorem dL_law_1071 : decode cL_law 1071 = .ok (.iload_n 3, 1) := by decide +kernel
theorem dL_law_1072 : decode cL_law 1072 = .ok (.iconst 2, 1) := by decide +kernel
theorem dL_law_1073 : decode cL_law 1073 = .ok (.iadd, 1) := by decide +kernel
theorem dL_law_1074 : decode cL_law 1074 = .ok (.iaload, 1) := by decide +kernel
theorem dL_law_1075 : decode cL_law 1075 = .ok (.aload_n 0, 1) := by decide +kernel
theorem dL_law_1076 : decode cL_law 1076 = .ok (.iload_n 3, 1) := by decide +kernel
theorem dL_law_1077 : decode cL_law 1077 = .ok (.iconst 3, 1) := by decide +kernel
theorem dL_law_1078 : decode cL_law 1078 = .ok (.iadd, 1) := by decide +kernel
theorem dL_law_1079 : decode cL_law 1079 = .ok (.iaload, 1) := by decide +kernel
theorem dL_law_1080 : decode cL_law 1080 = .ok (.invokevirtual 169, 3) := by decide +kernel
theorem dL_law_1083 : decode cL_law 1083 = .ok (.if_icmp .eq 290, 3) := by decide +kernel
theorem dL_law_1086 : decode cL_law 1086 = .ok (.iconst 0, 1) := by decide +kernel
theorem dL_law_1087 : decode cL_law 1087 = .ok (.ireturn, 1) := by decide +kernel
theorem dL_law_1088 : decode cL_law 1088 = .ok (.aload_n 1, 1) := by decide +kernel
theorem dL_law_1089 : decode cL_law 1089 = .ok (.aload_n 0, 1) := by decide +kernel
theorem dL_law_1090 : decode cL_law 1090 = .ok (.iload_n 3, 1) := by decide +kernel
theorem dL_law_1091 : decode cL_law 1091 = .ok (.iconst 1, 1) := by decide +kernel
theorem dL_law_1092 : decode cL_law 1092 = .ok (.iadd, 1) := by decide +kernel
theorem dL_law_1093 : decode cL_law 1093 = .ok (.iaload, 1) := by decide +kernel
theorem dL_law_1094 : decode cL_law 1094 = .ok (.invokevirtual 170, 3) := by decide +kernel
theorem dL_law_1097 : decode cL_law 1097 = .ok (.aload_n 2, 1) := by decide +kernel
theorem dL_law_1098 : decode cL_law 1098 = .ok (.aload_n 0, 1) := by decide +kernel
theorem dL_law_1099 : decode cL_law 1099 = .ok (.iload_n 3, 1) := by decide +kernel
theorem dL_law_1100 : decode cL_law 1100 = .ok (.iconst 1, 1) := by decide +kernel
theorem dL_law_1101 : decode cL_law 1101 = .ok (.iadd, 1) := by decide +kernel
theorem dL_law_1102 : decode cL_law 1102 = .ok (.iaload, 1) := by decide +kernel
theorem dL_law_1103 : decode cL_law 1103 = .ok (.invokevirtual 173, 3) := by decide +kernel
theorem dL_law_1106 : decode cL_law 1106 = .ok (.if_icmp .eq 267, 3) := by decide +kernel
theorem dL_law_1109 : decode cL_law 1109 = .ok (.iconst 0, 1) := by decide +kernel
theorem dL_law_1110 : decode cL_law 1110 = .ok (.ireturn, 1) := by decide +kernel
theorem dL_law_1111 : decode cL_law 1111 = .ok (.aload_n 1, 1) := by decide +kernel
theorem dL_law_1112 : decode cL_law 1112 = .ok (.aload_n 0, 1) := by decide +kernel
theorem dL_law_1113 : decode cL_law 1113 = .ok (.iload_n 3, 1) := by decide +kernel
theorem dL_law_1114 : decode cL_law 1114 = .ok (.iconst 1, 1) := by decide +kernel
theorem dL_law_1115 : decode cL_law 1115 = .ok (.iadd, 1) := by decide +kernel
theorem dL_law_1116 : decode cL_law 1116 = .ok (.iaload, 1) := by decide +kernel
theorem dL_law_1117 : decode cL_law 1117 = .ok (.aload_n 0, 1) := by decide +kernel
theorem dL_law_1118 : decode cL_law 1118 = .ok (.iload_n 3, 1) := by decide +kernel
theorem dL_law_1119 : decode cL_law 1119 = .ok (.iconst 2, 1) := by decide +kernel
theorem dL_law_1120 : decode cL_law 1120 = .ok (.iadd, 1) := by decide +kernel
theorem dL_law_1121 : decode cL_law 1121 = .ok (.iaload, 1) := by decide +kernel
theorem dL_law_1122 : decode cL_law 1122 = .ok (.aload_n 0, 1) := by decide +kernel
theorem dL_law_1123 : decode cL_law 1123 = .ok (.iload_n 3, 1) := by decide +kernel
theorem dL_law_1124 : decode cL_law 1124 = .ok (.iconst 3, 1) := by decide +kernel
theorem dL_law_1125 : decode cL_law 1125 = .ok (.iadd, 1) := by decide +kernel
theorem dL_law_1126 : decode cL_law 1126 = .ok (.iaload, 1) := by decide +kernel
theorem dL_law_1127 : decode cL_law 1127 = .ok (.i2l, 1) := by decide +kernel
theorem dL_law_1128 : decode cL_law 1128 = .ok (.bipush 32, 2) := by decide +kernel
theorem dL_law_1130 : decode cL_law 1130 = .ok (.lshl, 1) := by decide +kernel
theorem dL_law_1131 : decode cL_law 1131 = .ok (.aload_n 0, 1) := by decide +kernel
theorem dL_law_1132 : decode cL_law 1132 = .ok (.iload_n 3, 1) := by decide +kernel
theorem dL_law_1133 : decode cL_law 1133 = .ok (.iconst 4, 1) := by decide +kernel
theorem dL_law_1134 : decode cL_law 1134 = .ok (.iadd, 1) := by decide +kernel
theorem dL_law_1135 : decode cL_law 1135 = .ok (.iaload, 1) := by decide +kernel
theorem dL_law_1136 : decode cL_law 1136 = .ok (.i2l, 1) := by decide +kernel
theorem dL_law_1137 : decode cL_law 1137 = .ok (.ldc2_w 174, 3) := by decide +kernel
theorem dL_law_1140 : decode cL_law 1140 = .ok (.land, 1) := by decide +kernel
theorem dL_law_1141 : decode cL_law 1141 = .ok (.lor, 1) := by decide +kernel
theorem dL_law_1142 : decode cL_law 1142 = .ok (.invokevirtual 176, 3) := by decide +kernel
theorem dL_law_1145 : decode cL_law 1145 = .ok (.aload_n 2, 1) := by decide +kernel
theorem dL_law_1146 : decode cL_law 1146 = .ok (.aload_n 0, 1) := by decide +kernel
theorem dL_law_1147 : decode cL_law 1147 = .ok (.iload_n 3, 1) := by decide +kernel
theorem dL_law_1148 : decode cL_law 1148 = .ok (.iconst 1, 1) := by decide +kernel
theorem dL_law_1149 : decode cL_law 1149 = .ok (.iadd, 1) := by decide +kernel
theorem dL_law_1150 : decode cL_law 1150 = .ok (.iaload, 1) := by decide +kernel
theorem dL_law_1151 : decode cL_law 1151 = .ok (.aload_n 0, 1) := by decide +kernel
theorem dL_law_1152 : decode cL_law 1152 = .ok (.iload_n 3, 1) := by decide +kernel
theorem dL_law_1153 : decode cL_law 1153 = .ok (.iconst 2, 1) := by decide +kernel
theorem dL_law_1154 : decode cL_law 1154 = .ok (.iadd, 1) := by decide +kernel
theorem dL_law_1155 : decode cL_law 1155 = .ok (.iaload, 1) := by decide +kernel
theorem dL_law_1156 : decode cL_law 1156 = .ok (.aload_n 0, 1) := by decide +kernel
theorem dL_law_1157 : decode cL_law 1157 = .ok (.iload_n 3, 1) := by decide +kernel
theorem dL_law_1158 : decode cL_law 1158 = .ok (.iconst 3, 1) := by decide +kernel
theorem dL_law_1159 : decode cL_law 1159 = .ok (.iadd, 1) := by decide +kernel
theorem dL_law_1160 : decode cL_law 1160 = .ok (.iaload, 1) := by decide +kernel
theorem dL_law_1161 : decode cL_law 1161 = .ok (.i2l, 1) := by decide +kernel
theorem dL_law_1162 : decode cL_law 1162 = .ok (.bipush 32, 2) := by decide +kernel
theorem dL_law_1164 : decode cL_law 1164 = .ok (.lshl, 1) := by decide +kernel
theorem dL_law_1165 : decode cL_law 1165 = .ok (.aload_n 0, 1) := by decide +kernel
theorem dL_law_1166 : decode cL_law 1166 = .ok (.iload_n 3, 1) := by decide +kernel
theorem dL_law_1167 : decode cL_law 1167 = .ok (.iconst 4, 1) := by decide +kernel
theorem dL_law_1168 : decode cL_law 1168 = .ok (.iadd, 1) := by decide +kernel
theorem dL_law_1169 : decode cL_law 1169 = .ok (.iaload, 1) := by decide +kernel
theorem dL_law_1170 : decode cL_law 1170 = .ok (.i2l, 1) := by decide +kernel
theorem dL_law_1171 : decode cL_law 1171 = .ok (.ldc2_w 174, 3) := by decide +kernel
theorem dL_law_1174 : decode cL_law 1174 = .ok (.land, 1) := by decide +kernel
theorem dL_law_1175 : decode cL_law 1175 = .ok (.lor, 1) := by decide +kernel
theorem dL_law_1176 : decode cL_law 1176 = .ok (.invokevirtual 180, 3) := by decide +kernel
theorem dL_law_1179 : decode cL_law 1179 = .ok (.if_icmp .eq 194, 3) := by decide +kernel
theorem dL_law_1182 : decode cL_law 1182 = .ok (.iconst 0, 1) := by decide +kernel
theorem dL_law_1183 : decode cL_law 1183 = .ok (.ireturn, 1) := by decide +kernel
theorem dL_law_1184 : decode cL_law 1184 = .ok (.aload_n 1, 1) := by decide +kernel
theorem dL_law_1185 : decode cL_law 1185 = .ok (.aload_n 0, 1) := by decide +kernel
theorem dL_law_1186 : decode cL_law 1186 = .ok (.iload_n 3, 1) := by decide +kernel
theorem dL_law_1187 : decode cL_law 1187 = .ok (.iconst 1, 1) := by decide +kernel
theorem dL_law_1188 : decode cL_law 1188 = .ok (.iadd, 1) := by decide +kernel
theorem dL_law_1189 : decode cL_law 1189 = .ok (.iaload, 1) := by decide +kernel
theorem dL_law_1190 : decode cL_law 1190 = .ok (.aload_n 0, 1) := by decide +kernel
theorem dL_law_1191 : decode cL_law 1191 = .ok (.iload_n 3, 1) := by decide +kernel
theorem dL_law_1192 : decode cL_law 1192 = .ok (.iconst 2, 1) := by decide +kernel
theorem dL_law_1193 : decode cL_law 1193 = .ok (.iadd, 1) := by decide +kernel
theorem dL_law_1194 : decode cL_law 1194 = .ok (.iaload, 1) := by decide +kernel
theorem dL_law_1195 : decode cL_law 1195 = .ok (.aload_n 0, 1) := by decide +kernel
theorem dL_law_1196 : decode cL_law 1196 = .ok (.iload_n 3, 1) := by decide +kernel
theorem dL_law_1197 : decode cL_law 1197 = .ok (.iconst 3, 1) := by decide +kernel
theorem dL_law_1198 : decode cL_law 1198 = .ok (.iadd, 1) := by decide +kernel
theorem dL_law_1199 : decode cL_law 1199 = .ok (.iaload, 1) := by decide +kernel
theorem dL_law_1200 : decode cL_law 1200 = .ok (.invokevirtual 181, 3) := by decide +kernel
theorem dL_law_1203 : decode cL_law 1203 = .ok (.aload_n 2, 1) := by decide +kernel
theorem dL_law_1204 : decode cL_law 1204 = .ok (.aload_n 0, 1) := by decide +kernel
theorem dL_law_1205 : decode cL_law 1205 = .ok (.iload_n 3, 1) := by decide +kernel
theorem dL_law_1206 : decode cL_law 1206 = .ok (.iconst 1, 1) := by decide +kernel
theorem dL_law_1207 : decode cL_law 1207 = .ok (.iadd, 1) := by decide +kernel
theorem dL_law_1208 : decode cL_law 1208 = .ok (.iaload, 1) := by decide +kernel
theorem dL_law_1209 : decode cL_law 1209 = .ok (.aload_n 0, 1) := by decide +kernel
theorem dL_law_1210 : decode cL_law 1210 = .ok (.iload_n 3, 1) := by decide +kernel
theorem dL_law_1211 : decode cL_law 1211 = .ok (.iconst 2, 1) := by decide +kernel
theorem dL_law_1212 : decode cL_law 1212 = .ok (.iadd, 1) := by decide +kernel
theorem dL_law_1213 : decode cL_law 1213 = .ok (.iaload, 1) := by decide +kernel
theorem dL_law_1214 : decode cL_law 1214 = .ok (.aload_n 0, 1) := by decide +kernel
theorem dL_law_1215 : decode cL_law 1215 = .ok (.iload_n 3, 1) := by decide +kernel
theorem dL_law_1216 : decode cL_law 1216 = .ok (.iconst 3, 1) := by decide +kernel
theorem dL_law_1217 : decode cL_law 1217 = .ok (.iadd, 1) := by decide +kernel
theorem dL_law_1218 : decode cL_law 1218 = .ok (.iaload, 1) := by decide +kernel
theorem dL_law_1219 : decode cL_law 1219 = .ok (.invokevirtual 184, 3) := by decide +kernel
theorem dL_law_1222 : decode cL_law 1222 = .ok (.if_icmp .eq 151, 3) := by decide +kernel
theorem dL_law_1225 : decode cL_law 1225 = .ok (.iconst 0, 1) := by decide +kernel
theorem dL_law_1226 : decode cL_law 1226 = .ok (.ireturn, 1) := by decide +kernel
theorem dL_law_1227 : decode cL_law 1227 = .ok (.aload_n 1, 1) := by decide +kernel
theorem dL_law_1228 : decode cL_law 1228 = .ok (.aload_n 0, 1) := by decide +kernel
theorem dL_law_1229 : decode cL_law 1229 = .ok (.iload_n 3, 1) := by decide +kernel
theorem dL_law_1230 : decode cL_law 1230 = .ok (.iconst 1, 1) := by decide +kernel
theorem dL_law_1231 : decode cL_law 1231 = .ok (.iadd, 1) := by decide +kernel
theorem dL_law_1232 : decode cL_law 1232 = .ok (.iaload, 1) := by decide +kernel
theorem dL_law_1233 : decode cL_law 1233 = .ok (.aload_n 0, 1) := by decide +kernel
theorem dL_law_1234 : decode cL_law 1234 = .ok (.iload_n 3, 1) := by decide +kernel
theorem dL_law_1235 : decode cL_law 1235 = .ok (.iconst 2, 1) := by decide +kernel
theorem dL_law_1236 : decode cL_law 1236 = .ok (.iadd, 1) := by decide +kernel
theorem dL_law_1237 : decode cL_law 1237 = .ok (.iaload, 1) := by decide +kernel
theorem dL_law_1238 : decode cL_law 1238 = .ok (.invokevirtual 185, 3) := by decide +kernel
theorem dL_law_1241 : decode cL_law 1241 = .ok (.aload_n 2, 1) := by decide +kernel
theorem dL_law_1242 : decode cL_law 1242 = .ok (.aload_n 0, 1) := by decide +kernel
theorem dL_law_1243 : decode cL_law 1243 = .ok (.iload_n 3, 1) := by decide +kernel
theorem dL_law_1244 : decode cL_law 1244 = .ok (.iconst 1, 1) := by decide +kernel
theorem dL_law_1245 : decode cL_law 1245 = .ok (.iadd, 1) := by decide +kernel
theorem dL_law_1246 : decode cL_law 1246 = .ok (.iaload, 1) := by decide +kernel
theorem dL_law_1247 : decode cL_law 1247 = .ok (.aload_n 0, 1) := by decide +kernel
theorem dL_law_1248 : decode cL_law 1248 = .ok (.iload_n 3, 1) := by decide +kernel
theorem dL_law_1249 : decode cL_law 1249 = .ok (.iconst 2, 1) := by decide +kernel
theorem dL_law_1250 : decode cL_law 1250 = .ok (.iadd, 1) := by decide +kernel
theorem dL_law_1251 : decode cL_law 1251 = .ok (.iaload, 1) := by decide +kernel
theorem dL_law_1252 : decode cL_law 1252 = .ok (.invokevirtual 189, 3) := by decide +kernel
theorem dL_law_1255 : decode cL_law 1255 = .ok (.lcmp, 1) := by decide +kernel
theorem dL_law_1256 : decode cL_law 1256 = .ok (.ifCond .eq 117, 3) := by decide +kernel
theorem dL_law_1259 : decode cL_law 1259 = .ok (.iconst 0, 1) := by decide +kernel
theorem dL_law_1260 : decode cL_law 1260 = .ok (.ireturn, 1) := by decide +kernel
theorem dL_law_1261 : decode cL_law 1261 = .ok (.aload_n 1, 1) := by decide +kernel
theorem dL_law_1262 : decode cL_law 1262 = .ok (.aload_n 0, 1) := by decide +kernel
theorem dL_law_1263 : decode cL_law 1263 = .ok (.iload_n 3, 1) := by decide +kernel
theorem dL_law_1264 : decode cL_law 1264 = .ok (.iconst 1, 1) := by decide +kernel
theorem dL_law_1265 : decode cL_law 1265 = .ok (.iadd, 1) := by decide +kernel
theorem dL_law_1266 : decode cL_law 1266 = .ok (.iaload, 1) := by decide +kernel
theorem dL_law_1267 : decode cL_law 1267 = .ok (.aload_n 0, 1) := by decide +kernel
theorem dL_law_1268 : decode cL_law 1268 = .ok (.iload_n 3, 1) := by decide +kernel
theorem dL_law_1269 : decode cL_law 1269 = .ok (.iconst 2, 1) := by decide +kernel
theorem dL_law_1270 : decode cL_law 1270 = .ok (.iadd, 1) := by decide +kernel
theorem dL_law_1271 : decode cL_law 1271 = .ok (.iaload, 1) := by decide +kernel
theorem dL_law_1272 : decode cL_law 1272 = .ok (.aload_n 0, 1) := by decide +kernel
theorem dL_law_1273 : decode cL_law 1273 = .ok (.iload_n 3, 1) := by decide +kernel
theorem dL_law_1274 : decode cL_law 1274 = .ok (.iconst 3, 1) := by decide +kernel
theorem dL_law_1275 : decode cL_law 1275 = .ok (.iadd, 1) := by decide +kernel
theorem dL_law_1276 : decode cL_law 1276 = .ok (.iaload, 1) := by decide +kernel
theorem dL_law_1277 : decode cL_law 1277 = .ok (.aload_n 0, 1) := by decide +kernel
theorem dL_law_1278 : decode cL_law 1278 = .ok (.iload_n 3, 1) := by decide +kernel
theorem dL_law_1279 : decode cL_law 1279 = .ok (.iconst 4, 1) := by decide +kernel
theorem dL_law_1280 : decode cL_law 1280 = .ok (.iadd, 1) := by decide +kernel
theorem dL_law_1281 : decode cL_law 1281 = .ok (.iaload, 1) := by decide +kernel
theorem dL_law_1282 : decode cL_law 1282 = .ok (.aload_n 0, 1) := by decide +kernel
theorem dL_law_1283 : decode cL_law 1283 = .ok (.iload_n 3, 1) := by decide +kernel
theorem dL_law_1284 : decode cL_law 1284 = .ok (.iconst 5, 1) := by decide +kernel
theorem dL_law_1285 : decode cL_law 1285 = .ok (.iadd, 1) := by decide +kernel
theorem dL_law_1286 : decode cL_law 1286 = .ok (.iaload, 1) := by decide +kernel
theorem dL_law_1287 : decode cL_law 1287 = .ok (.invokevirtual 190, 3) := by decide +kernel
theorem dL_law_1290 : decode cL_law 1290 = .ok (.aload_n 2, 1) := by decide +kernel
theorem dL_law_1291 : decode cL_law 1291 = .ok (.aload_n 0, 1) := by decide +kernel
theorem dL_law_1292 : decode cL_law 1292 = .ok (.iload_n 3, 1) := by decide +kernel
theorem dL_law_1293 : decode cL_law 1293 = .ok (.iconst 1, 1) := by decide +kernel
theorem dL_law_1294 : decode cL_law 1294 = .ok (.iadd, 1) := by decide +kernel
theorem dL_law_1295 : decode cL_law 1295 = .ok (.iaload, 1) := by decide +kernel
theorem dL_law_1296 : decode cL_law 1296 = .ok (.aload_n 0, 1) := by decide +kernel
theorem dL_law_1297 : decode cL_law 1297 = .ok (.iload_n 3, 1) := by decide +kernel
theorem dL_law_1298 : decode cL_law 1298 = .ok (.iconst 2, 1) := by decide +kernel
theorem dL_law_1299 : decode cL_law 1299 = .ok (.iadd, 1) := by decide +kernel
theorem dL_law_1300 : decode cL_law 1300 = .ok (.iaload, 1) := by decide +kernel
theorem dL_law_1301 : decode cL_law 1301 = .ok (.aload_n 0, 1) := by decide +kernel
theorem dL_law_1302 : decode cL_law 1302 = .ok (.iload_n 3, 1) := by decide +kernel
theorem dL_law_1303 : decode cL_law 1303 = .ok (.iconst 3, 1) := by decide +kernel
theorem dL_law_1304 : decode cL_law 1304 = .ok (.iadd, 1) := by decide +kernel
theorem dL_law_1305 : decode cL_law 1305 = .ok (.iaload, 1) := by decide +kernel
theorem dL_law_1306 : decode cL_law 1306 = .ok (.aload_n 0, 1) := by decide +kernel
theorem dL_law_1307 : decode cL_law 1307 = .ok (.iload_n 3, 1) := by decide +kernel
theorem dL_law_1308 : decode cL_law 1308 = .ok (.iconst 4, 1) := by decide +kernel
theorem dL_law_1309 : decode cL_law 1309 = .ok (.iadd, 1) := by decide +kernel
theorem dL_law_1310 : decode cL_law 1310 = .ok (.iaload, 1) := by decide +kernel
theorem dL_law_1311 : decode cL_law 1311 = .ok (.aload_n 0, 1) := by decide +kernel
theorem dL_law_1312 : decode cL_law 1312 = .ok (.iload_n 3, 1) := by decide +kernel
theorem dL_law_1313 : decode cL_law 1313 = .ok (.iconst 5, 1) := by decide +kernel
theorem dL_law_1314 : decode cL_law 1314 = .ok (.iadd, 1) := by decide +kernel
theorem dL_law_1315 : decode cL_law 1315 = .ok (.iaload, 1) := by decide +kernel
theorem dL_law_1316 : decode cL_law 1316 = .ok (.invokevirtual 194, 3) := by decide +kernel
theorem dL_law_1319 : decode cL_law 1319 = .ok (.if_icmp .eq 54, 3) := by decide +kernel
theorem dL_law_1322 : decode cL_law 1322 = .ok (.iconst 0, 1) := by decide +kernel
theorem dL_law_1323 : decode cL_law 1323 = .ok (.ireturn, 1) := by decide +kernel
theorem dL_law_1324 : decode cL_law 1324 = .ok (.aload_n 1, 1) := by decide +kernel
theorem dL_law_1325 : decode cL_law 1325 = .ok (.aload_n 0, 1) := by decide +kernel
theorem dL_law_1326 : decode cL_law 1326 = .ok (.iload_n 3, 1) := by decide +kernel
theorem dL_law_1327 : decode cL_law 1327 = .ok (.iconst 1, 1) := by decide +kernel
theorem dL_law_1328 : decode cL_law 1328 = .ok (.iadd, 1) := by decide +kernel
theorem dL_law_1329 : decode cL_law 1329 = .ok (.iaload, 1) := by decide +kernel
theorem dL_law_1330 : decode cL_law 1330 = .ok (.invokevirtual 195, 3) := by decide +kernel
theorem dL_law_1333 : decode cL_law 1333 = .ok (.aload_n 2, 1) := by decide +kernel
theorem dL_law_1334 : decode cL_law 1334 = .ok (.aload_n 0, 1) := by decide +kernel
theorem dL_law_1335 : decode cL_law 1335 = .ok (.iload_n 3, 1) := by decide +kernel
theorem dL_law_1336 : decode cL_law 1336 = .ok (.iconst 1, 1) := by decide +kernel
theorem dL_law_1337 : decode cL_law 1337 = .ok (.iadd, 1) := by decide +kernel
theorem dL_law_1338 : decode cL_law 1338 = .ok (.iaload, 1) := by decide +kernel
theorem dL_law_1339 : decode cL_law 1339 = .ok (.invokevirtual 198, 3) := by decide +kernel
theorem dL_law_1342 : decode cL_law 1342 = .ok (.if_icmp .eq 31, 3) := by decide +kernel
theorem dL_law_1345 : decode cL_law 1345 = .ok (.iconst 0, 1) := by decide +kernel
theorem dL_law_1346 : decode cL_law 1346 = .ok (.ireturn, 1) := by decide +kernel
theorem dL_law_1347 : decode cL_law 1347 = .ok (.aload_n 1, 1) := by decide +kernel
theorem dL_law_1348 : decode cL_law 1348 = .ok (.invokevirtual 199, 3) := by decide +kernel
theorem dL_law_1351 : decode cL_law 1351 = .ok (.aload_n 2, 1) := by decide +kernel
theorem dL_law_1352 : decode cL_law 1352 = .ok (.invokevirtual 202, 3) := by decide +kernel
theorem dL_law_1355 : decode cL_law 1355 = .ok (.if_icmp .eq 18, 3) := by decide +kernel
theorem dL_law_1358 : decode cL_law 1358 = .ok (.iconst 0, 1) := by decide +kernel
theorem dL_law_1359 : decode cL_law 1359 = .ok (.ireturn, 1) := by decide +kernel
theorem dL_law_1360 : decode cL_law 1360 = .ok (.aload_n 1, 1) := by decide +kernel
theorem dL_law_1361 : decode cL_law 1361 = .ok (.invokevirtual 203, 3) := by decide +kernel
theorem dL_law_1364 : decode cL_law 1364 = .ok (.aload_n 2, 1) := by decide +kernel
theorem dL_law_1365 : decode cL_law 1365 = .ok (.invokevirtual 206, 3) := by decide +kernel
theorem dL_law_1368 : decode cL_law 1368 = .ok (.if_icmp .eq 5, 3) := by decide +kernel
theorem dL_law_1371 : decode cL_law 1371 = .ok (.iconst 0, 1) := by decide +kernel
theorem dL_law_1372 : decode cL_law 1372 = .ok (.ireturn, 1) := by decide +kernel
theorem dL_law_1373 : decode cL_law 1373 = .ok (.iinc 3 6, 3) := by decide +kernel
theorem dL_law_1376 : decode cL_law 1376 = .ok (.goto (-1358), 3) := by decide +kernel
theorem dL_law_1379 : decode cL_law 1379 = .ok (.iconst 1, 1) := by decide +kernel
theorem dL_law_1380 : decode cL_law 1380 = .ok (.ireturn, 1) := by decide +kernel
