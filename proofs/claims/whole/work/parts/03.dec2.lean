theorem dX8_extended_12 : decode cX8_extended 12 = .ok (.iload_n 2, 1) := by decide +kernel
theorem dX8_extended_13 : decode cX8_extended 13 = .ok (.i2l, 1) := by decide +kernel
theorem dX8_extended_14 : decode cX8_extended 14 = .ok (.lor, 1) := by decide +kernel
theorem dX8_extended_15 : decode cX8_extended 15 = .ok (.invokestatic 23, 3) := by decide +kernel
theorem dX8_extended_18 : decode cX8_extended 18 = .ok (.lreturn, 1) := by decide +kernel
theorem dX8_lettersIn_0 : decode cX8_lettersIn 0 = .ok (.iconst 0, 1) := by decide +kernel
theorem dX8_lettersIn_1 : decode cX8_lettersIn 1 = .ok (.istore_n 2, 1) := by decide +kernel
theorem dX8_lettersIn_2 : decode cX8_lettersIn 2 = .ok (.iconst 0, 1) := by decide +kernel
theorem dX8_lettersIn_3 : decode cX8_lettersIn 3 = .ok (.istore_n 3, 1) := by decide +kernel
theorem dX8_lettersIn_4 : decode cX8_lettersIn 4 = .ok (.iload_n 3, 1) := by decide +kernel
theorem dX8_lettersIn_5 : decode cX8_lettersIn 5 = .ok (.lload_n 0, 1) := by decide +kernel
theorem dX8_lettersIn_6 : decode cX8_lettersIn 6 = .ok (.invokestatic 9, 3) := by decide +kernel
theorem dX8_lettersIn_9 : decode cX8_lettersIn 9 = .ok (.if_icmp .ge 19, 3) := by decide +kernel
theorem dX8_lettersIn_12 : decode cX8_lettersIn 12 = .ok (.iload_n 2, 1) := by decide +kernel
theorem dX8_lettersIn_13 : decode cX8_lettersIn 13 = .ok (.iconst 1, 1) := by decide +kernel
theorem dX8_lettersIn_14 : decode cX8_lettersIn 14 = .ok (.lload_n 0, 1) := by decide +kernel
theorem dX8_lettersIn_15 : decode cX8_lettersIn 15 = .ok (.iload_n 3, 1) := by decide +kernel
theorem dX8_lettersIn_16 : decode cX8_lettersIn 16 = .ok (.invokestatic 27, 3) := by decide +kernel
theorem dX8_lettersIn_19 : decode cX8_lettersIn 19 = .ok (.ishl, 1) := by decide +kernel
theorem dX8_lettersIn_20 : decode cX8_lettersIn 20 = .ok (.ior, 1) := by decide +kernel
theorem dX8_lettersIn_21 : decode cX8_lettersIn 21 = .ok (.istore_n 2, 1) := by decide +kernel
theorem dX8_lettersIn_22 : decode cX8_lettersIn 22 = .ok (.iinc 3 1, 3) := by decide +kernel
theorem dX8_lettersIn_25 : decode cX8_lettersIn 25 = .ok (.goto (-21), 3) := by decide +kernel
theorem dX8_lettersIn_28 : decode cX8_lettersIn 28 = .ok (.iload_n 2, 1) := by decide +kernel
theorem dX8_lettersIn_29 : decode cX8_lettersIn 29 = .ok (.ireturn, 1) := by decide +kernel
theorem dX8_occursAt_0 : decode cX8_occursAt 0 = .ok (.lload_n 2, 1) := by decide +kernel
theorem dX8_occursAt_1 : decode cX8_occursAt 1 = .ok (.invokestatic 9, 3) := by decide +kernel
theorem dX8_occursAt_4 : decode cX8_occursAt 4 = .ok (.lload_n 0, 1) := by decide +kernel
theorem dX8_occursAt_5 : decode cX8_occursAt 5 = .ok (.invokestatic 9, 3) := by decide +kernel
theorem dX8_occursAt_8 : decode cX8_occursAt 8 = .ok (.isub, 1) := by decide +kernel
theorem dX8_occursAt_9 : decode cX8_occursAt 9 = .ok (.iload 4, 2) := by decide +kernel
theorem dX8_occursAt_11 : decode cX8_occursAt 11 = .ok (.isub, 1) := by decide +kernel
theorem dX8_occursAt_12 : decode cX8_occursAt 12 = .ok (.istore 5, 2) := by decide +kernel
theorem dX8_occursAt_14 : decode cX8_occursAt 14 = .ok (.iload 4, 2) := by decide +kernel
theorem dX8_occursAt_16 : decode cX8_occursAt 16 = .ok (.ifCond .lt 15, 3) := by decide +kernel
theorem dX8_occursAt_19 : decode cX8_occursAt 19 = .ok (.iload 4, 2) := by decide +kernel
theorem dX8_occursAt_21 : decode cX8_occursAt 21 = .ok (.bipush 12, 2) := by decide +kernel
theorem dX8_occursAt_23 : decode cX8_occursAt 23 = .ok (.if_icmp .gt 8, 3) := by decide +kernel
theorem dX8_occursAt_26 : decode cX8_occursAt 26 = .ok (.iload 5, 2) := by decide +kernel
theorem dX8_occursAt_28 : decode cX8_occursAt 28 = .ok (.ifCond .ge 5, 3) := by decide +kernel
theorem dX8_occursAt_31 : decode cX8_occursAt 31 = .ok (.iconst 0, 1) := by decide +kernel
theorem dX8_occursAt_32 : decode cX8_occursAt 32 = .ok (.ireturn, 1) := by decide +kernel
theorem dX8_occursAt_33 : decode cX8_occursAt 33 = .ok (.lload_n 2, 1) := by decide +kernel
theorem dX8_occursAt_34 : decode cX8_occursAt 34 = .ok (.invokestatic 19, 3) := by decide +kernel
theorem dX8_occursAt_37 : decode cX8_occursAt 37 = .ok (.iconst 3, 1) := by decide +kernel
theorem dX8_occursAt_38 : decode cX8_occursAt 38 = .ok (.iload 5, 2) := by decide +kernel
theorem dX8_occursAt_40 : decode cX8_occursAt 40 = .ok (.imul, 1) := by decide +kernel
theorem dX8_occursAt_41 : decode cX8_occursAt 41 = .ok (.lushr, 1) := by decide +kernel
theorem dX8_occursAt_42 : decode cX8_occursAt 42 = .ok (.lload_n 0, 1) := by decide +kernel
theorem dX8_occursAt_43 : decode cX8_occursAt 43 = .ok (.invokestatic 9, 3) := by decide +kernel
theorem dX8_occursAt_46 : decode cX8_occursAt 46 = .ok (.invokestatic 15, 3) := by decide +kernel
theorem dX8_occursAt_49 : decode cX8_occursAt 49 = .ok (.lload_n 0, 1) := by decide +kernel
theorem dX8_occursAt_50 : decode cX8_occursAt 50 = .ok (.invokestatic 19, 3) := by decide +kernel
theorem dX8_occursAt_53 : decode cX8_occursAt 53 = .ok (.lcmp, 1) := by decide +kernel
theorem dX8_occursAt_54 : decode cX8_occursAt 54 = .ok (.ifCond .ne 7, 3) := by decide +kernel
theorem dX8_occursAt_57 : decode cX8_occursAt 57 = .ok (.iconst 1, 1) := by decide +kernel
theorem dX8_occursAt_58 : decode cX8_occursAt 58 = .ok (.goto 4, 3) := by decide +kernel
theorem dX8_occursAt_61 : decode cX8_occursAt 61 = .ok (.iconst 0, 1) := by decide +kernel
theorem dX8_occursAt_62 : decode cX8_occursAt 62 = .ok (.ireturn, 1) := by decide +kernel
theorem dX8_occurs_0 : decode cX8_occurs 0 = .ok (.iconst 0, 1) := by decide +kernel
theorem dX8_occurs_1 : decode cX8_occurs 1 = .ok (.istore 4, 2) := by decide +kernel
theorem dX8_occurs_3 : decode cX8_occurs 3 = .ok (.iload 4, 2) := by decide +kernel
theorem dX8_occurs_5 : decode cX8_occurs 5 = .ok (.bipush 12, 2) := by decide +kernel
theorem dX8_occurs_7 : decode cX8_occurs 7 = .ok (.if_icmp .ge 21, 3) := by decide +kernel
theorem dX8_occurs_10 : decode cX8_occurs 10 = .ok (.lload_n 0, 1) := by decide +kernel
theorem dX8_occurs_11 : decode cX8_occurs 11 = .ok (.lload_n 2, 1) := by decide +kernel
theorem dX8_occurs_12 : decode cX8_occurs 12 = .ok (.iload 4, 2) := by decide +kernel
theorem dX8_occurs_14 : decode cX8_occurs 14 = .ok (.invokestatic 31, 3) := by decide +kernel
theorem dX8_occurs_17 : decode cX8_occurs 17 = .ok (.ifCond .eq 5, 3) := by decide +kernel
theorem dX8_occurs_20 : decode cX8_occurs 20 = .ok (.iconst 1, 1) := by decide +kernel
theorem dX8_occurs_21 : decode cX8_occurs 21 = .ok (.ireturn, 1) := by decide +kernel
theorem dX8_occurs_22 : decode cX8_occurs 22 = .ok (.iinc 4 1, 3) := by decide +kernel
theorem dX8_occurs_25 : decode cX8_occurs 25 = .ok (.goto (-22), 3) := by decide +kernel
theorem dX8_occurs_28 : decode cX8_occurs 28 = .ok (.iconst 0, 1) := by decide +kernel
theorem dX8_occurs_29 : decode cX8_occurs 29 = .ok (.ireturn, 1) := by decide +kernel
theorem dX8_replaced_0 : decode cX8_replaced 0 = .ok (.lload_n 0, 1) := by decide +kernel
theorem dX8_replaced_1 : decode cX8_replaced 1 = .ok (.invokestatic 9, 3) := by decide +kernel
theorem dX8_replaced_4 : decode cX8_replaced 4 = .ok (.lload_n 3, 1) := by decide +kernel
theorem dX8_replaced_5 : decode cX8_replaced 5 = .ok (.invokestatic 9, 3) := by decide +kernel
theorem dX8_replaced_8 : decode cX8_replaced 8 = .ok (.isub, 1) := by decide +kernel
theorem dX8_replaced_9 : decode cX8_replaced 9 = .ok (.iload_n 2, 1) := by decide +kernel
theorem dX8_replaced_10 : decode cX8_replaced 10 = .ok (.isub, 1) := by decide +kernel
theorem dX8_replaced_11 : decode cX8_replaced 11 = .ok (.istore 7, 2) := by decide +kernel
theorem dX8_replaced_13 : decode cX8_replaced 13 = .ok (.iload_n 2, 1) := by decide +kernel
theorem dX8_replaced_14 : decode cX8_replaced 14 = .ok (.lload 5, 2) := by decide +kernel
theorem dX8_replaced_16 : decode cX8_replaced 16 = .ok (.invokestatic 9, 3) := by decide +kernel
theorem dX8_replaced_19 : decode cX8_replaced 19 = .ok (.iadd, 1) := by decide +kernel
theorem dX8_replaced_20 : decode cX8_replaced 20 = .ok (.iload 7, 2) := by decide +kernel
theorem dX8_replaced_22 : decode cX8_replaced 22 = .ok (.iadd, 1) := by decide +kernel
theorem dX8_replaced_23 : decode cX8_replaced 23 = .ok (.istore 8, 2) := by decide +kernel
theorem dX8_replaced_25 : decode cX8_replaced 25 = .ok (.iload 8, 2) := by decide +kernel
theorem dX8_replaced_27 : decode cX8_replaced 27 = .ok (.bipush 12, 2) := by decide +kernel
theorem dX8_replaced_29 : decode cX8_replaced 29 = .ok (.if_icmp .le 7, 3) := by decide +kernel
theorem dX8_replaced_32 : decode cX8_replaced 32 = .ok (.ldc2_w 35, 3) := by decide +kernel
theorem dX8_replaced_35 : decode cX8_replaced 35 = .ok (.lreturn, 1) := by decide +kernel
theorem dX8_replaced_36 : decode cX8_replaced 36 = .ok (.lload_n 0, 1) := by decide +kernel
theorem dX8_replaced_37 : decode cX8_replaced 37 = .ok (.invokestatic 19, 3) := by decide +kernel
theorem dX8_replaced_40 : decode cX8_replaced 40 = .ok (.lstore 9, 2) := by decide +kernel
theorem dX8_replaced_42 : decode cX8_replaced 42 = .ok (.lload 9, 2) := by decide +kernel
theorem dX8_replaced_44 : decode cX8_replaced 44 = .ok (.iconst 3, 1) := by decide +kernel
theorem dX8_replaced_45 : decode cX8_replaced 45 = .ok (.lload_n 0, 1) := by decide +kernel
theorem dX8_replaced_46 : decode cX8_replaced 46 = .ok (.invokestatic 9, 3) := by decide +kernel
theorem dX8_replaced_49 : decode cX8_replaced 49 = .ok (.iload_n 2, 1) := by decide +kernel
theorem dX8_replaced_50 : decode cX8_replaced 50 = .ok (.isub, 1) := by decide +kernel
theorem dX8_replaced_51 : decode cX8_replaced 51 = .ok (.imul, 1) := by decide +kernel
theorem dX8_replaced_52 : decode cX8_replaced 52 = .ok (.lushr, 1) := by decide +kernel
theorem dX8_replaced_53 : decode cX8_replaced 53 = .ok (.lstore 11, 2) := by decide +kernel
theorem dX8_replaced_55 : decode cX8_replaced 55 = .ok (.lload 11, 2) := by decide +kernel
theorem dX8_replaced_57 : decode cX8_replaced 57 = .ok (.iconst 3, 1) := by decide +kernel
theorem dX8_replaced_58 : decode cX8_replaced 58 = .ok (.lload 5, 2) := by decide +kernel
theorem dX8_replaced_60 : decode cX8_replaced 60 = .ok (.invokestatic 9, 3) := by decide +kernel
theorem dX8_replaced_63 : decode cX8_replaced 63 = .ok (.imul, 1) := by decide +kernel
theorem dX8_replaced_64 : decode cX8_replaced 64 = .ok (.lshl, 1) := by decide +kernel
theorem dX8_replaced_65 : decode cX8_replaced 65 = .ok (.lload 5, 2) := by decide +kernel
theorem dX8_replaced_67 : decode cX8_replaced 67 = .ok (.invokestatic 19, 3) := by decide +kernel
theorem dX8_replaced_70 : decode cX8_replaced 70 = .ok (.lor, 1) := by decide +kernel
theorem dX8_replaced_71 : decode cX8_replaced 71 = .ok (.lstore 13, 2) := by decide +kernel
theorem dX8_replaced_73 : decode cX8_replaced 73 = .ok (.iload 8, 2) := by decide +kernel
theorem dX8_replaced_75 : decode cX8_replaced 75 = .ok (.lload 13, 2) := by decide +kernel
theorem dX8_replaced_77 : decode cX8_replaced 77 = .ok (.iconst 3, 1) := by decide +kernel
theorem dX8_replaced_78 : decode cX8_replaced 78 = .ok (.iload 7, 2) := by decide +kernel
theorem dX8_replaced_80 : decode cX8_replaced 80 = .ok (.imul, 1) := by decide +kernel
theorem dX8_replaced_81 : decode cX8_replaced 81 = .ok (.lshl, 1) := by decide +kernel
theorem dX8_replaced_82 : decode cX8_replaced 82 = .ok (.lload 9, 2) := by decide +kernel
theorem dX8_replaced_84 : decode cX8_replaced 84 = .ok (.iload 7, 2) := by decide +kernel
theorem dX8_replaced_86 : decode cX8_replaced 86 = .ok (.invokestatic 15, 3) := by decide +kernel
theorem dX8_replaced_89 : decode cX8_replaced 89 = .ok (.lor, 1) := by decide +kernel
theorem dX8_replaced_90 : decode cX8_replaced 90 = .ok (.invokestatic 23, 3) := by decide +kernel
theorem dX8_replaced_93 : decode cX8_replaced 93 = .ok (.lreturn, 1) := by decide +kernel
theorem dX9_init_0 : decode cX9_init 0 = .ok (.aload_n 0, 1) := by decide +kernel
theorem dX9_init_1 : decode cX9_init 1 = .ok (.invokespecial 5, 3) := by decide +kernel
theorem dX9_init_4 : decode cX9_init 4 = .ok (.aload_n 0, 1) := by decide +kernel
theorem dX9_init_5 : decode cX9_init 5 = .ok (.new 11, 3) := by decide +kernel
theorem dX9_init_8 : decode cX9_init 8 = .ok (.dup, 1) := by decide +kernel
theorem dX9_init_9 : decode cX9_init 9 = .ok (.invokespecial 13, 3) := by decide +kernel
theorem dX9_init_12 : decode cX9_init 12 = .ok (.putfield 14, 3) := by decide +kernel
theorem dX9_init_15 : decode cX9_init 15 = .ok (.aload_n 0, 1) := by decide +kernel
theorem dX9_init_16 : decode cX9_init 16 = .ok (.new 11, 3) := by decide +kernel
theorem dX9_init_19 : decode cX9_init 19 = .ok (.dup, 1) := by decide +kernel
theorem dX9_init_20 : decode cX9_init 20 = .ok (.invokespecial 13, 3) := by decide +kernel
theorem dX9_init_23 : decode cX9_init 23 = .ok (.putfield 18, 3) := by decide +kernel
theorem dX9_init_26 : decode cX9_init 26 = .ok (.aload_n 0, 1) := by decide +kernel
theorem dX9_init_27 : decode cX9_init 27 = .ok (.iconst 0, 1) := by decide +kernel
theorem dX9_init_28 : decode cX9_init 28 = .ok (.putfield 21, 3) := by decide +kernel
theorem dX9_init_31 : decode cX9_init 31 = .ok (.aload_n 0, 1) := by decide +kernel
theorem dX9_init_32 : decode cX9_init 32 = .ok (.new 25, 3) := by decide +kernel
theorem dX9_init_35 : decode cX9_init 35 = .ok (.dup, 1) := by decide +kernel
theorem dX9_init_36 : decode cX9_init 36 = .ok (.invokespecial 27, 3) := by decide +kernel
theorem dX9_init_39 : decode cX9_init 39 = .ok (.putfield 28, 3) := by decide +kernel
theorem dX9_init_42 : decode cX9_init 42 = .ok (.aload_n 0, 1) := by decide +kernel
theorem dX9_init_43 : decode cX9_init 43 = .ok (.new 32, 3) := by decide +kernel
theorem dX9_init_46 : decode cX9_init 46 = .ok (.dup, 1) := by decide +kernel
theorem dX9_init_47 : decode cX9_init 47 = .ok (.invokespecial 34, 3) := by decide +kernel
theorem dX9_init_50 : decode cX9_init 50 = .ok (.putfield 35, 3) := by decide +kernel
theorem dX9_init_53 : decode cX9_init 53 = .ok (.aload_n 0, 1) := by decide +kernel
theorem dX9_init_54 : decode cX9_init 54 = .ok (.new 39, 3) := by decide +kernel
theorem dX9_init_57 : decode cX9_init 57 = .ok (.dup, 1) := by decide +kernel
theorem dX9_init_58 : decode cX9_init 58 = .ok (.invokespecial 41, 3) := by decide +kernel
theorem dX9_init_61 : decode cX9_init 61 = .ok (.putfield 42, 3) := by decide +kernel
theorem dX9_init_64 : decode cX9_init 64 = .ok (.aload_n 0, 1) := by decide +kernel
theorem dX9_init_65 : decode cX9_init 65 = .ok (.new 46, 3) := by decide +kernel
theorem dX9_init_68 : decode cX9_init 68 = .ok (.dup, 1) := by decide +kernel
theorem dX9_init_69 : decode cX9_init 69 = .ok (.invokespecial 48, 3) := by decide +kernel
theorem dX9_init_72 : decode cX9_init 72 = .ok (.putfield 49, 3) := by decide +kernel
theorem dX9_init_75 : decode cX9_init 75 = .ok (.aload_n 0, 1) := by decide +kernel
theorem dX9_init_76 : decode cX9_init 76 = .ok (.new 53, 3) := by decide +kernel
theorem dX9_init_79 : decode cX9_init 79 = .ok (.dup, 1) := by decide +kernel
theorem dX9_init_80 : decode cX9_init 80 = .ok (.invokespecial 55, 3) := by decide +kernel
theorem dX9_init_83 : decode cX9_init 83 = .ok (.putfield 56, 3) := by decide +kernel
theorem dX9_init_86 : decode cX9_init 86 = .ok (.aload_n 0, 1) := by decide +kernel
theorem dX9_init_87 : decode cX9_init 87 = .ok (.bipush 8, 2) := by decide +kernel
theorem dX9_init_89 : decode cX9_init 89 = .ok (.newarray .int, 2) := by decide +kernel
theorem dX9_init_91 : decode cX9_init 91 = .ok (.putfield 60, 3) := by decide +kernel
theorem dX9_init_94 : decode cX9_init 94 = .ok (.aload_n 0, 1) := by decide +kernel
theorem dX9_init_95 : decode cX9_init 95 = .ok (.iconst 4, 1) := by decide +kernel
theorem dX9_init_96 : decode cX9_init 96 = .ok (.anewarray 64, 3) := by decide +kernel
theorem dX9_init_99 : decode cX9_init 99 = .ok (.putfield 66, 3) := by decide +kernel
theorem dX9_init_102 : decode cX9_init 102 = .ok (.iconst 0, 1) := by decide +kernel
theorem dX9_init_103 : decode cX9_init 103 = .ok (.istore_n 1, 1) := by decide +kernel
theorem dX9_init_104 : decode cX9_init 104 = .ok (.iload_n 1, 1) := by decide +kernel
theorem dX9_init_105 : decode cX9_init 105 = .ok (.iconst 4, 1) := by decide +kernel
theorem dX9_init_106 : decode cX9_init 106 = .ok (.if_icmp .ge 22, 3) := by decide +kernel
theorem dX9_init_109 : decode cX9_init 109 = .ok (.aload_n 0, 1) := by decide +kernel
theorem dX9_init_110 : decode cX9_init 110 = .ok (.getfield 66, 3) := by decide +kernel
theorem dX9_init_113 : decode cX9_init 113 = .ok (.iload_n 1, 1) := by decide +kernel
theorem dX9_init_114 : decode cX9_init 114 = .ok (.new 64, 3) := by decide +kernel
theorem dX9_init_117 : decode cX9_init 117 = .ok (.dup, 1) := by decide +kernel
theorem dX9_init_118 : decode cX9_init 118 = .ok (.invokespecial 70, 3) := by decide +kernel
theorem dX9_init_121 : decode cX9_init 121 = .ok (.aastore, 1) := by decide +kernel
theorem dX9_init_122 : decode cX9_init 122 = .ok (.iinc 1 1, 3) := by decide +kernel
theorem dX9_init_125 : decode cX9_init 125 = .ok (.goto (-21), 3) := by decide +kernel
theorem dX9_init_128 : decode cX9_init 128 = .ok (.return_, 1) := by decide +kernel
theorem dX9_reset_0 : decode cX9_reset 0 = .ok (.iload_n 1, 1) := by decide +kernel
theorem dX9_reset_1 : decode cX9_reset 1 = .ok (.iconst 1, 1) := by decide +kernel
theorem dX9_reset_2 : decode cX9_reset 2 = .ok (.if_icmp .lt 9, 3) := by decide +kernel
theorem dX9_reset_5 : decode cX9_reset 5 = .ok (.iload_n 1, 1) := by decide +kernel
theorem dX9_reset_6 : decode cX9_reset 6 = .ok (.bipush 6, 2) := by decide +kernel
theorem dX9_reset_8 : decode cX9_reset 8 = .ok (.if_icmp .le 5, 3) := by decide +kernel
theorem dX9_reset_11 : decode cX9_reset 11 = .ok (.iconst (-1), 1) := by decide +kernel
theorem dX9_reset_12 : decode cX9_reset 12 = .ok (.ireturn, 1) := by decide +kernel
theorem dX9_reset_13 : decode cX9_reset 13 = .ok (.aload_n 0, 1) := by decide +kernel
theorem dX9_reset_14 : decode cX9_reset 14 = .ok (.getfield 14, 3) := by decide +kernel
theorem dX9_reset_17 : decode cX9_reset 17 = .ok (.getfield 71, 3) := by decide +kernel
theorem dX9_reset_20 : decode cX9_reset 20 = .ok (.istore_n 2, 1) := by decide +kernel
theorem dX9_reset_21 : decode cX9_reset 21 = .ok (.aload_n 0, 1) := by decide +kernel
theorem dX9_reset_22 : decode cX9_reset 22 = .ok (.getfield 14, 3) := by decide +kernel
theorem dX9_reset_25 : decode cX9_reset 25 = .ok (.iload_n 1, 1) := by decide +kernel
theorem dX9_reset_26 : decode cX9_reset 26 = .ok (.invokevirtual 75, 3) := by decide +kernel
theorem dX9_reset_29 : decode cX9_reset 29 = .ok (.aload_n 0, 1) := by decide +kernel
theorem dX9_reset_30 : decode cX9_reset 30 = .ok (.getfield 35, 3) := by decide +kernel
theorem dX9_reset_33 : decode cX9_reset 33 = .ok (.iconst 0, 1) := by decide +kernel
theorem dX9_reset_34 : decode cX9_reset 34 = .ok (.putfield 79, 3) := by decide +kernel
theorem dX9_reset_37 : decode cX9_reset 37 = .ok (.iload_n 2, 1) := by decide +kernel
theorem dX9_reset_38 : decode cX9_reset 38 = .ok (.ireturn, 1) := by decide +kernel
theorem dX9_letters_0 : decode cX9_letters 0 = .ok (.aload_n 0, 1) := by decide +kernel
theorem dX9_letters_1 : decode cX9_letters 1 = .ok (.getfield 14, 3) := by decide +kernel
theorem dX9_letters_4 : decode cX9_letters 4 = .ok (.getfield 71, 3) := by decide +kernel
theorem dX9_letters_7 : decode cX9_letters 7 = .ok (.ireturn, 1) := by decide +kernel
theorem dX9_append_0 : decode cX9_append 0 = .ok (.iload_n 1, 1) := by decide +kernel
theorem dX9_append_1 : decode cX9_append 1 = .ok (.ifCond .lt 20, 3) := by decide +kernel
theorem dX9_append_4 : decode cX9_append 4 = .ok (.iload_n 1, 1) := by decide +kernel
theorem dX9_append_5 : decode cX9_append 5 = .ok (.bipush 127, 2) := by decide +kernel
theorem dX9_append_7 : decode cX9_append 7 = .ok (.if_icmp .gt 14, 3) := by decide +kernel
theorem dX9_append_10 : decode cX9_append 10 = .ok (.iload_n 2, 1) := by decide +kernel
theorem dX9_append_11 : decode cX9_append 11 = .ok (.iconst 1, 1) := by decide +kernel
theorem dX9_append_12 : decode cX9_append 12 = .ok (.if_icmp .lt 9, 3) := by decide +kernel
theorem dX9_append_15 : decode cX9_append 15 = .ok (.iload_n 2, 1) := by decide +kernel
theorem dX9_append_16 : decode cX9_append 16 = .ok (.bipush 40, 2) := by decide +kernel
theorem dX9_append_18 : decode cX9_append 18 = .ok (.if_icmp .le 5, 3) := by decide +kernel
theorem dX9_append_21 : decode cX9_append 21 = .ok (.iconst (-1), 1) := by decide +kernel
theorem dX9_append_22 : decode cX9_append 22 = .ok (.ireturn, 1) := by decide +kernel
theorem dX9_append_23 : decode cX9_append 23 = .ok (.aload_n 0, 1) := by decide +kernel
theorem dX9_append_24 : decode cX9_append 24 = .ok (.getfield 28, 3) := by decide +kernel
theorem dX9_append_27 : decode cX9_append 27 = .ok (.iload_n 1, 1) := by decide +kernel
theorem dX9_append_28 : decode cX9_append 28 = .ok (.iload_n 2, 1) := by decide +kernel
theorem dX9_append_29 : decode cX9_append 29 = .ok (.invokevirtual 82, 3) := by decide +kernel
theorem dX9_append_32 : decode cX9_append 32 = .ok (.ifCond .eq 13, 3) := by decide +kernel
theorem dX9_append_35 : decode cX9_append 35 = .ok (.aload_n 0, 1) := by decide +kernel
theorem dX9_append_36 : decode cX9_append 36 = .ok (.getfield 28, 3) := by decide +kernel
theorem dX9_append_39 : decode cX9_append 39 = .ok (.getfield 86, 3) := by decide +kernel
theorem dX9_append_42 : decode cX9_append 42 = .ok (.goto 5, 3) := by decide +kernel
theorem dX9_append_45 : decode cX9_append 45 = .ok (.bipush (-4), 2) := by decide +kernel
theorem dX9_append_47 : decode cX9_append 47 = .ok (.ireturn, 1) := by decide +kernel
theorem dX9_clearInput_0 : decode cX9_clearInput 0 = .ok (.aload_n 0, 1) := by decide +kernel
theorem dX9_clearInput_1 : decode cX9_clearInput 1 = .ok (.getfield 28, 3) := by decide +kernel
theorem dX9_clearInput_4 : decode cX9_clearInput 4 = .ok (.invokevirtual 89, 3) := by decide +kernel
theorem dX9_clearInput_7 : decode cX9_clearInput 7 = .ok (.ireturn, 1) := by decide +kernel
theorem dX9_addRule_0 : decode cX9_addRule 0 = .ok (.aload_n 0, 1) := by decide +kernel
theorem dX9_addRule_1 : decode cX9_addRule 1 = .ok (.getfield 28, 3) := by decide +kernel
theorem dX9_addRule_4 : decode cX9_addRule 4 = .ok (.invokevirtual 89, 3) := by decide +kernel
theorem dX9_addRule_7 : decode cX9_addRule 7 = .ok (.istore_n 1, 1) := by decide +kernel
theorem dX9_addRule_8 : decode cX9_addRule 8 = .ok (.aload_n 0, 1) := by decide +kernel
theorem dX9_addRule_9 : decode cX9_addRule 9 = .ok (.getfield 14, 3) := by decide +kernel
theorem dX9_addRule_12 : decode cX9_addRule 12 = .ok (.getfield 93, 3) := by decide +kernel
theorem dX9_addRule_15 : decode cX9_addRule 15 = .ok (.bipush 8, 2) := by decide +kernel
theorem dX9_addRule_17 : decode cX9_addRule 17 = .ok (.if_icmp .lt 6, 3) := by decide +kernel
theorem dX9_addRule_20 : decode cX9_addRule 20 = .ok (.bipush (-4), 2) := by decide +kernel
theorem dX9_addRule_22 : decode cX9_addRule 22 = .ok (.ireturn, 1) := by decide +kernel
theorem dX9_addRule_23 : decode cX9_addRule 23 = .ok (.aload_n 0, 1) := by decide +kernel
theorem dX9_addRule_24 : decode cX9_addRule 24 = .ok (.getfield 28, 3) := by decide +kernel
theorem dX9_addRule_27 : decode cX9_addRule 27 = .ok (.bipush 62, 2) := by decide +kernel
theorem dX9_addRule_29 : decode cX9_addRule 29 = .ok (.iload_n 1, 1) := by decide +kernel
theorem dX9_addRule_30 : decode cX9_addRule 30 = .ok (.invokevirtual 96, 3) := by decide +kernel
theorem dX9_addRule_33 : decode cX9_addRule 33 = .ok (.istore_n 2, 1) := by decide +kernel
theorem dX9_addRule_34 : decode cX9_addRule 34 = .ok (.iload_n 2, 1) := by decide +kernel
theorem dX9_addRule_35 : decode cX9_addRule 35 = .ok (.iconst 1, 1) := by decide +kernel
theorem dX9_addRule_36 : decode cX9_addRule 36 = .ok (.if_icmp .ge 6, 3) := by decide +kernel
theorem dX9_addRule_39 : decode cX9_addRule 39 = .ok (.bipush (-5), 2) := by decide +kernel
theorem dX9_addRule_41 : decode cX9_addRule 41 = .ok (.ireturn, 1) := by decide +kernel
theorem dX9_addRule_42 : decode cX9_addRule 42 = .ok (.aload_n 0, 1) := by decide +kernel
theorem dX9_addRule_43 : decode cX9_addRule 43 = .ok (.getfield 28, 3) := by decide +kernel
theorem dX9_addRule_46 : decode cX9_addRule 46 = .ok (.iconst 0, 1) := by decide +kernel
theorem dX9_addRule_47 : decode cX9_addRule 47 = .ok (.iload_n 2, 1) := by decide +kernel
theorem dX9_addRule_48 : decode cX9_addRule 48 = .ok (.bipush 6, 2) := by decide +kernel
theorem dX9_addRule_50 : decode cX9_addRule 50 = .ok (.aload_n 0, 1) := by decide +kernel
theorem dX9_addRule_51 : decode cX9_addRule 51 = .ok (.getfield 14, 3) := by decide +kernel
theorem dX9_addRule_54 : decode cX9_addRule 54 = .ok (.getfield 71, 3) := by decide +kernel
theorem dX9_addRule_57 : decode cX9_addRule 57 = .ok (.invokevirtual 100, 3) := by decide +kernel
theorem dX9_addRule_60 : decode cX9_addRule 60 = .ok (.lstore_n 3, 1) := by decide +kernel
theorem dX9_addRule_61 : decode cX9_addRule 61 = .ok (.aload_n 0, 1) := by decide +kernel
theorem dX9_addRule_62 : decode cX9_addRule 62 = .ok (.getfield 28, 3) := by decide +kernel
theorem dX9_addRule_65 : decode cX9_addRule 65 = .ok (.iload_n 2, 1) := by decide +kernel
theorem dX9_addRule_66 : decode cX9_addRule 66 = .ok (.iconst 1, 1) := by decide +kernel
theorem dX9_addRule_67 : decode cX9_addRule 67 = .ok (.iadd, 1) := by decide +kernel
theorem dX9_addRule_68 : decode cX9_addRule 68 = .ok (.iload_n 1, 1) := by decide +kernel
theorem dX9_addRule_69 : decode cX9_addRule 69 = .ok (.bipush 6, 2) := by decide +kernel
theorem dX9_addRule_71 : decode cX9_addRule 71 = .ok (.aload_n 0, 1) := by decide +kernel
theorem dX9_addRule_72 : decode cX9_addRule 72 = .ok (.getfield 14, 3) := by decide +kernel
theorem dX9_addRule_75 : decode cX9_addRule 75 = .ok (.getfield 71, 3) := by decide +kernel
theorem dX9_addRule_78 : decode cX9_addRule 78 = .ok (.invokevirtual 100, 3) := by decide +kernel
theorem dX9_addRule_81 : decode cX9_addRule 81 = .ok (.lstore 5, 2) := by decide +kernel
theorem dX9_addRule_83 : decode cX9_addRule 83 = .ok (.lload_n 3, 1) := by decide +kernel
theorem dX9_addRule_84 : decode cX9_addRule 84 = .ok (.ldc2_w 104, 3) := by decide +kernel
theorem dX9_addRule_87 : decode cX9_addRule 87 = .ok (.lcmp, 1) := by decide +kernel
theorem dX9_addRule_88 : decode cX9_addRule 88 = .ok (.ifCond .eq 12, 3) := by decide +kernel
theorem dX9_addRule_91 : decode cX9_addRule 91 = .ok (.lload 5, 2) := by decide +kernel
theorem dX9_addRule_93 : decode cX9_addRule 93 = .ok (.ldc2_w 104, 3) := by decide +kernel
theorem dX9_addRule_96 : decode cX9_addRule 96 = .ok (.lcmp, 1) := by decide +kernel
theorem dX9_addRule_97 : decode cX9_addRule 97 = .ok (.ifCond .ne 6, 3) := by decide +kernel
theorem dX9_addRule_100 : decode cX9_addRule 100 = .ok (.bipush (-5), 2) := by decide +kernel
theorem dX9_addRule_102 : decode cX9_addRule 102 = .ok (.ireturn, 1) := by decide +kernel
theorem dX9_addRule_103 : decode cX9_addRule 103 = .ok (.aload_n 0, 1) := by decide +kernel
theorem dX9_addRule_104 : decode cX9_addRule 104 = .ok (.getfield 14, 3) := by decide +kernel
theorem dX9_addRule_107 : decode cX9_addRule 107 = .ok (.lload_n 3, 1) := by decide +kernel
theorem dX9_addRule_108 : decode cX9_addRule 108 = .ok (.lload 5, 2) := by decide +kernel
theorem dX9_addRule_110 : decode cX9_addRule 110 = .ok (.invokevirtual 106, 3) := by decide +kernel
theorem dX9_addRule_113 : decode cX9_addRule 113 = .ok (.ireturn, 1) := by decide +kernel
theorem dX9_removeRule_0 : decode cX9_removeRule 0 = .ok (.aload_n 0, 1) := by decide +kernel
theorem dX9_removeRule_1 : decode cX9_removeRule 1 = .ok (.getfield 14, 3) := by decide +kernel
theorem dX9_removeRule_4 : decode cX9_removeRule 4 = .ok (.iload_n 1, 1) := by decide +kernel
theorem dX9_removeRule_5 : decode cX9_removeRule 5 = .ok (.invokevirtual 110, 3) := by decide +kernel
theorem dX9_removeRule_8 : decode cX9_removeRule 8 = .ok (.ifCond .ne 6, 3) := by decide +kernel
theorem dX9_removeRule_11 : decode cX9_removeRule 11 = .ok (.bipush (-3), 2) := by decide +kernel
theorem dX9_removeRule_13 : decode cX9_removeRule 13 = .ok (.ireturn, 1) := by decide +kernel
theorem dX9_removeRule_14 : decode cX9_removeRule 14 = .ok (.aload_n 0, 1) := by decide +kernel
theorem dX9_removeRule_15 : decode cX9_removeRule 15 = .ok (.getfield 14, 3) := by decide +kernel
theorem dX9_removeRule_18 : decode cX9_removeRule 18 = .ok (.iload_n 1, 1) := by decide +kernel
theorem dX9_removeRule_19 : decode cX9_removeRule 19 = .ok (.invokevirtual 114, 3) := by decide +kernel
theorem dX9_removeRule_22 : decode cX9_removeRule 22 = .ok (.aload_n 0, 1) := by decide +kernel
theorem dX9_removeRule_23 : decode cX9_removeRule 23 = .ok (.getfield 35, 3) := by decide +kernel
theorem dX9_removeRule_26 : decode cX9_removeRule 26 = .ok (.iconst 0, 1) := by decide +kernel
theorem dX9_removeRule_27 : decode cX9_removeRule 27 = .ok (.putfield 79, 3) := by decide +kernel
theorem dX9_removeRule_30 : decode cX9_removeRule 30 = .ok (.aload_n 0, 1) := by decide +kernel
theorem dX9_removeRule_31 : decode cX9_removeRule 31 = .ok (.getfield 14, 3) := by decide +kernel
theorem dX9_removeRule_34 : decode cX9_removeRule 34 = .ok (.getfield 93, 3) := by decide +kernel
theorem dX9_removeRule_37 : decode cX9_removeRule 37 = .ok (.ireturn, 1) := by decide +kernel
theorem dX9_ruleCount_0 : decode cX9_ruleCount 0 = .ok (.aload_n 0, 1) := by decide +kernel
theorem dX9_ruleCount_1 : decode cX9_ruleCount 1 = .ok (.getfield 14, 3) := by decide +kernel
theorem dX9_ruleCount_4 : decode cX9_ruleCount 4 = .ok (.getfield 93, 3) := by decide +kernel
theorem dX9_ruleCount_7 : decode cX9_ruleCount 7 = .ok (.ireturn, 1) := by decide +kernel
theorem dX9_ruleLetter_0 : decode cX9_ruleLetter 0 = .ok (.aload_n 0, 1) := by decide +kernel
theorem dX9_ruleLetter_1 : decode cX9_ruleLetter 1 = .ok (.getfield 14, 3) := by decide +kernel
theorem dX9_ruleLetter_4 : decode cX9_ruleLetter 4 = .ok (.iload_n 1, 1) := by decide +kernel
theorem dX9_ruleLetter_5 : decode cX9_ruleLetter 5 = .ok (.invokevirtual 110, 3) := by decide +kernel
theorem dX9_ruleLetter_8 : decode cX9_ruleLetter 8 = .ok (.ifCond .ne 6, 3) := by decide +kernel
theorem dX9_ruleLetter_11 : decode cX9_ruleLetter 11 = .ok (.bipush (-3), 2) := by decide +kernel
theorem dX9_ruleLetter_13 : decode cX9_ruleLetter 13 = .ok (.ireturn, 1) := by decide +kernel
theorem dX9_ruleLetter_14 : decode cX9_ruleLetter 14 = .ok (.iload_n 2, 1) := by decide +kernel
theorem dX9_ruleLetter_15 : decode cX9_ruleLetter 15 = .ok (.ifCond .lt 8, 3) := by decide +kernel
theorem dX9_ruleLetter_18 : decode cX9_ruleLetter 18 = .ok (.iload_n 2, 1) := by decide +kernel
theorem dX9_ruleLetter_19 : decode cX9_ruleLetter 19 = .ok (.iconst 1, 1) := by decide +kernel
theorem dX9_ruleLetter_20 : decode cX9_ruleLetter 20 = .ok (.if_icmp .le 5, 3) := by decide +kernel
theorem dX9_ruleLetter_23 : decode cX9_ruleLetter 23 = .ok (.iconst (-1), 1) := by decide +kernel
theorem dX9_ruleLetter_24 : decode cX9_ruleLetter 24 = .ok (.ireturn, 1) := by decide +kernel
theorem dX9_ruleLetter_25 : decode cX9_ruleLetter 25 = .ok (.iload_n 2, 1) := by decide +kernel
theorem dX9_ruleLetter_26 : decode cX9_ruleLetter 26 = .ok (.ifCond .ne 15, 3) := by decide +kernel
theorem dX9_ruleLetter_29 : decode cX9_ruleLetter 29 = .ok (.aload_n 0, 1) := by decide +kernel
theorem dX9_ruleLetter_30 : decode cX9_ruleLetter 30 = .ok (.getfield 14, 3) := by decide +kernel
theorem dX9_ruleLetter_33 : decode cX9_ruleLetter 33 = .ok (.getfield 117, 3) := by decide +kernel
theorem dX9_ruleLetter_36 : decode cX9_ruleLetter 36 = .ok (.iload_n 1, 1) := by decide +kernel
theorem dX9_ruleLetter_37 : decode cX9_ruleLetter 37 = .ok (.laload, 1) := by decide +kernel
theorem dX9_ruleLetter_38 : decode cX9_ruleLetter 38 = .ok (.goto 12, 3) := by decide +kernel
theorem dX9_ruleLetter_41 : decode cX9_ruleLetter 41 = .ok (.aload_n 0, 1) := by decide +kernel
theorem dX9_ruleLetter_42 : decode cX9_ruleLetter 42 = .ok (.getfield 14, 3) := by decide +kernel
theorem dX9_ruleLetter_45 : decode cX9_ruleLetter 45 = .ok (.getfield 121, 3) := by decide +kernel
theorem dX9_ruleLetter_48 : decode cX9_ruleLetter 48 = .ok (.iload_n 1, 1) := by decide +kernel
theorem dX9_ruleLetter_49 : decode cX9_ruleLetter 49 = .ok (.laload, 1) := by decide +kernel
theorem dX9_ruleLetter_50 : decode cX9_ruleLetter 50 = .ok (.iload_n 3, 1) := by decide +kernel
theorem dX9_ruleLetter_51 : decode cX9_ruleLetter 51 = .ok (.invokestatic 124, 3) := by decide +kernel
theorem dX9_ruleLetter_54 : decode cX9_ruleLetter 54 = .ok (.ireturn, 1) := by decide +kernel
theorem dX9_balance_0 : decode cX9_balance 0 = .ok (.aload_n 0, 1) := by decide +kernel
theorem dX9_balance_1 : decode cX9_balance 1 = .ok (.getfield 14, 3) := by decide +kernel
theorem dX9_balance_4 : decode cX9_balance 4 = .ok (.iload_n 1, 1) := by decide +kernel
theorem dX9_balance_5 : decode cX9_balance 5 = .ok (.invokevirtual 110, 3) := by decide +kernel
theorem dX9_balance_8 : decode cX9_balance 8 = .ok (.ifCond .ne 6, 3) := by decide +kernel
theorem dX9_balance_11 : decode cX9_balance 11 = .ok (.bipush (-3), 2) := by decide +kernel
theorem dX9_balance_13 : decode cX9_balance 13 = .ok (.ireturn, 1) := by decide +kernel
theorem dX9_balance_14 : decode cX9_balance 14 = .ok (.aload_n 0, 1) := by decide +kernel
theorem dX9_balance_15 : decode cX9_balance 15 = .ok (.getfield 14, 3) := by decide +kernel
theorem dX9_balance_18 : decode cX9_balance 18 = .ok (.iload_n 2, 1) := by decide +kernel
theorem dX9_balance_19 : decode cX9_balance 19 = .ok (.invokevirtual 128, 3) := by decide +kernel
theorem dX9_balance_22 : decode cX9_balance 22 = .ok (.ifCond .eq 20, 3) := by decide +kernel
theorem dX9_balance_25 : decode cX9_balance 25 = .ok (.aload_n 0, 1) := by decide +kernel
theorem dX9_balance_26 : decode cX9_balance 26 = .ok (.getfield 14, 3) := by decide +kernel
theorem dX9_balance_29 : decode cX9_balance 29 = .ok (.getfield 131, 3) := by decide +kernel
theorem dX9_balance_32 : decode cX9_balance 32 = .ok (.iload_n 1, 1) := by decide +kernel
theorem dX9_balance_33 : decode cX9_balance 33 = .ok (.aaload, 1) := by decide +kernel
theorem dX9_balance_34 : decode cX9_balance 34 = .ok (.iload_n 2, 1) := by decide +kernel
theorem dX9_balance_35 : decode cX9_balance 35 = .ok (.iaload, 1) := by decide +kernel
theorem dX9_balance_36 : decode cX9_balance 36 = .ok (.bipush 100, 2) := by decide +kernel
theorem dX9_balance_38 : decode cX9_balance 38 = .ok (.iadd, 1) := by decide +kernel
theorem dX9_balance_39 : decode cX9_balance 39 = .ok (.goto 5, 3) := by decide +kernel
theorem dX9_balance_42 : decode cX9_balance 42 = .ok (.bipush (-2), 2) := by decide +kernel
theorem dX9_balance_44 : decode cX9_balance 44 = .ok (.ireturn, 1) := by decide +kernel
theorem dX9_setWeight_0 : decode cX9_setWeight 0 = .ok (.aload_n 0, 1) := by decide +kernel
theorem dX9_setWeight_1 : decode cX9_setWeight 1 = .ok (.getfield 14, 3) := by decide +kernel
theorem dX9_setWeight_4 : decode cX9_setWeight 4 = .ok (.iload_n 1, 1) := by decide +kernel
theorem dX9_setWeight_5 : decode cX9_setWeight 5 = .ok (.invokevirtual 128, 3) := by decide +kernel
theorem dX9_setWeight_8 : decode cX9_setWeight 8 = .ok (.ifCond .ne 6, 3) := by decide +kernel
theorem dX9_setWeight_11 : decode cX9_setWeight 11 = .ok (.bipush (-2), 2) := by decide +kernel
theorem dX9_setWeight_13 : decode cX9_setWeight 13 = .ok (.ireturn, 1) := by decide +kernel
theorem dX9_setWeight_14 : decode cX9_setWeight 14 = .ok (.iload_n 2, 1) := by decide +kernel
theorem dX9_setWeight_15 : decode cX9_setWeight 15 = .ok (.ifCond .lt 9, 3) := by decide +kernel
theorem dX9_setWeight_18 : decode cX9_setWeight 18 = .ok (.iload_n 2, 1) := by decide +kernel
theorem dX9_setWeight_19 : decode cX9_setWeight 19 = .ok (.bipush 99, 2) := by decide +kernel
theorem dX9_setWeight_21 : decode cX9_setWeight 21 = .ok (.if_icmp .le 5, 3) := by decide +kernel
theorem dX9_setWeight_24 : decode cX9_setWeight 24 = .ok (.iconst (-1), 1) := by decide +kernel
theorem dX9_setWeight_25 : decode cX9_setWeight 25 = .ok (.ireturn, 1) := by decide +kernel
theorem dX9_setWeight_26 : decode cX9_setWeight 26 = .ok (.aload_n 0, 1) := by decide +kernel
theorem dX9_setWeight_27 : decode cX9_setWeight 27 = .ok (.getfield 14, 3) := by decide +kernel
theorem dX9_setWeight_30 : decode cX9_setWeight 30 = .ok (.getfield 135, 3) := by decide +kernel
theorem dX9_setWeight_33 : decode cX9_setWeight 33 = .ok (.iload_n 1, 1) := by decide +kernel
theorem dX9_setWeight_34 : decode cX9_setWeight 34 = .ok (.iaload, 1) := by decide +kernel
theorem dX9_setWeight_35 : decode cX9_setWeight 35 = .ok (.istore_n 3, 1) := by decide +kernel
theorem dX9_setWeight_36 : decode cX9_setWeight 36 = .ok (.aload_n 0, 1) := by decide +kernel
theorem dX9_setWeight_37 : decode cX9_setWeight 37 = .ok (.getfield 14, 3) := by decide +kernel
theorem dX9_setWeight_40 : decode cX9_setWeight 40 = .ok (.getfield 135, 3) := by decide +kernel
theorem dX9_setWeight_43 : decode cX9_setWeight 43 = .ok (.iload_n 1, 1) := by decide +kernel
theorem dX9_setWeight_44 : decode cX9_setWeight 44 = .ok (.iload_n 2, 1) := by decide +kernel
theorem dX9_setWeight_45 : decode cX9_setWeight 45 = .ok (.iastore, 1) := by decide +kernel
theorem dX9_setWeight_46 : decode cX9_setWeight 46 = .ok (.iload_n 3, 1) := by decide +kernel
theorem dX9_setWeight_47 : decode cX9_setWeight 47 = .ok (.ireturn, 1) := by decide +kernel
theorem dX9_weight_0 : decode cX9_weight 0 = .ok (.aload_n 0, 1) := by decide +kernel
theorem dX9_weight_1 : decode cX9_weight 1 = .ok (.getfield 14, 3) := by decide +kernel
theorem dX9_weight_4 : decode cX9_weight 4 = .ok (.iload_n 1, 1) := by decide +kernel
theorem dX9_weight_5 : decode cX9_weight 5 = .ok (.invokevirtual 128, 3) := by decide +kernel
theorem dX9_weight_8 : decode cX9_weight 8 = .ok (.ifCond .eq 15, 3) := by decide +kernel
theorem dX9_weight_11 : decode cX9_weight 11 = .ok (.aload_n 0, 1) := by decide +kernel
theorem dX9_weight_12 : decode cX9_weight 12 = .ok (.getfield 14, 3) := by decide +kernel
theorem dX9_weight_15 : decode cX9_weight 15 = .ok (.getfield 135, 3) := by decide +kernel
theorem dX9_weight_18 : decode cX9_weight 18 = .ok (.iload_n 1, 1) := by decide +kernel
theorem dX9_weight_19 : decode cX9_weight 19 = .ok (.iaload, 1) := by decide +kernel
theorem dX9_weight_20 : decode cX9_weight 20 = .ok (.goto 5, 3) := by decide +kernel
theorem dX9_weight_23 : decode cX9_weight 23 = .ok (.bipush (-2), 2) := by decide +kernel
theorem dX9_weight_25 : decode cX9_weight 25 = .ok (.ireturn, 1) := by decide +kernel
theorem dX9_setLevel_0 : decode cX9_setLevel 0 = .ok (.aload_n 0, 1) := by decide +kernel
theorem dX9_setLevel_1 : decode cX9_setLevel 1 = .ok (.getfield 14, 3) := by decide +kernel
theorem dX9_setLevel_4 : decode cX9_setLevel 4 = .ok (.iload_n 1, 1) := by decide +kernel
theorem dX9_setLevel_5 : decode cX9_setLevel 5 = .ok (.invokevirtual 128, 3) := by decide +kernel
theorem dX9_setLevel_8 : decode cX9_setLevel 8 = .ok (.ifCond .ne 6, 3) := by decide +kernel
theorem dX9_setLevel_11 : decode cX9_setLevel 11 = .ok (.bipush (-2), 2) := by decide +kernel
theorem dX9_setLevel_13 : decode cX9_setLevel 13 = .ok (.ireturn, 1) := by decide +kernel
theorem dX9_setLevel_14 : decode cX9_setLevel 14 = .ok (.iload_n 2, 1) := by decide +kernel
theorem dX9_setLevel_15 : decode cX9_setLevel 15 = .ok (.ifCond .lt 9, 3) := by decide +kernel
theorem dX9_setLevel_18 : decode cX9_setLevel 18 = .ok (.iload_n 2, 1) := by decide +kernel
theorem dX9_setLevel_19 : decode cX9_setLevel 19 = .ok (.bipush 9, 2) := by decide +kernel
theorem dX9_setLevel_21 : decode cX9_setLevel 21 = .ok (.if_icmp .le 5, 3) := by decide +kernel
theorem dX9_setLevel_24 : decode cX9_setLevel 24 = .ok (.iconst (-1), 1) := by decide +kernel
theorem dX9_setLevel_25 : decode cX9_setLevel 25 = .ok (.ireturn, 1) := by decide +kernel
theorem dX9_setLevel_26 : decode cX9_setLevel 26 = .ok (.aload_n 0, 1) := by decide +kernel
theorem dX9_setLevel_27 : decode cX9_setLevel 27 = .ok (.getfield 14, 3) := by decide +kernel
theorem dX9_setLevel_30 : decode cX9_setLevel 30 = .ok (.getfield 138, 3) := by decide +kernel
theorem dX9_setLevel_33 : decode cX9_setLevel 33 = .ok (.iload_n 1, 1) := by decide +kernel
theorem dX9_setLevel_34 : decode cX9_setLevel 34 = .ok (.iaload, 1) := by decide +kernel
theorem dX9_setLevel_35 : decode cX9_setLevel 35 = .ok (.istore_n 3, 1) := by decide +kernel
theorem dX9_setLevel_36 : decode cX9_setLevel 36 = .ok (.aload_n 0, 1) := by decide +kernel
theorem dX9_setLevel_37 : decode cX9_setLevel 37 = .ok (.getfield 14, 3) := by decide +kernel
theorem dX9_setLevel_40 : decode cX9_setLevel 40 = .ok (.getfield 138, 3) := by decide +kernel
theorem dX9_setLevel_43 : decode cX9_setLevel 43 = .ok (.iload_n 1, 1) := by decide +kernel
theorem dX9_setLevel_44 : decode cX9_setLevel 44 = .ok (.iload_n 2, 1) := by decide +kernel
theorem dX9_setLevel_45 : decode cX9_setLevel 45 = .ok (.iastore, 1) := by decide +kernel
theorem dX9_setLevel_46 : decode cX9_setLevel 46 = .ok (.iload_n 3, 1) := by decide +kernel
theorem dX9_setLevel_47 : decode cX9_setLevel 47 = .ok (.ireturn, 1) := by decide +kernel
theorem dX9_level_0 : decode cX9_level 0 = .ok (.aload_n 0, 1) := by decide +kernel
theorem dX9_level_1 : decode cX9_level 1 = .ok (.getfield 14, 3) := by decide +kernel
theorem dX9_level_4 : decode cX9_level 4 = .ok (.iload_n 1, 1) := by decide +kernel
theorem dX9_level_5 : decode cX9_level 5 = .ok (.invokevirtual 128, 3) := by decide +kernel
theorem dX9_level_8 : decode cX9_level 8 = .ok (.ifCond .eq 15, 3) := by decide +kernel
theorem dX9_level_11 : decode cX9_level 11 = .ok (.aload_n 0, 1) := by decide +kernel
theorem dX9_level_12 : decode cX9_level 12 = .ok (.getfield 14, 3) := by decide +kernel
theorem dX9_level_15 : decode cX9_level 15 = .ok (.getfield 138, 3) := by decide +kernel
theorem dX9_level_18 : decode cX9_level 18 = .ok (.iload_n 1, 1) := by decide +kernel
theorem dX9_level_19 : decode cX9_level 19 = .ok (.iaload, 1) := by decide +kernel
theorem dX9_level_20 : decode cX9_level 20 = .ok (.goto 5, 3) := by decide +kernel
theorem dX9_level_23 : decode cX9_level 23 = .ok (.bipush (-2), 2) := by decide +kernel
theorem dX9_level_25 : decode cX9_level 25 = .ok (.ireturn, 1) := by decide +kernel
theorem dX9_setStatus_0 : decode cX9_setStatus 0 = .ok (.iload_n 1, 1) := by decide +kernel
theorem dX9_setStatus_1 : decode cX9_setStatus 1 = .ok (.ifCond .lt 8, 3) := by decide +kernel
theorem dX9_setStatus_4 : decode cX9_setStatus 4 = .ok (.iload_n 1, 1) := by decide +kernel
theorem dX9_setStatus_5 : decode cX9_setStatus 5 = .ok (.iconst 1, 1) := by decide +kernel
theorem dX9_setStatus_6 : decode cX9_setStatus 6 = .ok (.if_icmp .le 5, 3) := by decide +kernel
theorem dX9_setStatus_9 : decode cX9_setStatus 9 = .ok (.iconst (-1), 1) := by decide +kernel
theorem dX9_setStatus_10 : decode cX9_setStatus 10 = .ok (.ireturn, 1) := by decide +kernel
theorem dX9_setStatus_11 : decode cX9_setStatus 11 = .ok (.aload_n 0, 1) := by decide +kernel
theorem dX9_setStatus_12 : decode cX9_setStatus 12 = .ok (.getfield 14, 3) := by decide +kernel
theorem dX9_setStatus_15 : decode cX9_setStatus 15 = .ok (.getfield 141, 3) := by decide +kernel
theorem dX9_setStatus_18 : decode cX9_setStatus 18 = .ok (.istore_n 2, 1) := by decide +kernel
theorem dX9_setStatus_19 : decode cX9_setStatus 19 = .ok (.aload_n 0, 1) := by decide +kernel
theorem dX9_setStatus_20 : decode cX9_setStatus 20 = .ok (.getfield 14, 3) := by decide +kernel
theorem dX9_setStatus_23 : decode cX9_setStatus 23 = .ok (.iload_n 1, 1) := by decide +kernel
theorem dX9_setStatus_24 : decode cX9_setStatus 24 = .ok (.putfield 141, 3) := by decide +kernel
theorem dX9_setStatus_27 : decode cX9_setStatus 27 = .ok (.iload_n 2, 1) := by decide +kernel
theorem dX9_setStatus_28 : decode cX9_setStatus 28 = .ok (.ireturn, 1) := by decide +kernel
theorem dX9_isAdmissible_0 : decode cX9_isAdmissible 0 = .ok (.aload_n 0, 1) := by decide +kernel
theorem dX9_isAdmissible_1 : decode cX9_isAdmissible 1 = .ok (.getfield 14, 3) := by decide +kernel
theorem dX9_isAdmissible_4 : decode cX9_isAdmissible 4 = .ok (.invokevirtual 144, 3) := by decide +kernel
theorem dX9_isAdmissible_7 : decode cX9_isAdmissible 7 = .ok (.ifCond .eq 7, 3) := by decide +kernel
theorem dX9_isAdmissible_10 : decode cX9_isAdmissible 10 = .ok (.iconst 1, 1) := by decide +kernel
theorem dX9_isAdmissible_11 : decode cX9_isAdmissible 11 = .ok (.goto 4, 3) := by decide +kernel
theorem dX9_isAdmissible_14 : decode cX9_isAdmissible 14 = .ok (.iconst 0, 1) := by decide +kernel
theorem dX9_isAdmissible_15 : decode cX9_isAdmissible 15 = .ok (.ireturn, 1) := by decide +kernel
theorem dX9_compareSides_0 : decode cX9_compareSides 0 = .ok (.aload_n 0, 1) := by decide +kernel
theorem dX9_compareSides_1 : decode cX9_compareSides 1 = .ok (.getfield 14, 3) := by decide +kernel
theorem dX9_compareSides_4 : decode cX9_compareSides 4 = .ok (.iload_n 1, 1) := by decide +kernel
theorem dX9_compareSides_5 : decode cX9_compareSides 5 = .ok (.invokevirtual 110, 3) := by decide +kernel
theorem dX9_compareSides_8 : decode cX9_compareSides 8 = .ok (.ifCond .eq 31, 3) := by decide +kernel
theorem dX9_compareSides_11 : decode cX9_compareSides 11 = .ok (.aload_n 0, 1) := by decide +kernel
theorem dX9_compareSides_12 : decode cX9_compareSides 12 = .ok (.getfield 14, 3) := by decide +kernel
theorem dX9_compareSides_15 : decode cX9_compareSides 15 = .ok (.aload_n 0, 1) := by decide +kernel
theorem dX9_compareSides_16 : decode cX9_compareSides 16 = .ok (.getfield 14, 3) := by decide +kernel
theorem dX9_compareSides_19 : decode cX9_compareSides 19 = .ok (.getfield 117, 3) := by decide +kernel
theorem dX9_compareSides_22 : decode cX9_compareSides 22 = .ok (.iload_n 1, 1) := by decide +kernel
theorem dX9_compareSides_23 : decode cX9_compareSides 23 = .ok (.laload, 1) := by decide +kernel
theorem dX9_compareSides_24 : decode cX9_compareSides 24 = .ok (.aload_n 0, 1) := by decide +kernel
theorem dX9_compareSides_25 : decode cX9_compareSides 25 = .ok (.getfield 14, 3) := by decide +kernel
theorem dX9_compareSides_28 : decode cX9_compareSides 28 = .ok (.getfield 121, 3) := by decide +kernel
theorem dX9_compareSides_31 : decode cX9_compareSides 31 = .ok (.iload_n 1, 1) := by decide +kernel
theorem dX9_compareSides_32 : decode cX9_compareSides 32 = .ok (.laload, 1) := by decide +kernel
theorem dX9_compareSides_33 : decode cX9_compareSides 33 = .ok (.invokevirtual 148, 3) := by decide +kernel
theorem dX9_compareSides_36 : decode cX9_compareSides 36 = .ok (.goto 5, 3) := by decide +kernel
theorem dX9_compareSides_39 : decode cX9_compareSides 39 = .ok (.bipush (-3), 2) := by decide +kernel
theorem dX9_compareSides_41 : decode cX9_compareSides 41 = .ok (.ireturn, 1) := by decide +kernel
theorem dX9_compareWithInput_0 : decode cX9_compareWithInput 0 = .ok (.aload_n 0, 1) := by decide +kernel
theorem dX9_compareWithInput_1 : decode cX9_compareWithInput 1 = .ok (.invokevirtual 151, 3) := by decide +kernel
theorem dX9_compareWithInput_4 : decode cX9_compareWithInput 4 = .ok (.lstore_n 1, 1) := by decide +kernel
theorem dX9_compareWithInput_5 : decode cX9_compareWithInput 5 = .ok (.lload_n 1, 1) := by decide +kernel
theorem dX9_compareWithInput_6 : decode cX9_compareWithInput 6 = .ok (.ldc2_w 104, 3) := by decide +kernel
theorem dX9_compareWithInput_9 : decode cX9_compareWithInput 9 = .ok (.lcmp, 1) := by decide +kernel
theorem dX9_compareWithInput_10 : decode cX9_compareWithInput 10 = .ok (.ifCond .ne 8, 3) := by decide +kernel
theorem dX9_compareWithInput_13 : decode cX9_compareWithInput 13 = .ok (.bipush (-5), 2) := by decide +kernel
theorem dX9_compareWithInput_15 : decode cX9_compareWithInput 15 = .ok (.goto 18, 3) := by decide +kernel
theorem dX9_compareWithInput_18 : decode cX9_compareWithInput 18 = .ok (.aload_n 0, 1) := by decide +kernel
theorem dX9_compareWithInput_19 : decode cX9_compareWithInput 19 = .ok (.getfield 14, 3) := by decide +kernel
theorem dX9_compareWithInput_22 : decode cX9_compareWithInput 22 = .ok (.aload_n 0, 1) := by decide +kernel
theorem dX9_compareWithInput_23 : decode cX9_compareWithInput 23 = .ok (.getfield 14, 3) := by decide +kernel
theorem dX9_compareWithInput_26 : decode cX9_compareWithInput 26 = .ok (.getfield 155, 3) := by decide +kernel
theorem dX9_compareWithInput_29 : decode cX9_compareWithInput 29 = .ok (.lload_n 1, 1) := by decide +kernel
theorem dX9_compareWithInput_30 : decode cX9_compareWithInput 30 = .ok (.invokevirtual 148, 3) := by decide +kernel
theorem dX9_compareWithInput_33 : decode cX9_compareWithInput 33 = .ok (.ireturn, 1) := by decide +kernel
theorem dX9_firstUnoriented_0 : decode cX9_firstUnoriented 0 = .ok (.iconst 0, 1) := by decide +kernel
theorem dX9_firstUnoriented_1 : decode cX9_firstUnoriented 1 = .ok (.istore_n 1, 1) := by decide +kernel
theorem dX9_firstUnoriented_2 : decode cX9_firstUnoriented 2 = .ok (.iload_n 1, 1) := by decide +kernel
theorem dX9_firstUnoriented_3 : decode cX9_firstUnoriented 3 = .ok (.aload_n 0, 1) := by decide +kernel
theorem dX9_firstUnoriented_4 : decode cX9_firstUnoriented 4 = .ok (.getfield 14, 3) := by decide +kernel
theorem dX9_firstUnoriented_7 : decode cX9_firstUnoriented 7 = .ok (.getfield 93, 3) := by decide +kernel
theorem dX9_firstUnoriented_10 : decode cX9_firstUnoriented 10 = .ok (.if_icmp .ge 40, 3) := by decide +kernel
theorem dX9_firstUnoriented_13 : decode cX9_firstUnoriented 13 = .ok (.aload_n 0, 1) := by decide +kernel
theorem dX9_firstUnoriented_14 : decode cX9_firstUnoriented 14 = .ok (.getfield 14, 3) := by decide +kernel
theorem dX9_firstUnoriented_17 : decode cX9_firstUnoriented 17 = .ok (.aload_n 0, 1) := by decide +kernel
theorem dX9_firstUnoriented_18 : decode cX9_firstUnoriented 18 = .ok (.getfield 14, 3) := by decide +kernel
theorem dX9_firstUnoriented_21 : decode cX9_firstUnoriented 21 = .ok (.getfield 117, 3) := by decide +kernel
theorem dX9_firstUnoriented_24 : decode cX9_firstUnoriented 24 = .ok (.iload_n 1, 1) := by decide +kernel
theorem dX9_firstUnoriented_25 : decode cX9_firstUnoriented 25 = .ok (.laload, 1) := by decide +kernel
theorem dX9_firstUnoriented_26 : decode cX9_firstUnoriented 26 = .ok (.aload_n 0, 1) := by decide +kernel
theorem dX9_firstUnoriented_27 : decode cX9_firstUnoriented 27 = .ok (.getfield 14, 3) := by decide +kernel
theorem dX9_firstUnoriented_30 : decode cX9_firstUnoriented 30 = .ok (.getfield 121, 3) := by decide +kernel
theorem dX9_firstUnoriented_33 : decode cX9_firstUnoriented 33 = .ok (.iload_n 1, 1) := by decide +kernel
theorem dX9_firstUnoriented_34 : decode cX9_firstUnoriented 34 = .ok (.laload, 1) := by decide +kernel
theorem dX9_firstUnoriented_35 : decode cX9_firstUnoriented 35 = .ok (.invokevirtual 148, 3) := by decide +kernel
theorem dX9_firstUnoriented_38 : decode cX9_firstUnoriented 38 = .ok (.iconst 2, 1) := by decide +kernel
theorem dX9_firstUnoriented_39 : decode cX9_firstUnoriented 39 = .ok (.if_icmp .eq 5, 3) := by decide +kernel
theorem dX9_firstUnoriented_42 : decode cX9_firstUnoriented 42 = .ok (.iload_n 1, 1) := by decide +kernel
theorem dX9_firstUnoriented_43 : decode cX9_firstUnoriented 43 = .ok (.ireturn, 1) := by decide +kernel
theorem dX9_firstUnoriented_44 : decode cX9_firstUnoriented 44 = .ok (.iinc 1 1, 3) := by decide +kernel
theorem dX9_firstUnoriented_47 : decode cX9_firstUnoriented 47 = .ok (.goto (-45), 3) := by decide +kernel
theorem dX9_firstUnoriented_50 : decode cX9_firstUnoriented 50 = .ok (.bipush (-6), 2) := by decide +kernel
theorem dX9_firstUnoriented_52 : decode cX9_firstUnoriented 52 = .ok (.ireturn, 1) := by decide +kernel
theorem dX9_findWeights_0 : decode cX9_findWeights 0 = .ok (.iload_n 1, 1) := by decide +kernel
theorem dX9_findWeights_1 : decode cX9_findWeights 1 = .ok (.iconst 1, 1) := by decide +kernel
theorem dX9_findWeights_2 : decode cX9_findWeights 2 = .ok (.if_icmp .lt 9, 3) := by decide +kernel
theorem dX9_findWeights_5 : decode cX9_findWeights 5 = .ok (.iload_n 1, 1) := by decide +kernel
theorem dX9_findWeights_6 : decode cX9_findWeights 6 = .ok (.bipush 6, 2) := by decide +kernel
theorem dX9_findWeights_8 : decode cX9_findWeights 8 = .ok (.if_icmp .le 5, 3) := by decide +kernel
theorem dX9_findWeights_11 : decode cX9_findWeights 11 = .ok (.iconst (-1), 1) := by decide +kernel
theorem dX9_findWeights_12 : decode cX9_findWeights 12 = .ok (.ireturn, 1) := by decide +kernel
theorem dX9_findWeights_13 : decode cX9_findWeights 13 = .ok (.aload_n 0, 1) := by decide +kernel
theorem dX9_findWeights_14 : decode cX9_findWeights 14 = .ok (.getfield 49, 3) := by decide +kernel
theorem dX9_findWeights_17 : decode cX9_findWeights 17 = .ok (.aload_n 0, 1) := by decide +kernel
theorem dX9_findWeights_18 : decode cX9_findWeights 18 = .ok (.getfield 14, 3) := by decide +kernel
theorem dX9_findWeights_21 : decode cX9_findWeights 21 = .ok (.iload_n 1, 1) := by decide +kernel
theorem dX9_findWeights_22 : decode cX9_findWeights 22 = .ok (.invokevirtual 159, 3) := by decide +kernel
theorem dX9_findWeights_25 : decode cX9_findWeights 25 = .ok (.aload_n 0, 1) := by decide +kernel
theorem dX9_findWeights_26 : decode cX9_findWeights 26 = .ok (.getfield 49, 3) := by decide +kernel
theorem dX9_findWeights_29 : decode cX9_findWeights 29 = .ok (.aload_n 0, 1) := by decide +kernel
theorem dX9_findWeights_30 : decode cX9_findWeights 30 = .ok (.getfield 14, 3) := by decide +kernel
theorem dX9_findWeights_33 : decode cX9_findWeights 33 = .ok (.getfield 71, 3) := by decide +kernel
theorem dX9_findWeights_36 : decode cX9_findWeights 36 = .ok (.iload_n 1, 1) := by decide +kernel
theorem dX9_findWeights_37 : decode cX9_findWeights 37 = .ok (.invokevirtual 163, 3) := by decide +kernel
theorem dX9_findWeights_40 : decode cX9_findWeights 40 = .ok (.ifCond .ne 6, 3) := by decide +kernel
theorem dX9_findWeights_43 : decode cX9_findWeights 43 = .ok (.bipush (-6), 2) := by decide +kernel
theorem dX9_findWeights_45 : decode cX9_findWeights 45 = .ok (.ireturn, 1) := by decide +kernel
theorem dX9_findWeights_46 : decode cX9_findWeights 46 = .ok (.iconst 0, 1) := by decide +kernel
theorem dX9_findWeights_47 : decode cX9_findWeights 47 = .ok (.istore_n 2, 1) := by decide +kernel
theorem dX9_findWeights_48 : decode cX9_findWeights 48 = .ok (.iconst 0, 1) := by decide +kernel
theorem dX9_findWeights_49 : decode cX9_findWeights 49 = .ok (.istore_n 3, 1) := by decide +kernel
theorem dX9_findWeights_50 : decode cX9_findWeights 50 = .ok (.iload_n 3, 1) := by decide +kernel
theorem dX9_findWeights_51 : decode cX9_findWeights 51 = .ok (.aload_n 0, 1) := by decide +kernel
theorem dX9_findWeights_52 : decode cX9_findWeights 52 = .ok (.getfield 14, 3) := by decide +kernel
theorem dX9_findWeights_55 : decode cX9_findWeights 55 = .ok (.getfield 71, 3) := by decide +kernel
theorem dX9_findWeights_58 : decode cX9_findWeights 58 = .ok (.if_icmp .ge 39, 3) := by decide +kernel
theorem dX9_findWeights_61 : decode cX9_findWeights 61 = .ok (.aload_n 0, 1) := by decide +kernel
theorem dX9_findWeights_62 : decode cX9_findWeights 62 = .ok (.getfield 14, 3) := by decide +kernel
theorem dX9_findWeights_65 : decode cX9_findWeights 65 = .ok (.getfield 135, 3) := by decide +kernel
theorem dX9_findWeights_68 : decode cX9_findWeights 68 = .ok (.iload_n 3, 1) := by decide +kernel
theorem dX9_findWeights_69 : decode cX9_findWeights 69 = .ok (.aload_n 0, 1) := by decide +kernel
theorem dX9_findWeights_70 : decode cX9_findWeights 70 = .ok (.getfield 49, 3) := by decide +kernel
theorem dX9_findWeights_73 : decode cX9_findWeights 73 = .ok (.getfield 166, 3) := by decide +kernel
theorem dX9_findWeights_76 : decode cX9_findWeights 76 = .ok (.iload_n 3, 1) := by decide +kernel
theorem dX9_findWeights_77 : decode cX9_findWeights 77 = .ok (.iaload, 1) := by decide +kernel
theorem dX9_findWeights_78 : decode cX9_findWeights 78 = .ok (.iastore, 1) := by decide +kernel
theorem dX9_findWeights_79 : decode cX9_findWeights 79 = .ok (.iload_n 2, 1) := by decide +kernel
theorem dX9_findWeights_80 : decode cX9_findWeights 80 = .ok (.aload_n 0, 1) := by decide +kernel
theorem dX9_findWeights_81 : decode cX9_findWeights 81 = .ok (.getfield 49, 3) := by decide +kernel
theorem dX9_findWeights_84 : decode cX9_findWeights 84 = .ok (.getfield 166, 3) := by decide +kernel
theorem dX9_findWeights_87 : decode cX9_findWeights 87 = .ok (.iload_n 3, 1) := by decide +kernel
theorem dX9_findWeights_88 : decode cX9_findWeights 88 = .ok (.iaload, 1) := by decide +kernel
theorem dX9_findWeights_89 : decode cX9_findWeights 89 = .ok (.iadd, 1) := by decide +kernel
theorem dX9_findWeights_90 : decode cX9_findWeights 90 = .ok (.istore_n 2, 1) := by decide +kernel
theorem dX9_findWeights_91 : decode cX9_findWeights 91 = .ok (.iinc 3 1, 3) := by decide +kernel
theorem dX9_findWeights_94 : decode cX9_findWeights 94 = .ok (.goto (-44), 3) := by decide +kernel
theorem dX9_findWeights_97 : decode cX9_findWeights 97 = .ok (.iload_n 2, 1) := by decide +kernel
theorem dX9_findWeights_98 : decode cX9_findWeights 98 = .ok (.ireturn, 1) := by decide +kernel
theorem dX9_findCertificate_0 : decode cX9_findCertificate 0 = .ok (.aload_n 0, 1) := by decide +kernel
theorem dX9_findCertificate_1 : decode cX9_findCertificate 1 = .ok (.getfield 49, 3) := by decide +kernel
theorem dX9_findCertificate_4 : decode cX9_findCertificate 4 = .ok (.aload_n 0, 1) := by decide +kernel
theorem dX9_findCertificate_5 : decode cX9_findCertificate 5 = .ok (.getfield 14, 3) := by decide +kernel
theorem dX9_findCertificate_8 : decode cX9_findCertificate 8 = .ok (.iconst 3, 1) := by decide +kernel
theorem dX9_findCertificate_9 : decode cX9_findCertificate 9 = .ok (.invokevirtual 169, 3) := by decide +kernel
theorem dX9_findCertificate_12 : decode cX9_findCertificate 12 = .ok (.aload_n 0, 1) := by decide +kernel
theorem dX9_findCertificate_13 : decode cX9_findCertificate 13 = .ok (.getfield 49, 3) := by decide +kernel
theorem dX9_findCertificate_16 : decode cX9_findCertificate 16 = .ok (.aload_n 0, 1) := by decide +kernel
theorem dX9_findCertificate_17 : decode cX9_findCertificate 17 = .ok (.getfield 14, 3) := by decide +kernel
theorem dX9_findCertificate_20 : decode cX9_findCertificate 20 = .ok (.getfield 93, 3) := by decide +kernel
theorem dX9_findCertificate_23 : decode cX9_findCertificate 23 = .ok (.iconst 3, 1) := by decide +kernel
theorem dX9_findCertificate_24 : decode cX9_findCertificate 24 = .ok (.invokevirtual 163, 3) := by decide +kernel
theorem dX9_findCertificate_27 : decode cX9_findCertificate 27 = .ok (.ifCond .ne 6, 3) := by decide +kernel
theorem dX9_findCertificate_30 : decode cX9_findCertificate 30 = .ok (.bipush (-6), 2) := by decide +kernel
theorem dX9_findCertificate_32 : decode cX9_findCertificate 32 = .ok (.ireturn, 1) := by decide +kernel
theorem dX9_findCertificate_33 : decode cX9_findCertificate 33 = .ok (.iconst 0, 1) := by decide +kernel
theorem dX9_findCertificate_34 : decode cX9_findCertificate 34 = .ok (.istore_n 1, 1) := by decide +kernel
theorem dX9_findCertificate_35 : decode cX9_findCertificate 35 = .ok (.iconst 0, 1) := by decide +kernel
theorem dX9_findCertificate_36 : decode cX9_findCertificate 36 = .ok (.istore_n 2, 1) := by decide +kernel
theorem dX9_findCertificate_37 : decode cX9_findCertificate 37 = .ok (.iload_n 2, 1) := by decide +kernel
theorem dX9_findCertificate_38 : decode cX9_findCertificate 38 = .ok (.aload_n 0, 1) := by decide +kernel
theorem dX9_findCertificate_39 : decode cX9_findCertificate 39 = .ok (.getfield 14, 3) := by decide +kernel
theorem dX9_findCertificate_42 : decode cX9_findCertificate 42 = .ok (.getfield 93, 3) := by decide +kernel
theorem dX9_findCertificate_45 : decode cX9_findCertificate 45 = .ok (.if_icmp .ge 23, 3) := by decide +kernel
theorem dX9_findCertificate_48 : decode cX9_findCertificate 48 = .ok (.iconst 4, 1) := by decide +kernel
theorem dX9_findCertificate_49 : decode cX9_findCertificate 49 = .ok (.iload_n 1, 1) := by decide +kernel
theorem dX9_findCertificate_50 : decode cX9_findCertificate 50 = .ok (.imul, 1) := by decide +kernel
theorem dX9_findCertificate_51 : decode cX9_findCertificate 51 = .ok (.aload_n 0, 1) := by decide +kernel
theorem dX9_findCertificate_52 : decode cX9_findCertificate 52 = .ok (.getfield 49, 3) := by decide +kernel
theorem dX9_findCertificate_55 : decode cX9_findCertificate 55 = .ok (.getfield 166, 3) := by decide +kernel
theorem dX9_findCertificate_58 : decode cX9_findCertificate 58 = .ok (.iload_n 2, 1) := by decide +kernel
theorem dX9_findCertificate_59 : decode cX9_findCertificate 59 = .ok (.iaload, 1) := by decide +kernel
theorem dX9_findCertificate_60 : decode cX9_findCertificate 60 = .ok (.iadd, 1) := by decide +kernel
theorem dX9_findCertificate_61 : decode cX9_findCertificate 61 = .ok (.istore_n 1, 1) := by decide +kernel
theorem dX9_findCertificate_62 : decode cX9_findCertificate 62 = .ok (.iinc 2 1, 3) := by decide +kernel
theorem dX9_findCertificate_65 : decode cX9_findCertificate 65 = .ok (.goto (-28), 3) := by decide +kernel
theorem dX9_findCertificate_68 : decode cX9_findCertificate 68 = .ok (.iload_n 1, 1) := by decide +kernel
theorem dX9_findCertificate_69 : decode cX9_findCertificate 69 = .ok (.ireturn, 1) := by decide +kernel
theorem dX9_findLevels_0 : decode cX9_findLevels 0 = .ok (.aload_n 0, 1) := by decide +kernel
theorem dX9_findLevels_1 : decode cX9_findLevels 1 = .ok (.getfield 56, 3) := by decide +kernel
theorem dX9_findLevels_4 : decode cX9_findLevels 4 = .ok (.aload_n 0, 1) := by decide +kernel
theorem dX9_findLevels_5 : decode cX9_findLevels 5 = .ok (.getfield 14, 3) := by decide +kernel
theorem dX9_findLevels_8 : decode cX9_findLevels 8 = .ok (.aload_n 0, 1) := by decide +kernel
theorem dX9_findLevels_9 : decode cX9_findLevels 9 = .ok (.getfield 14, 3) := by decide +kernel
theorem dX9_findLevels_12 : decode cX9_findLevels 12 = .ok (.getfield 135, 3) := by decide +kernel
theorem dX9_findLevels_15 : decode cX9_findLevels 15 = .ok (.invokevirtual 172, 3) := by decide +kernel
theorem dX9_findLevels_18 : decode cX9_findLevels 18 = .ok (.ifCond .eq 20, 3) := by decide +kernel
theorem dX9_findLevels_21 : decode cX9_findLevels 21 = .ok (.aload_n 0, 1) := by decide +kernel
theorem dX9_findLevels_22 : decode cX9_findLevels 22 = .ok (.getfield 56, 3) := by decide +kernel
theorem dX9_findLevels_25 : decode cX9_findLevels 25 = .ok (.aload_n 0, 1) := by decide +kernel
theorem dX9_findLevels_26 : decode cX9_findLevels 26 = .ok (.getfield 14, 3) := by decide +kernel
theorem dX9_findLevels_29 : decode cX9_findLevels 29 = .ok (.getfield 141, 3) := by decide +kernel
theorem dX9_findLevels_32 : decode cX9_findLevels 32 = .ok (.invokevirtual 176, 3) := by decide +kernel
theorem dX9_findLevels_35 : decode cX9_findLevels 35 = .ok (.ifCond .ne 6, 3) := by decide +kernel
theorem dX9_findLevels_38 : decode cX9_findLevels 38 = .ok (.bipush (-6), 2) := by decide +kernel
theorem dX9_findLevels_40 : decode cX9_findLevels 40 = .ok (.ireturn, 1) := by decide +kernel
theorem dX9_findLevels_41 : decode cX9_findLevels 41 = .ok (.aload_n 0, 1) := by decide +kernel
theorem dX9_findLevels_42 : decode cX9_findLevels 42 = .ok (.invokevirtual 179, 3) := by decide +kernel
theorem dX9_findLevels_45 : decode cX9_findLevels 45 = .ok (.iconst 0, 1) := by decide +kernel
theorem dX9_findLevels_46 : decode cX9_findLevels 46 = .ok (.istore_n 1, 1) := by decide +kernel
theorem dX9_findLevels_47 : decode cX9_findLevels 47 = .ok (.aload_n 0, 1) := by decide +kernel
theorem dX9_findLevels_48 : decode cX9_findLevels 48 = .ok (.getfield 14, 3) := by decide +kernel
theorem dX9_findLevels_51 : decode cX9_findLevels 51 = .ok (.getfield 71, 3) := by decide +kernel
theorem dX9_findLevels_54 : decode cX9_findLevels 54 = .ok (.iconst 1, 1) := by decide +kernel
theorem dX9_findLevels_55 : decode cX9_findLevels 55 = .ok (.isub, 1) := by decide +kernel
theorem dX9_findLevels_56 : decode cX9_findLevels 56 = .ok (.istore_n 2, 1) := by decide +kernel
theorem dX9_findLevels_57 : decode cX9_findLevels 57 = .ok (.iload_n 2, 1) := by decide +kernel
theorem dX9_findLevels_58 : decode cX9_findLevels 58 = .ok (.ifCond .lt 24, 3) := by decide +kernel
theorem dX9_findLevels_61 : decode cX9_findLevels 61 = .ok (.bipush 10, 2) := by decide +kernel
theorem dX9_findLevels_63 : decode cX9_findLevels 63 = .ok (.iload_n 1, 1) := by decide +kernel
theorem dX9_findLevels_64 : decode cX9_findLevels 64 = .ok (.imul, 1) := by decide +kernel
theorem dX9_findLevels_65 : decode cX9_findLevels 65 = .ok (.aload_n 0, 1) := by decide +kernel
theorem dX9_findLevels_66 : decode cX9_findLevels 66 = .ok (.getfield 14, 3) := by decide +kernel
theorem dX9_findLevels_69 : decode cX9_findLevels 69 = .ok (.getfield 138, 3) := by decide +kernel
theorem dX9_findLevels_72 : decode cX9_findLevels 72 = .ok (.iload_n 2, 1) := by decide +kernel
theorem dX9_findLevels_73 : decode cX9_findLevels 73 = .ok (.iaload, 1) := by decide +kernel
theorem dX9_findLevels_74 : decode cX9_findLevels 74 = .ok (.iadd, 1) := by decide +kernel
theorem dX9_findLevels_75 : decode cX9_findLevels 75 = .ok (.istore_n 1, 1) := by decide +kernel
theorem dX9_findLevels_76 : decode cX9_findLevels 76 = .ok (.iinc 2 (-1), 3) := by decide +kernel
theorem dX9_findLevels_79 : decode cX9_findLevels 79 = .ok (.goto (-22), 3) := by decide +kernel
theorem dX9_findLevels_82 : decode cX9_findLevels 82 = .ok (.iload_n 1, 1) := by decide +kernel
theorem dX9_findLevels_83 : decode cX9_findLevels 83 = .ok (.ireturn, 1) := by decide +kernel
theorem dX9_findOrder_0 : decode cX9_findOrder 0 = .ok (.aload_n 0, 1) := by decide +kernel
theorem dX9_findOrder_1 : decode cX9_findOrder 1 = .ok (.getfield 14, 3) := by decide +kernel
theorem dX9_findOrder_4 : decode cX9_findOrder 4 = .ok (.getfield 71, 3) := by decide +kernel
theorem dX9_findOrder_7 : decode cX9_findOrder 7 = .ok (.iconst 4, 1) := by decide +kernel
theorem dX9_findOrder_8 : decode cX9_findOrder 8 = .ok (.if_icmp .le 6, 3) := by decide +kernel
theorem dX9_findOrder_11 : decode cX9_findOrder 11 = .ok (.bipush (-8), 2) := by decide +kernel
theorem dX9_findOrder_13 : decode cX9_findOrder 13 = .ok (.ireturn, 1) := by decide +kernel
theorem dX9_findOrder_14 : decode cX9_findOrder 14 = .ok (.iconst 1, 1) := by decide +kernel
theorem dX9_findOrder_15 : decode cX9_findOrder 15 = .ok (.istore_n 1, 1) := by decide +kernel
theorem dX9_findOrder_16 : decode cX9_findOrder 16 = .ok (.iconst 0, 1) := by decide +kernel
theorem dX9_findOrder_17 : decode cX9_findOrder 17 = .ok (.istore_n 2, 1) := by decide +kernel
theorem dX9_findOrder_18 : decode cX9_findOrder 18 = .ok (.iload_n 2, 1) := by decide +kernel
theorem dX9_findOrder_19 : decode cX9_findOrder 19 = .ok (.aload_n 0, 1) := by decide +kernel
theorem dX9_findOrder_20 : decode cX9_findOrder 20 = .ok (.getfield 14, 3) := by decide +kernel
theorem dX9_findOrder_23 : decode cX9_findOrder 23 = .ok (.getfield 71, 3) := by decide +kernel
theorem dX9_findOrder_26 : decode cX9_findOrder 26 = .ok (.if_icmp .ge 13, 3) := by decide +kernel
theorem dX9_findOrder_29 : decode cX9_findOrder 29 = .ok (.iload_n 1, 1) := by decide +kernel
theorem dX9_findOrder_30 : decode cX9_findOrder 30 = .ok (.iconst 3, 1) := by decide +kernel
theorem dX9_findOrder_31 : decode cX9_findOrder 31 = .ok (.imul, 1) := by decide +kernel
theorem dX9_findOrder_32 : decode cX9_findOrder 32 = .ok (.istore_n 1, 1) := by decide +kernel
theorem dX9_findOrder_33 : decode cX9_findOrder 33 = .ok (.iinc 2 1, 3) := by decide +kernel
theorem dX9_findOrder_36 : decode cX9_findOrder 36 = .ok (.goto (-18), 3) := by decide +kernel
theorem dX9_findOrder_39 : decode cX9_findOrder 39 = .ok (.iconst 0, 1) := by decide +kernel
theorem dX9_findOrder_40 : decode cX9_findOrder 40 = .ok (.istore_n 2, 1) := by decide +kernel
theorem dX9_findOrder_41 : decode cX9_findOrder 41 = .ok (.iload_n 2, 1) := by decide +kernel
theorem dX9_findOrder_42 : decode cX9_findOrder 42 = .ok (.iload_n 1, 1) := by decide +kernel
theorem dX9_findOrder_43 : decode cX9_findOrder 43 = .ok (.if_icmp .ge 69, 3) := by decide +kernel
theorem dX9_findOrder_46 : decode cX9_findOrder 46 = .ok (.aload_n 0, 1) := by decide +kernel
theorem dX9_findOrder_47 : decode cX9_findOrder 47 = .ok (.iload_n 2, 1) := by decide +kernel
theorem dX9_findOrder_48 : decode cX9_findOrder 48 = .ok (.invokevirtual 182, 3) := by decide +kernel
theorem dX9_findOrder_51 : decode cX9_findOrder 51 = .ok (.aload_n 0, 1) := by decide +kernel
theorem dX9_findOrder_52 : decode cX9_findOrder 52 = .ok (.getfield 56, 3) := by decide +kernel
theorem dX9_findOrder_55 : decode cX9_findOrder 55 = .ok (.aload_n 0, 1) := by decide +kernel
theorem dX9_findOrder_56 : decode cX9_findOrder 56 = .ok (.getfield 14, 3) := by decide +kernel
theorem dX9_findOrder_59 : decode cX9_findOrder 59 = .ok (.aload_n 0, 1) := by decide +kernel
theorem dX9_findOrder_60 : decode cX9_findOrder 60 = .ok (.getfield 60, 3) := by decide +kernel
theorem dX9_findOrder_63 : decode cX9_findOrder 63 = .ok (.invokevirtual 172, 3) := by decide +kernel
theorem dX9_findOrder_66 : decode cX9_findOrder 66 = .ok (.istore_n 3, 1) := by decide +kernel
theorem dX9_findOrder_67 : decode cX9_findOrder 67 = .ok (.iconst 0, 1) := by decide +kernel
theorem dX9_findOrder_68 : decode cX9_findOrder 68 = .ok (.istore 4, 2) := by decide +kernel
theorem dX9_findOrder_70 : decode cX9_findOrder 70 = .ok (.iload 4, 2) := by decide +kernel
theorem dX9_findOrder_72 : decode cX9_findOrder 72 = .ok (.iconst 1, 1) := by decide +kernel
theorem dX9_findOrder_73 : decode cX9_findOrder 73 = .ok (.if_icmp .gt 33, 3) := by decide +kernel
theorem dX9_findOrder_76 : decode cX9_findOrder 76 = .ok (.iload_n 3, 1) := by decide +kernel
theorem dX9_findOrder_77 : decode cX9_findOrder 77 = .ok (.ifCond .eq 29, 3) := by decide +kernel
theorem dX9_findOrder_80 : decode cX9_findOrder 80 = .ok (.aload_n 0, 1) := by decide +kernel
theorem dX9_findOrder_81 : decode cX9_findOrder 81 = .ok (.getfield 56, 3) := by decide +kernel
theorem dX9_findOrder_84 : decode cX9_findOrder 84 = .ok (.iload 4, 2) := by decide +kernel
theorem dX9_findOrder_86 : decode cX9_findOrder 86 = .ok (.invokevirtual 176, 3) := by decide +kernel
theorem dX9_findOrder_89 : decode cX9_findOrder 89 = .ok (.ifCond .eq 11, 3) := by decide +kernel
theorem dX9_findOrder_92 : decode cX9_findOrder 92 = .ok (.aload_n 0, 1) := by decide +kernel
theorem dX9_findOrder_93 : decode cX9_findOrder 93 = .ok (.iload 4, 2) := by decide +kernel
theorem dX9_findOrder_95 : decode cX9_findOrder 95 = .ok (.invokevirtual 185, 3) := by decide +kernel
theorem dX9_findOrder_98 : decode cX9_findOrder 98 = .ok (.iconst 1, 1) := by decide +kernel
theorem dX9_findOrder_99 : decode cX9_findOrder 99 = .ok (.ireturn, 1) := by decide +kernel
theorem dX9_findOrder_100 : decode cX9_findOrder 100 = .ok (.iinc 4 1, 3) := by decide +kernel
theorem dX9_findOrder_103 : decode cX9_findOrder 103 = .ok (.goto (-33), 3) := by decide +kernel
theorem dX9_findOrder_106 : decode cX9_findOrder 106 = .ok (.iinc 2 1, 3) := by decide +kernel
theorem dX9_findOrder_109 : decode cX9_findOrder 109 = .ok (.goto (-68), 3) := by decide +kernel
theorem dX9_findOrder_112 : decode cX9_findOrder 112 = .ok (.bipush (-6), 2) := by decide +kernel
theorem dX9_findOrder_114 : decode cX9_findOrder 114 = .ok (.ireturn, 1) := by decide +kernel
theorem dX9_reachableLetters_0 : decode cX9_reachableLetters 0 = .ok (.aload_n 0, 1) := by decide +kernel
theorem dX9_reachableLetters_1 : decode cX9_reachableLetters 1 = .ok (.getfield 14, 3) := by decide +kernel
theorem dX9_reachableLetters_4 : decode cX9_reachableLetters 4 = .ok (.iload_n 1, 1) := by decide +kernel
theorem dX9_reachableLetters_5 : decode cX9_reachableLetters 5 = .ok (.invokevirtual 128, 3) := by decide +kernel
theorem dX9_reachableLetters_8 : decode cX9_reachableLetters 8 = .ok (.ifCond .ne 6, 3) := by decide +kernel
theorem dX9_reachableLetters_11 : decode cX9_reachableLetters 11 = .ok (.bipush (-2), 2) := by decide +kernel
theorem dX9_reachableLetters_13 : decode cX9_reachableLetters 13 = .ok (.ireturn, 1) := by decide +kernel
theorem dX9_reachableLetters_14 : decode cX9_reachableLetters 14 = .ok (.iconst 0, 1) := by decide +kernel
theorem dX9_reachableLetters_15 : decode cX9_reachableLetters 15 = .ok (.istore_n 2, 1) := by decide +kernel
theorem dX9_reachableLetters_16 : decode cX9_reachableLetters 16 = .ok (.iconst 0, 1) := by decide +kernel
theorem dX9_reachableLetters_17 : decode cX9_reachableLetters 17 = .ok (.istore_n 3, 1) := by decide +kernel
theorem dX9_reachableLetters_18 : decode cX9_reachableLetters 18 = .ok (.iload_n 3, 1) := by decide +kernel
theorem dX9_reachableLetters_19 : decode cX9_reachableLetters 19 = .ok (.bipush 6, 2) := by decide +kernel
theorem dX9_reachableLetters_21 : decode cX9_reachableLetters 21 = .ok (.if_icmp .gt 68, 3) := by decide +kernel
theorem dX9_reachableLetters_24 : decode cX9_reachableLetters 24 = .ok (.iconst 0, 1) := by decide +kernel
theorem dX9_reachableLetters_25 : decode cX9_reachableLetters 25 = .ok (.istore 4, 2) := by decide +kernel
theorem dX9_reachableLetters_27 : decode cX9_reachableLetters 27 = .ok (.iload 4, 2) := by decide +kernel
theorem dX9_reachableLetters_29 : decode cX9_reachableLetters 29 = .ok (.aload_n 0, 1) := by decide +kernel
theorem dX9_reachableLetters_30 : decode cX9_reachableLetters 30 = .ok (.getfield 14, 3) := by decide +kernel
theorem dX9_reachableLetters_33 : decode cX9_reachableLetters 33 = .ok (.getfield 93, 3) := by decide +kernel
theorem dX9_reachableLetters_36 : decode cX9_reachableLetters 36 = .ok (.if_icmp .ge 47, 3) := by decide +kernel
theorem dX9_reachableLetters_39 : decode cX9_reachableLetters 39 = .ok (.aload_n 0, 1) := by decide +kernel
theorem dX9_reachableLetters_40 : decode cX9_reachableLetters 40 = .ok (.getfield 14, 3) := by decide +kernel
theorem dX9_reachableLetters_43 : decode cX9_reachableLetters 43 = .ok (.getfield 117, 3) := by decide +kernel
theorem dX9_reachableLetters_46 : decode cX9_reachableLetters 46 = .ok (.iload 4, 2) := by decide +kernel
theorem dX9_reachableLetters_48 : decode cX9_reachableLetters 48 = .ok (.laload, 1) := by decide +kernel
theorem dX9_reachableLetters_49 : decode cX9_reachableLetters 49 = .ok (.invokestatic 188, 3) := by decide +kernel
theorem dX9_reachableLetters_52 : decode cX9_reachableLetters 52 = .ok (.iload_n 2, 1) := by decide +kernel
theorem dX9_reachableLetters_53 : decode cX9_reachableLetters 53 = .ok (.iconst 1, 1) := by decide +kernel
theorem dX9_reachableLetters_54 : decode cX9_reachableLetters 54 = .ok (.iload_n 1, 1) := by decide +kernel
theorem dX9_reachableLetters_55 : decode cX9_reachableLetters 55 = .ok (.ishl, 1) := by decide +kernel
theorem dX9_reachableLetters_56 : decode cX9_reachableLetters 56 = .ok (.ior, 1) := by decide +kernel
theorem dX9_reachableLetters_57 : decode cX9_reachableLetters 57 = .ok (.iand, 1) := by decide +kernel
theorem dX9_reachableLetters_58 : decode cX9_reachableLetters 58 = .ok (.ifCond .eq 19, 3) := by decide +kernel
theorem dX9_reachableLetters_61 : decode cX9_reachableLetters 61 = .ok (.iload_n 2, 1) := by decide +kernel
theorem dX9_reachableLetters_62 : decode cX9_reachableLetters 62 = .ok (.aload_n 0, 1) := by decide +kernel
theorem dX9_reachableLetters_63 : decode cX9_reachableLetters 63 = .ok (.getfield 14, 3) := by decide +kernel
theorem dX9_reachableLetters_66 : decode cX9_reachableLetters 66 = .ok (.getfield 121, 3) := by decide +kernel
theorem dX9_reachableLetters_69 : decode cX9_reachableLetters 69 = .ok (.iload 4, 2) := by decide +kernel
theorem dX9_reachableLetters_71 : decode cX9_reachableLetters 71 = .ok (.laload, 1) := by decide +kernel
theorem dX9_reachableLetters_72 : decode cX9_reachableLetters 72 = .ok (.invokestatic 188, 3) := by decide +kernel
theorem dX9_reachableLetters_75 : decode cX9_reachableLetters 75 = .ok (.ior, 1) := by decide +kernel
theorem dX9_reachableLetters_76 : decode cX9_reachableLetters 76 = .ok (.istore_n 2, 1) := by decide +kernel
theorem dX9_reachableLetters_77 : decode cX9_reachableLetters 77 = .ok (.iinc 4 1, 3) := by decide +kernel
theorem dX9_reachableLetters_80 : decode cX9_reachableLetters 80 = .ok (.goto (-53), 3) := by decide +kernel
theorem dX9_reachableLetters_83 : decode cX9_reachableLetters 83 = .ok (.iinc 3 1, 3) := by decide +kernel
theorem dX9_reachableLetters_86 : decode cX9_reachableLetters 86 = .ok (.goto (-68), 3) := by decide +kernel
theorem dX9_reachableLetters_89 : decode cX9_reachableLetters 89 = .ok (.iload_n 2, 1) := by decide +kernel
theorem dX9_reachableLetters_90 : decode cX9_reachableLetters 90 = .ok (.ireturn, 1) := by decide +kernel
theorem dX9_setString_0 : decode cX9_setString 0 = .ok (.aload_n 0, 1) := by decide +kernel
theorem dX9_setString_1 : decode cX9_setString 1 = .ok (.invokevirtual 151, 3) := by decide +kernel
theorem dX9_setString_4 : decode cX9_setString 4 = .ok (.lstore_n 1, 1) := by decide +kernel
theorem dX9_setString_5 : decode cX9_setString 5 = .ok (.lload_n 1, 1) := by decide +kernel
theorem dX9_setString_6 : decode cX9_setString 6 = .ok (.ldc2_w 104, 3) := by decide +kernel
theorem dX9_setString_9 : decode cX9_setString 9 = .ok (.lcmp, 1) := by decide +kernel
theorem dX9_setString_10 : decode cX9_setString 10 = .ok (.ifCond .ne 6, 3) := by decide +kernel
theorem dX9_setString_13 : decode cX9_setString 13 = .ok (.bipush (-5), 2) := by decide +kernel
theorem dX9_setString_15 : decode cX9_setString 15 = .ok (.ireturn, 1) := by decide +kernel
theorem dX9_setString_16 : decode cX9_setString 16 = .ok (.aload_n 0, 1) := by decide +kernel
theorem dX9_setString_17 : decode cX9_setString 17 = .ok (.getfield 14, 3) := by decide +kernel
theorem dX9_setString_20 : decode cX9_setString 20 = .ok (.lload_n 1, 1) := by decide +kernel
theorem dX9_setString_21 : decode cX9_setString 21 = .ok (.putfield 155, 3) := by decide +kernel
theorem dX9_setString_24 : decode cX9_setString 24 = .ok (.lload_n 1, 1) := by decide +kernel
theorem dX9_setString_25 : decode cX9_setString 25 = .ok (.invokestatic 194, 3) := by decide +kernel
theorem dX9_setString_28 : decode cX9_setString 28 = .ok (.ireturn, 1) := by decide +kernel
theorem dX9_stringLength_0 : decode cX9_stringLength 0 = .ok (.aload_n 0, 1) := by decide +kernel
theorem dX9_stringLength_1 : decode cX9_stringLength 1 = .ok (.getfield 14, 3) := by decide +kernel
theorem dX9_stringLength_4 : decode cX9_stringLength 4 = .ok (.getfield 155, 3) := by decide +kernel
theorem dX9_stringLength_7 : decode cX9_stringLength 7 = .ok (.invokestatic 194, 3) := by decide +kernel
theorem dX9_stringLength_10 : decode cX9_stringLength 10 = .ok (.ireturn, 1) := by decide +kernel
theorem dX9_stringLetter_0 : decode cX9_stringLetter 0 = .ok (.aload_n 0, 1) := by decide +kernel
theorem dX9_stringLetter_1 : decode cX9_stringLetter 1 = .ok (.getfield 14, 3) := by decide +kernel
theorem dX9_stringLetter_4 : decode cX9_stringLetter 4 = .ok (.getfield 155, 3) := by decide +kernel
theorem dX9_stringLetter_7 : decode cX9_stringLetter 7 = .ok (.iload_n 1, 1) := by decide +kernel
theorem dX9_stringLetter_8 : decode cX9_stringLetter 8 = .ok (.invokestatic 124, 3) := by decide +kernel
theorem dX9_stringLetter_11 : decode cX9_stringLetter 11 = .ok (.ireturn, 1) := by decide +kernel
theorem dX9_stringWeight_0 : decode cX9_stringWeight 0 = .ok (.aload_n 0, 1) := by decide +kernel
theorem dX9_stringWeight_1 : decode cX9_stringWeight 1 = .ok (.getfield 14, 3) := by decide +kernel
theorem dX9_stringWeight_4 : decode cX9_stringWeight 4 = .ok (.aload_n 0, 1) := by decide +kernel
theorem dX9_stringWeight_5 : decode cX9_stringWeight 5 = .ok (.getfield 14, 3) := by decide +kernel
theorem dX9_stringWeight_8 : decode cX9_stringWeight 8 = .ok (.getfield 155, 3) := by decide +kernel
theorem dX9_stringWeight_11 : decode cX9_stringWeight 11 = .ok (.invokevirtual 197, 3) := by decide +kernel
theorem dX9_stringWeight_14 : decode cX9_stringWeight 14 = .ok (.ireturn, 1) := by decide +kernel
theorem dX9_rewrite_0 : decode cX9_rewrite 0 = .ok (.aload_n 0, 1) := by decide +kernel
theorem dX9_rewrite_1 : decode cX9_rewrite 1 = .ok (.getfield 14, 3) := by decide +kernel
theorem dX9_rewrite_4 : decode cX9_rewrite 4 = .ok (.iload_n 1, 1) := by decide +kernel
theorem dX9_rewrite_5 : decode cX9_rewrite 5 = .ok (.invokevirtual 110, 3) := by decide +kernel
theorem dX9_rewrite_8 : decode cX9_rewrite 8 = .ok (.ifCond .ne 6, 3) := by decide +kernel
theorem dX9_rewrite_11 : decode cX9_rewrite 11 = .ok (.bipush (-3), 2) := by decide +kernel
theorem dX9_rewrite_13 : decode cX9_rewrite 13 = .ok (.ireturn, 1) := by decide +kernel
theorem dX9_rewrite_14 : decode cX9_rewrite 14 = .ok (.aload_n 0, 1) := by decide +kernel
theorem dX9_rewrite_15 : decode cX9_rewrite 15 = .ok (.getfield 14, 3) := by decide +kernel
theorem dX9_rewrite_18 : decode cX9_rewrite 18 = .ok (.aload_n 0, 1) := by decide +kernel
theorem dX9_rewrite_19 : decode cX9_rewrite 19 = .ok (.getfield 14, 3) := by decide +kernel
theorem dX9_rewrite_22 : decode cX9_rewrite 22 = .ok (.getfield 155, 3) := by decide +kernel
theorem dX9_rewrite_25 : decode cX9_rewrite 25 = .ok (.iload_n 1, 1) := by decide +kernel
theorem dX9_rewrite_26 : decode cX9_rewrite 26 = .ok (.iload_n 2, 1) := by decide +kernel
theorem dX9_rewrite_27 : decode cX9_rewrite 27 = .ok (.invokevirtual 200, 3) := by decide +kernel
theorem dX9_rewrite_30 : decode cX9_rewrite 30 = .ok (.lstore_n 3, 1) := by decide +kernel
theorem dX9_rewrite_31 : decode cX9_rewrite 31 = .ok (.lload_n 3, 1) := by decide +kernel
theorem dX9_rewrite_32 : decode cX9_rewrite 32 = .ok (.ldc2_w 104, 3) := by decide +kernel
theorem dX9_rewrite_35 : decode cX9_rewrite 35 = .ok (.lcmp, 1) := by decide +kernel
theorem dX9_rewrite_36 : decode cX9_rewrite 36 = .ok (.ifCond .ne 6, 3) := by decide +kernel
theorem dX9_rewrite_39 : decode cX9_rewrite 39 = .ok (.bipush (-9), 2) := by decide +kernel
theorem dX9_rewrite_41 : decode cX9_rewrite 41 = .ok (.ireturn, 1) := by decide +kernel
theorem dX9_rewrite_42 : decode cX9_rewrite 42 = .ok (.aload_n 0, 1) := by decide +kernel
theorem dX9_rewrite_43 : decode cX9_rewrite 43 = .ok (.getfield 14, 3) := by decide +kernel
theorem dX9_rewrite_46 : decode cX9_rewrite 46 = .ok (.lload_n 3, 1) := by decide +kernel
theorem dX9_rewrite_47 : decode cX9_rewrite 47 = .ok (.putfield 155, 3) := by decide +kernel
theorem dX9_rewrite_50 : decode cX9_rewrite 50 = .ok (.lload_n 3, 1) := by decide +kernel
theorem dX9_rewrite_51 : decode cX9_rewrite 51 = .ok (.invokestatic 194, 3) := by decide +kernel
theorem dX9_rewrite_54 : decode cX9_rewrite 54 = .ok (.ireturn, 1) := by decide +kernel
theorem dX9_normalize_0 : decode cX9_normalize 0 = .ok (.iload_n 1, 1) := by decide +kernel
theorem dX9_normalize_1 : decode cX9_normalize 1 = .ok (.ifCond .lt 10, 3) := by decide +kernel
theorem dX9_normalize_4 : decode cX9_normalize 4 = .ok (.iload_n 1, 1) := by decide +kernel
theorem dX9_normalize_5 : decode cX9_normalize 5 = .ok (.sipush 1000, 3) := by decide +kernel
theorem dX9_normalize_8 : decode cX9_normalize 8 = .ok (.if_icmp .le 5, 3) := by decide +kernel
theorem dX9_normalize_11 : decode cX9_normalize 11 = .ok (.iconst (-1), 1) := by decide +kernel
theorem dX9_normalize_12 : decode cX9_normalize 12 = .ok (.ireturn, 1) := by decide +kernel
theorem dX9_normalize_13 : decode cX9_normalize 13 = .ok (.iconst 0, 1) := by decide +kernel
theorem dX9_normalize_14 : decode cX9_normalize 14 = .ok (.istore_n 2, 1) := by decide +kernel
theorem dX9_normalize_15 : decode cX9_normalize 15 = .ok (.iload_n 2, 1) := by decide +kernel
theorem dX9_normalize_16 : decode cX9_normalize 16 = .ok (.iload_n 1, 1) := by decide +kernel
theorem dX9_normalize_17 : decode cX9_normalize 17 = .ok (.if_icmp .ge 42, 3) := by decide +kernel
theorem dX9_normalize_20 : decode cX9_normalize 20 = .ok (.aload_n 0, 1) := by decide +kernel
theorem dX9_normalize_21 : decode cX9_normalize 21 = .ok (.getfield 14, 3) := by decide +kernel
theorem dX9_normalize_24 : decode cX9_normalize 24 = .ok (.aload_n 0, 1) := by decide +kernel
theorem dX9_normalize_25 : decode cX9_normalize 25 = .ok (.getfield 14, 3) := by decide +kernel
theorem dX9_normalize_28 : decode cX9_normalize 28 = .ok (.getfield 155, 3) := by decide +kernel
theorem dX9_normalize_31 : decode cX9_normalize 31 = .ok (.invokevirtual 204, 3) := by decide +kernel
theorem dX9_normalize_34 : decode cX9_normalize 34 = .ok (.lstore_n 3, 1) := by decide +kernel
theorem dX9_normalize_35 : decode cX9_normalize 35 = .ok (.lload_n 3, 1) := by decide +kernel
theorem dX9_normalize_36 : decode cX9_normalize 36 = .ok (.ldc2_w 104, 3) := by decide +kernel
theorem dX9_normalize_39 : decode cX9_normalize 39 = .ok (.lcmp, 1) := by decide +kernel
theorem dX9_normalize_40 : decode cX9_normalize 40 = .ok (.ifCond .ne 5, 3) := by decide +kernel
theorem dX9_normalize_43 : decode cX9_normalize 43 = .ok (.iload_n 2, 1) := by decide +kernel
theorem dX9_normalize_44 : decode cX9_normalize 44 = .ok (.ireturn, 1) := by decide +kernel
theorem dX9_normalize_45 : decode cX9_normalize 45 = .ok (.aload_n 0, 1) := by decide +kernel
theorem dX9_normalize_46 : decode cX9_normalize 46 = .ok (.getfield 14, 3) := by decide +kernel
theorem dX9_normalize_49 : decode cX9_normalize 49 = .ok (.lload_n 3, 1) := by decide +kernel
theorem dX9_normalize_50 : decode cX9_normalize 50 = .ok (.putfield 155, 3) := by decide +kernel
theorem dX9_normalize_53 : decode cX9_normalize 53 = .ok (.iinc 2 1, 3) := by decide +kernel
theorem dX9_normalize_56 : decode cX9_normalize 56 = .ok (.goto (-41), 3) := by decide +kernel
theorem dX9_normalize_59 : decode cX9_normalize 59 = .ok (.iload_n 1, 1) := by decide +kernel
theorem dX9_normalize_60 : decode cX9_normalize 60 = .ok (.ireturn, 1) := by decide +kernel
theorem dX9_longestDerivation_0 : decode cX9_longestDerivation 0 = .ok (.aload_n 0, 1) := by decide +kernel
theorem dX9_longestDerivation_1 : decode cX9_longestDerivation 1 = .ok (.getfield 42, 3) := by decide +kernel
theorem dX9_longestDerivation_4 : decode cX9_longestDerivation 4 = .ok (.aload_n 0, 1) := by decide +kernel
theorem dX9_longestDerivation_5 : decode cX9_longestDerivation 5 = .ok (.getfield 14, 3) := by decide +kernel
theorem dX9_longestDerivation_8 : decode cX9_longestDerivation 8 = .ok (.invokevirtual 208, 3) := by decide +kernel
theorem dX9_longestDerivation_11 : decode cX9_longestDerivation 11 = .ok (.ifCond .eq 17, 3) := by decide +kernel
theorem dX9_longestDerivation_14 : decode cX9_longestDerivation 14 = .ok (.aload_n 0, 1) := by decide +kernel
theorem dX9_longestDerivation_15 : decode cX9_longestDerivation 15 = .ok (.getfield 42, 3) := by decide +kernel
theorem dX9_longestDerivation_18 : decode cX9_longestDerivation 18 = .ok (.aload_n 0, 1) := by decide +kernel
theorem dX9_longestDerivation_19 : decode cX9_longestDerivation 19 = .ok (.getfield 14, 3) := by decide +kernel
theorem dX9_longestDerivation_22 : decode cX9_longestDerivation 22 = .ok (.invokevirtual 212, 3) := by decide +kernel
theorem dX9_longestDerivation_25 : decode cX9_longestDerivation 25 = .ok (.goto 5, 3) := by decide +kernel
theorem dX9_longestDerivation_28 : decode cX9_longestDerivation 28 = .ok (.bipush (-7), 2) := by decide +kernel
theorem dX9_longestDerivation_30 : decode cX9_longestDerivation 30 = .ok (.ireturn, 1) := by decide +kernel
theorem dX9_findLoop_0 : decode cX9_findLoop 0 = .ok (.aload_n 0, 1) := by decide +kernel
theorem dX9_findLoop_1 : decode cX9_findLoop 1 = .ok (.getfield 14, 3) := by decide +kernel
theorem dX9_findLoop_4 : decode cX9_findLoop 4 = .ok (.iload_n 1, 1) := by decide +kernel
theorem dX9_findLoop_5 : decode cX9_findLoop 5 = .ok (.invokevirtual 110, 3) := by decide +kernel
theorem dX9_findLoop_8 : decode cX9_findLoop 8 = .ok (.ifCond .eq 30, 3) := by decide +kernel
theorem dX9_findLoop_11 : decode cX9_findLoop 11 = .ok (.aload_n 0, 1) := by decide +kernel
theorem dX9_findLoop_12 : decode cX9_findLoop 12 = .ok (.getfield 42, 3) := by decide +kernel
theorem dX9_findLoop_15 : decode cX9_findLoop 15 = .ok (.aload_n 0, 1) := by decide +kernel
theorem dX9_findLoop_16 : decode cX9_findLoop 16 = .ok (.getfield 14, 3) := by decide +kernel
theorem dX9_findLoop_19 : decode cX9_findLoop 19 = .ok (.aload_n 0, 1) := by decide +kernel
theorem dX9_findLoop_20 : decode cX9_findLoop 20 = .ok (.getfield 14, 3) := by decide +kernel
theorem dX9_findLoop_23 : decode cX9_findLoop 23 = .ok (.getfield 117, 3) := by decide +kernel
theorem dX9_findLoop_26 : decode cX9_findLoop 26 = .ok (.iload_n 1, 1) := by decide +kernel
theorem dX9_findLoop_27 : decode cX9_findLoop 27 = .ok (.laload, 1) := by decide +kernel
theorem dX9_findLoop_28 : decode cX9_findLoop 28 = .ok (.aload_n 0, 1) := by decide +kernel
theorem dX9_findLoop_29 : decode cX9_findLoop 29 = .ok (.getfield 35, 3) := by decide +kernel
theorem dX9_findLoop_32 : decode cX9_findLoop 32 = .ok (.invokevirtual 216, 3) := by decide +kernel
theorem dX9_findLoop_35 : decode cX9_findLoop 35 = .ok (.goto 5, 3) := by decide +kernel
theorem dX9_findLoop_38 : decode cX9_findLoop 38 = .ok (.bipush (-3), 2) := by decide +kernel
theorem dX9_findLoop_40 : decode cX9_findLoop 40 = .ok (.ireturn, 1) := by decide +kernel
theorem dX9_loopStep_0 : decode cX9_loopStep 0 = .ok (.iload_n 2, 1) := by decide +kernel
theorem dX9_loopStep_1 : decode cX9_loopStep 1 = .ok (.ifCond .lt 8, 3) := by decide +kernel
theorem dX9_loopStep_4 : decode cX9_loopStep 4 = .ok (.iload_n 2, 1) := by decide +kernel
theorem dX9_loopStep_5 : decode cX9_loopStep 5 = .ok (.iconst 1, 1) := by decide +kernel
theorem dX9_loopStep_6 : decode cX9_loopStep 6 = .ok (.if_icmp .le 5, 3) := by decide +kernel
theorem dX9_loopStep_9 : decode cX9_loopStep 9 = .ok (.iconst (-1), 1) := by decide +kernel
theorem dX9_loopStep_10 : decode cX9_loopStep 10 = .ok (.ireturn, 1) := by decide +kernel
theorem dX9_loopStep_11 : decode cX9_loopStep 11 = .ok (.iload_n 1, 1) := by decide +kernel
theorem dX9_loopStep_12 : decode cX9_loopStep 12 = .ok (.ifCond .lt 14, 3) := by decide +kernel
theorem dX9_loopStep_15 : decode cX9_loopStep 15 = .ok (.iload_n 1, 1) := by decide +kernel
theorem dX9_loopStep_16 : decode cX9_loopStep 16 = .ok (.aload_n 0, 1) := by decide +kernel
theorem dX9_loopStep_17 : decode cX9_loopStep 17 = .ok (.getfield 35, 3) := by decide +kernel
theorem dX9_loopStep_20 : decode cX9_loopStep 20 = .ok (.getfield 79, 3) := by decide +kernel
theorem dX9_loopStep_23 : decode cX9_loopStep 23 = .ok (.if_icmp .lt 6, 3) := by decide +kernel
theorem dX9_loopStep_26 : decode cX9_loopStep 26 = .ok (.bipush (-6), 2) := by decide +kernel
theorem dX9_loopStep_28 : decode cX9_loopStep 28 = .ok (.ireturn, 1) := by decide +kernel
theorem dX9_loopStep_29 : decode cX9_loopStep 29 = .ok (.iload_n 2, 1) := by decide +kernel
theorem dX9_loopStep_30 : decode cX9_loopStep 30 = .ok (.ifCond .ne 15, 3) := by decide +kernel
theorem dX9_loopStep_33 : decode cX9_loopStep 33 = .ok (.aload_n 0, 1) := by decide +kernel
theorem dX9_loopStep_34 : decode cX9_loopStep 34 = .ok (.getfield 35, 3) := by decide +kernel
theorem dX9_loopStep_37 : decode cX9_loopStep 37 = .ok (.getfield 220, 3) := by decide +kernel
theorem dX9_loopStep_40 : decode cX9_loopStep 40 = .ok (.iload_n 1, 1) := by decide +kernel
theorem dX9_loopStep_41 : decode cX9_loopStep 41 = .ok (.iaload, 1) := by decide +kernel
theorem dX9_loopStep_42 : decode cX9_loopStep 42 = .ok (.goto 12, 3) := by decide +kernel
theorem dX9_loopStep_45 : decode cX9_loopStep 45 = .ok (.aload_n 0, 1) := by decide +kernel
theorem dX9_loopStep_46 : decode cX9_loopStep 46 = .ok (.getfield 35, 3) := by decide +kernel
theorem dX9_loopStep_49 : decode cX9_loopStep 49 = .ok (.getfield 222, 3) := by decide +kernel
theorem dX9_loopStep_52 : decode cX9_loopStep 52 = .ok (.iload_n 1, 1) := by decide +kernel
theorem dX9_loopStep_53 : decode cX9_loopStep 53 = .ok (.iaload, 1) := by decide +kernel
theorem dX9_loopStep_54 : decode cX9_loopStep 54 = .ok (.ireturn, 1) := by decide +kernel
theorem dX9_improve_0 : decode cX9_improve 0 = .ok (.iload_n 1, 1) := by decide +kernel
theorem dX9_improve_1 : decode cX9_improve 1 = .ok (.iconst 1, 1) := by decide +kernel
theorem dX9_improve_2 : decode cX9_improve 2 = .ok (.if_icmp .lt 9, 3) := by decide +kernel
theorem dX9_improve_5 : decode cX9_improve 5 = .ok (.iload_n 1, 1) := by decide +kernel
theorem dX9_improve_6 : decode cX9_improve 6 = .ok (.bipush 100, 2) := by decide +kernel
theorem dX9_improve_8 : decode cX9_improve 8 = .ok (.if_icmp .le 5, 3) := by decide +kernel
theorem dX9_improve_11 : decode cX9_improve 11 = .ok (.iconst (-1), 1) := by decide +kernel
theorem dX9_improve_12 : decode cX9_improve 12 = .ok (.ireturn, 1) := by decide +kernel
theorem dX9_improve_13 : decode cX9_improve 13 = .ok (.iconst 0, 1) := by decide +kernel
theorem dX9_improve_14 : decode cX9_improve 14 = .ok (.istore_n 2, 1) := by decide +kernel
theorem dX9_improve_15 : decode cX9_improve 15 = .ok (.iload_n 2, 1) := by decide +kernel
theorem dX9_improve_16 : decode cX9_improve 16 = .ok (.iload_n 1, 1) := by decide +kernel
theorem dX9_improve_17 : decode cX9_improve 17 = .ok (.if_icmp .ge 50, 3) := by decide +kernel
theorem dX9_improve_20 : decode cX9_improve 20 = .ok (.iconst 0, 1) := by decide +kernel
theorem dX9_improve_21 : decode cX9_improve 21 = .ok (.istore_n 3, 1) := by decide +kernel
theorem dX9_improve_22 : decode cX9_improve 22 = .ok (.iload_n 3, 1) := by decide +kernel
theorem dX9_improve_23 : decode cX9_improve 23 = .ok (.aload_n 0, 1) := by decide +kernel
theorem dX9_improve_24 : decode cX9_improve 24 = .ok (.getfield 14, 3) := by decide +kernel
theorem dX9_improve_27 : decode cX9_improve 27 = .ok (.getfield 93, 3) := by decide +kernel
theorem dX9_improve_30 : decode cX9_improve 30 = .ok (.if_icmp .ge 31, 3) := by decide +kernel
theorem dX9_improve_33 : decode cX9_improve 33 = .ok (.aload_n 0, 1) := by decide +kernel
theorem dX9_improve_34 : decode cX9_improve 34 = .ok (.getfield 14, 3) := by decide +kernel
theorem dX9_improve_37 : decode cX9_improve 37 = .ok (.iload_n 3, 1) := by decide +kernel
theorem dX9_improve_38 : decode cX9_improve 38 = .ok (.invokevirtual 225, 3) := by decide +kernel
theorem dX9_improve_41 : decode cX9_improve 41 = .ok (.ldc 229, 2) := by decide +kernel
theorem dX9_improve_43 : decode cX9_improve 43 = .ok (.fcmp .g, 1) := by decide +kernel
theorem dX9_improve_44 : decode cX9_improve 44 = .ok (.ifCond .ge 11, 3) := by decide +kernel
theorem dX9_improve_47 : decode cX9_improve 47 = .ok (.aload_n 0, 1) := by decide +kernel
theorem dX9_improve_48 : decode cX9_improve 48 = .ok (.getfield 14, 3) := by decide +kernel
theorem dX9_improve_51 : decode cX9_improve 51 = .ok (.iload_n 3, 1) := by decide +kernel
theorem dX9_improve_52 : decode cX9_improve 52 = .ok (.invokevirtual 230, 3) := by decide +kernel
theorem dX9_improve_55 : decode cX9_improve 55 = .ok (.iinc 3 1, 3) := by decide +kernel
theorem dX9_improve_58 : decode cX9_improve 58 = .ok (.goto (-36), 3) := by decide +kernel
theorem dX9_improve_61 : decode cX9_improve 61 = .ok (.iinc 2 1, 3) := by decide +kernel
theorem dX9_improve_64 : decode cX9_improve 64 = .ok (.goto (-49), 3) := by decide +kernel
theorem dX9_improve_67 : decode cX9_improve 67 = .ok (.iconst 0, 1) := by decide +kernel
theorem dX9_improve_68 : decode cX9_improve 68 = .ok (.istore_n 2, 1) := by decide +kernel
theorem dX9_improve_69 : decode cX9_improve 69 = .ok (.iconst 0, 1) := by decide +kernel
theorem dX9_improve_70 : decode cX9_improve 70 = .ok (.istore_n 3, 1) := by decide +kernel
theorem dX9_improve_71 : decode cX9_improve 71 = .ok (.iload_n 3, 1) := by decide +kernel
theorem dX9_improve_72 : decode cX9_improve 72 = .ok (.aload_n 0, 1) := by decide +kernel
theorem dX9_improve_73 : decode cX9_improve 73 = .ok (.getfield 14, 3) := by decide +kernel
theorem dX9_improve_76 : decode cX9_improve 76 = .ok (.getfield 93, 3) := by decide +kernel
theorem dX9_improve_79 : decode cX9_improve 79 = .ok (.if_icmp .ge 26, 3) := by decide +kernel
theorem dX9_improve_82 : decode cX9_improve 82 = .ok (.aload_n 0, 1) := by decide +kernel
theorem dX9_improve_83 : decode cX9_improve 83 = .ok (.getfield 14, 3) := by decide +kernel
theorem dX9_improve_86 : decode cX9_improve 86 = .ok (.iload_n 3, 1) := by decide +kernel
theorem dX9_improve_87 : decode cX9_improve 87 = .ok (.invokevirtual 225, 3) := by decide +kernel
theorem dX9_improve_90 : decode cX9_improve 90 = .ok (.ldc 229, 2) := by decide +kernel
theorem dX9_improve_92 : decode cX9_improve 92 = .ok (.fcmp .l, 1) := by decide +kernel
theorem dX9_improve_93 : decode cX9_improve 93 = .ok (.ifCond .lt 6, 3) := by decide +kernel
theorem dX9_improve_96 : decode cX9_improve 96 = .ok (.iinc 2 1, 3) := by decide +kernel
theorem dX9_improve_99 : decode cX9_improve 99 = .ok (.iinc 3 1, 3) := by decide +kernel
theorem dX9_improve_102 : decode cX9_improve 102 = .ok (.goto (-31), 3) := by decide +kernel
theorem dX9_improve_105 : decode cX9_improve 105 = .ok (.iload_n 2, 1) := by decide +kernel
theorem dX9_improve_106 : decode cX9_improve 106 = .ok (.ireturn, 1) := by decide +kernel
theorem dX9_setApproximateWeight_0 : decode cX9_setApproximateWeight 0 = .ok (.aload_n 0, 1) := by decide +kernel
theorem dX9_setApproximateWeight_1 : decode cX9_setApproximateWeight 1 = .ok (.getfield 14, 3) := by decide +kernel
theorem dX9_setApproximateWeight_4 : decode cX9_setApproximateWeight 4 = .ok (.iload_n 1, 1) := by decide +kernel
theorem dX9_setApproximateWeight_5 : decode cX9_setApproximateWeight 5 = .ok (.invokevirtual 128, 3) := by decide +kernel
theorem dX9_setApproximateWeight_8 : decode cX9_setApproximateWeight 8 = .ok (.ifCond .ne 6, 3) := by decide +kernel
theorem dX9_setApproximateWeight_11 : decode cX9_setApproximateWeight 11 = .ok (.bipush (-2), 2) := by decide +kernel
theorem dX9_setApproximateWeight_13 : decode cX9_setApproximateWeight 13 = .ok (.ireturn, 1) := by decide +kernel
theorem dX9_setApproximateWeight_14 : decode cX9_setApproximateWeight 14 = .ok (.iload_n 2, 1) := by decide +kernel
theorem dX9_setApproximateWeight_15 : decode cX9_setApproximateWeight 15 = .ok (.ifCond .lt 20, 3) := by decide +kernel
theorem dX9_setApproximateWeight_18 : decode cX9_setApproximateWeight 18 = .ok (.iload_n 2, 1) := by decide +kernel
theorem dX9_setApproximateWeight_19 : decode cX9_setApproximateWeight 19 = .ok (.ldc 233, 2) := by decide +kernel
theorem dX9_setApproximateWeight_21 : decode cX9_setApproximateWeight 21 = .ok (.if_icmp .gt 14, 3) := by decide +kernel
theorem dX9_setApproximateWeight_24 : decode cX9_setApproximateWeight 24 = .ok (.iload_n 3, 1) := by decide +kernel
theorem dX9_setApproximateWeight_25 : decode cX9_setApproximateWeight 25 = .ok (.iconst 1, 1) := by decide +kernel
theorem dX9_setApproximateWeight_26 : decode cX9_setApproximateWeight 26 = .ok (.if_icmp .lt 9, 3) := by decide +kernel
theorem dX9_setApproximateWeight_29 : decode cX9_setApproximateWeight 29 = .ok (.iload_n 3, 1) := by decide +kernel
theorem dX9_setApproximateWeight_30 : decode cX9_setApproximateWeight 30 = .ok (.ldc 233, 2) := by decide +kernel
theorem dX9_setApproximateWeight_32 : decode cX9_setApproximateWeight 32 = .ok (.if_icmp .le 5, 3) := by decide +kernel
theorem dX9_setApproximateWeight_35 : decode cX9_setApproximateWeight 35 = .ok (.iconst (-1), 1) := by decide +kernel
theorem dX9_setApproximateWeight_36 : decode cX9_setApproximateWeight 36 = .ok (.ireturn, 1) := by decide +kernel
theorem dX9_setApproximateWeight_37 : decode cX9_setApproximateWeight 37 = .ok (.aload_n 0, 1) := by decide +kernel
theorem dX9_setApproximateWeight_38 : decode cX9_setApproximateWeight 38 = .ok (.getfield 14, 3) := by decide +kernel
theorem dX9_setApproximateWeight_41 : decode cX9_setApproximateWeight 41 = .ok (.getfield 234, 3) := by decide +kernel
theorem dX9_setApproximateWeight_44 : decode cX9_setApproximateWeight 44 = .ok (.iload_n 1, 1) := by decide +kernel
theorem dX9_setApproximateWeight_45 : decode cX9_setApproximateWeight 45 = .ok (.faload, 1) := by decide +kernel
theorem dX9_setApproximateWeight_46 : decode cX9_setApproximateWeight 46 = .ok (.fstore 4, 2) := by decide +kernel
theorem dX9_setApproximateWeight_48 : decode cX9_setApproximateWeight 48 = .ok (.aload_n 0, 1) := by decide +kernel
theorem dX9_setApproximateWeight_49 : decode cX9_setApproximateWeight 49 = .ok (.getfield 14, 3) := by decide +kernel
theorem dX9_setApproximateWeight_52 : decode cX9_setApproximateWeight 52 = .ok (.getfield 234, 3) := by decide +kernel
theorem dX9_setApproximateWeight_55 : decode cX9_setApproximateWeight 55 = .ok (.iload_n 1, 1) := by decide +kernel
theorem dX9_setApproximateWeight_56 : decode cX9_setApproximateWeight 56 = .ok (.iload_n 2, 1) := by decide +kernel
theorem dX9_setApproximateWeight_57 : decode cX9_setApproximateWeight 57 = .ok (.i2f, 1) := by decide +kernel
theorem dX9_setApproximateWeight_58 : decode cX9_setApproximateWeight 58 = .ok (.iload_n 3, 1) := by decide +kernel
theorem dX9_setApproximateWeight_59 : decode cX9_setApproximateWeight 59 = .ok (.i2f, 1) := by decide +kernel
theorem dX9_setApproximateWeight_60 : decode cX9_setApproximateWeight 60 = .ok (.fdiv, 1) := by decide +kernel
theorem dX9_setApproximateWeight_61 : decode cX9_setApproximateWeight 61 = .ok (.fastore, 1) := by decide +kernel
theorem dX9_setApproximateWeight_62 : decode cX9_setApproximateWeight 62 = .ok (.aload_n 0, 1) := by decide +kernel
theorem dX9_setApproximateWeight_63 : decode cX9_setApproximateWeight 63 = .ok (.getfield 14, 3) := by decide +kernel
theorem dX9_setApproximateWeight_66 : decode cX9_setApproximateWeight 66 = .ok (.getfield 234, 3) := by decide +kernel
theorem dX9_setApproximateWeight_69 : decode cX9_setApproximateWeight 69 = .ok (.iload_n 1, 1) := by decide +kernel
theorem dX9_setApproximateWeight_70 : decode cX9_setApproximateWeight 70 = .ok (.faload, 1) := by decide +kernel
theorem dX9_setApproximateWeight_71 : decode cX9_setApproximateWeight 71 = .ok (.fload 4, 2) := by decide +kernel
theorem dX9_setApproximateWeight_73 : decode cX9_setApproximateWeight 73 = .ok (.fcmp .l, 1) := by decide +kernel
theorem dX9_setApproximateWeight_74 : decode cX9_setApproximateWeight 74 = .ok (.ifCond .eq 7, 3) := by decide +kernel
theorem dX9_setApproximateWeight_77 : decode cX9_setApproximateWeight 77 = .ok (.iconst 1, 1) := by decide +kernel
theorem dX9_setApproximateWeight_78 : decode cX9_setApproximateWeight 78 = .ok (.goto 4, 3) := by decide +kernel
theorem dX9_setApproximateWeight_81 : decode cX9_setApproximateWeight 81 = .ok (.iconst 0, 1) := by decide +kernel
theorem dX9_setApproximateWeight_82 : decode cX9_setApproximateWeight 82 = .ok (.ireturn, 1) := by decide +kernel
theorem dX9_approximateWeight_0 : decode cX9_approximateWeight 0 = .ok (.aload_n 0, 1) := by decide +kernel
theorem dX9_approximateWeight_1 : decode cX9_approximateWeight 1 = .ok (.getfield 14, 3) := by decide +kernel
theorem dX9_approximateWeight_4 : decode cX9_approximateWeight 4 = .ok (.iload_n 1, 1) := by decide +kernel
theorem dX9_approximateWeight_5 : decode cX9_approximateWeight 5 = .ok (.invokevirtual 128, 3) := by decide +kernel
theorem dX9_approximateWeight_8 : decode cX9_approximateWeight 8 = .ok (.ifCond .eq 18, 3) := by decide +kernel
theorem dX9_approximateWeight_11 : decode cX9_approximateWeight 11 = .ok (.aload_n 0, 1) := by decide +kernel
theorem dX9_approximateWeight_12 : decode cX9_approximateWeight 12 = .ok (.getfield 14, 3) := by decide +kernel
theorem dX9_approximateWeight_15 : decode cX9_approximateWeight 15 = .ok (.getfield 234, 3) := by decide +kernel
theorem dX9_approximateWeight_18 : decode cX9_approximateWeight 18 = .ok (.iload_n 1, 1) := by decide +kernel
theorem dX9_approximateWeight_19 : decode cX9_approximateWeight 19 = .ok (.faload, 1) := by decide +kernel
theorem dX9_approximateWeight_20 : decode cX9_approximateWeight 20 = .ok (.invokestatic 238, 3) := by decide +kernel
theorem dX9_approximateWeight_23 : decode cX9_approximateWeight 23 = .ok (.goto 6, 3) := by decide +kernel
theorem dX9_approximateWeight_26 : decode cX9_approximateWeight 26 = .ok (.ldc2_w 242, 3) := by decide +kernel
theorem dX9_approximateWeight_29 : decode cX9_approximateWeight 29 = .ok (.lreturn, 1) := by decide +kernel
theorem dX9_margin_0 : decode cX9_margin 0 = .ok (.aload_n 0, 1) := by decide +kernel
theorem dX9_margin_1 : decode cX9_margin 1 = .ok (.getfield 14, 3) := by decide +kernel
theorem dX9_margin_4 : decode cX9_margin 4 = .ok (.iload_n 1, 1) := by decide +kernel
theorem dX9_margin_5 : decode cX9_margin 5 = .ok (.invokevirtual 110, 3) := by decide +kernel
theorem dX9_margin_8 : decode cX9_margin 8 = .ok (.ifCond .eq 17, 3) := by decide +kernel
theorem dX9_margin_11 : decode cX9_margin 11 = .ok (.aload_n 0, 1) := by decide +kernel
theorem dX9_margin_12 : decode cX9_margin 12 = .ok (.getfield 14, 3) := by decide +kernel
theorem dX9_margin_15 : decode cX9_margin 15 = .ok (.iload_n 1, 1) := by decide +kernel
theorem dX9_margin_16 : decode cX9_margin 16 = .ok (.invokevirtual 225, 3) := by decide +kernel
theorem dX9_margin_19 : decode cX9_margin 19 = .ok (.invokestatic 238, 3) := by decide +kernel
theorem dX9_margin_22 : decode cX9_margin 22 = .ok (.goto 6, 3) := by decide +kernel
theorem dX9_margin_25 : decode cX9_margin 25 = .ok (.ldc2_w 242, 3) := by decide +kernel
theorem dX9_margin_28 : decode cX9_margin 28 = .ok (.lreturn, 1) := by decide +kernel
theorem dX9_roundWeights_0 : decode cX9_roundWeights 0 = .ok (.iload_n 1, 1) := by decide +kernel
theorem dX9_roundWeights_1 : decode cX9_roundWeights 1 = .ok (.iconst 1, 1) := by decide +kernel
theorem dX9_roundWeights_2 : decode cX9_roundWeights 2 = .ok (.if_icmp .lt 9, 3) := by decide +kernel
theorem dX9_roundWeights_5 : decode cX9_roundWeights 5 = .ok (.iload_n 1, 1) := by decide +kernel
theorem dX9_roundWeights_6 : decode cX9_roundWeights 6 = .ok (.bipush 100, 2) := by decide +kernel
theorem dX9_roundWeights_8 : decode cX9_roundWeights 8 = .ok (.if_icmp .le 5, 3) := by decide +kernel
theorem dX9_roundWeights_11 : decode cX9_roundWeights 11 = .ok (.iconst (-1), 1) := by decide +kernel
theorem dX9_roundWeights_12 : decode cX9_roundWeights 12 = .ok (.ireturn, 1) := by decide +kernel
theorem dX9_roundWeights_13 : decode cX9_roundWeights 13 = .ok (.iconst 0, 1) := by decide +kernel
theorem dX9_roundWeights_14 : decode cX9_roundWeights 14 = .ok (.istore_n 2, 1) := by decide +kernel
theorem dX9_roundWeights_15 : decode cX9_roundWeights 15 = .ok (.iload_n 2, 1) := by decide +kernel
theorem dX9_roundWeights_16 : decode cX9_roundWeights 16 = .ok (.aload_n 0, 1) := by decide +kernel
theorem dX9_roundWeights_17 : decode cX9_roundWeights 17 = .ok (.getfield 14, 3) := by decide +kernel
theorem dX9_roundWeights_20 : decode cX9_roundWeights 20 = .ok (.getfield 71, 3) := by decide +kernel
theorem dX9_roundWeights_23 : decode cX9_roundWeights 23 = .ok (.if_icmp .ge 34, 3) := by decide +kernel
theorem dX9_roundWeights_26 : decode cX9_roundWeights 26 = .ok (.aload_n 0, 1) := by decide +kernel
theorem dX9_roundWeights_27 : decode cX9_roundWeights 27 = .ok (.getfield 14, 3) := by decide +kernel
theorem dX9_roundWeights_30 : decode cX9_roundWeights 30 = .ok (.getfield 135, 3) := by decide +kernel
theorem dX9_roundWeights_33 : decode cX9_roundWeights 33 = .ok (.iload_n 2, 1) := by decide +kernel
theorem dX9_roundWeights_34 : decode cX9_roundWeights 34 = .ok (.aload_n 0, 1) := by decide +kernel
theorem dX9_roundWeights_35 : decode cX9_roundWeights 35 = .ok (.getfield 14, 3) := by decide +kernel
theorem dX9_roundWeights_38 : decode cX9_roundWeights 38 = .ok (.getfield 234, 3) := by decide +kernel
theorem dX9_roundWeights_41 : decode cX9_roundWeights 41 = .ok (.iload_n 2, 1) := by decide +kernel
theorem dX9_roundWeights_42 : decode cX9_roundWeights 42 = .ok (.faload, 1) := by decide +kernel
theorem dX9_roundWeights_43 : decode cX9_roundWeights 43 = .ok (.f2d, 1) := by decide +kernel
theorem dX9_roundWeights_44 : decode cX9_roundWeights 44 = .ok (.iload_n 1, 1) := by decide +kernel
theorem dX9_roundWeights_45 : decode cX9_roundWeights 45 = .ok (.i2d, 1) := by decide +kernel
theorem dX9_roundWeights_46 : decode cX9_roundWeights 46 = .ok (.dmul, 1) := by decide +kernel
theorem dX9_roundWeights_47 : decode cX9_roundWeights 47 = .ok (.invokestatic 244, 3) := by decide +kernel
theorem dX9_roundWeights_50 : decode cX9_roundWeights 50 = .ok (.iastore, 1) := by decide +kernel
theorem dX9_roundWeights_51 : decode cX9_roundWeights 51 = .ok (.iinc 2 1, 3) := by decide +kernel
theorem dX9_roundWeights_54 : decode cX9_roundWeights 54 = .ok (.goto (-39), 3) := by decide +kernel
theorem dX9_roundWeights_57 : decode cX9_roundWeights 57 = .ok (.iconst 0, 1) := by decide +kernel
theorem dX9_roundWeights_58 : decode cX9_roundWeights 58 = .ok (.istore_n 2, 1) := by decide +kernel
theorem dX9_roundWeights_59 : decode cX9_roundWeights 59 = .ok (.iconst 0, 1) := by decide +kernel
theorem dX9_roundWeights_60 : decode cX9_roundWeights 60 = .ok (.istore_n 3, 1) := by decide +kernel
theorem dX9_roundWeights_61 : decode cX9_roundWeights 61 = .ok (.iload_n 3, 1) := by decide +kernel
theorem dX9_roundWeights_62 : decode cX9_roundWeights 62 = .ok (.aload_n 0, 1) := by decide +kernel
theorem dX9_roundWeights_63 : decode cX9_roundWeights 63 = .ok (.getfield 14, 3) := by decide +kernel
theorem dX9_roundWeights_66 : decode cX9_roundWeights 66 = .ok (.getfield 93, 3) := by decide +kernel
theorem dX9_roundWeights_69 : decode cX9_roundWeights 69 = .ok (.if_icmp .ge 47, 3) := by decide +kernel
theorem dX9_roundWeights_72 : decode cX9_roundWeights 72 = .ok (.aload_n 0, 1) := by decide +kernel
theorem dX9_roundWeights_73 : decode cX9_roundWeights 73 = .ok (.getfield 14, 3) := by decide +kernel
theorem dX9_roundWeights_76 : decode cX9_roundWeights 76 = .ok (.aload_n 0, 1) := by decide +kernel
theorem dX9_roundWeights_77 : decode cX9_roundWeights 77 = .ok (.getfield 14, 3) := by decide +kernel
theorem dX9_roundWeights_80 : decode cX9_roundWeights 80 = .ok (.getfield 117, 3) := by decide +kernel
theorem dX9_roundWeights_83 : decode cX9_roundWeights 83 = .ok (.iload_n 3, 1) := by decide +kernel
theorem dX9_roundWeights_84 : decode cX9_roundWeights 84 = .ok (.laload, 1) := by decide +kernel
theorem dX9_roundWeights_85 : decode cX9_roundWeights 85 = .ok (.invokevirtual 197, 3) := by decide +kernel
theorem dX9_roundWeights_88 : decode cX9_roundWeights 88 = .ok (.aload_n 0, 1) := by decide +kernel
theorem dX9_roundWeights_89 : decode cX9_roundWeights 89 = .ok (.getfield 14, 3) := by decide +kernel
theorem dX9_roundWeights_92 : decode cX9_roundWeights 92 = .ok (.aload_n 0, 1) := by decide +kernel
theorem dX9_roundWeights_93 : decode cX9_roundWeights 93 = .ok (.getfield 14, 3) := by decide +kernel
theorem dX9_roundWeights_96 : decode cX9_roundWeights 96 = .ok (.getfield 121, 3) := by decide +kernel
theorem dX9_roundWeights_99 : decode cX9_roundWeights 99 = .ok (.iload_n 3, 1) := by decide +kernel
theorem dX9_roundWeights_100 : decode cX9_roundWeights 100 = .ok (.laload, 1) := by decide +kernel
theorem dX9_roundWeights_101 : decode cX9_roundWeights 101 = .ok (.invokevirtual 197, 3) := by decide +kernel
theorem dX9_roundWeights_104 : decode cX9_roundWeights 104 = .ok (.if_icmp .le 6, 3) := by decide +kernel
theorem dX9_roundWeights_107 : decode cX9_roundWeights 107 = .ok (.iinc 2 1, 3) := by decide +kernel
theorem dX9_roundWeights_110 : decode cX9_roundWeights 110 = .ok (.iinc 3 1, 3) := by decide +kernel
theorem dX9_roundWeights_113 : decode cX9_roundWeights 113 = .ok (.goto (-52), 3) := by decide +kernel
theorem dX9_roundWeights_116 : decode cX9_roundWeights 116 = .ok (.iload_n 2, 1) := by decide +kernel
theorem dX9_roundWeights_117 : decode cX9_roundWeights 117 = .ok (.ireturn, 1) := by decide +kernel
theorem dX9_allocate_0 : decode cX9_allocate 0 = .ok (.iload_n 1, 1) := by decide +kernel
theorem dX9_allocate_1 : decode cX9_allocate 1 = .ok (.invokestatic 248, 3) := by decide +kernel
theorem dX9_allocate_4 : decode cX9_allocate 4 = .ok (.ifCond .eq 18, 3) := by decide +kernel
theorem dX9_allocate_7 : decode cX9_allocate 7 = .ok (.iload_n 2, 1) := by decide +kernel
theorem dX9_allocate_8 : decode cX9_allocate 8 = .ok (.ifCond .lt 14, 3) := by decide +kernel
theorem dX9_allocate_11 : decode cX9_allocate 11 = .ok (.iload_n 2, 1) := by decide +kernel
theorem dX9_allocate_12 : decode cX9_allocate 12 = .ok (.iconst 3, 1) := by decide +kernel
theorem dX9_allocate_13 : decode cX9_allocate 13 = .ok (.if_icmp .gt 9, 3) := by decide +kernel
theorem dX9_allocate_16 : decode cX9_allocate 16 = .ok (.iload_n 3, 1) := by decide +kernel
theorem dX9_allocate_17 : decode cX9_allocate 17 = .ok (.bipush 40, 2) := by decide +kernel
theorem dX9_allocate_19 : decode cX9_allocate 19 = .ok (.if_icmp .le 5, 3) := by decide +kernel
theorem dX9_allocate_22 : decode cX9_allocate 22 = .ok (.iconst (-1), 1) := by decide +kernel
theorem dX9_allocate_23 : decode cX9_allocate 23 = .ok (.ireturn, 1) := by decide +kernel
theorem dX9_allocate_24 : decode cX9_allocate 24 = .ok (.iload_n 3, 1) := by decide +kernel
theorem dX9_allocate_25 : decode cX9_allocate 25 = .ok (.ifCond .ge 6, 3) := by decide +kernel
theorem dX9_allocate_28 : decode cX9_allocate 28 = .ok (.bipush (-14), 2) := by decide +kernel
theorem dX9_allocate_30 : decode cX9_allocate 30 = .ok (.ireturn, 1) := by decide +kernel
theorem dX9_allocate_31 : decode cX9_allocate 31 = .ok (.aload_n 0, 1) := by decide +kernel
theorem dX9_allocate_32 : decode cX9_allocate 32 = .ok (.getfield 66, 3) := by decide +kernel
theorem dX9_allocate_35 : decode cX9_allocate 35 = .ok (.iload_n 1, 1) := by decide +kernel
theorem dX9_allocate_36 : decode cX9_allocate 36 = .ok (.aaload, 1) := by decide +kernel
theorem dX9_allocate_37 : decode cX9_allocate 37 = .ok (.iload_n 2, 1) := by decide +kernel
theorem dX9_allocate_38 : decode cX9_allocate 38 = .ok (.iload_n 3, 1) := by decide +kernel
theorem dX9_allocate_39 : decode cX9_allocate 39 = .ok (.invokevirtual 251, 3) := by decide +kernel
theorem dX9_allocate_42 : decode cX9_allocate 42 = .ok (.iload_n 3, 1) := by decide +kernel
theorem dX9_allocate_43 : decode cX9_allocate 43 = .ok (.ireturn, 1) := by decide +kernel
theorem dX9_release_0 : decode cX9_release 0 = .ok (.iload_n 1, 1) := by decide +kernel
theorem dX9_release_1 : decode cX9_release 1 = .ok (.invokestatic 248, 3) := by decide +kernel
theorem dX9_release_4 : decode cX9_release 4 = .ok (.ifCond .ne 5, 3) := by decide +kernel
theorem dX9_release_7 : decode cX9_release 7 = .ok (.iconst (-1), 1) := by decide +kernel
theorem dX9_release_8 : decode cX9_release 8 = .ok (.ireturn, 1) := by decide +kernel
theorem dX9_release_9 : decode cX9_release 9 = .ok (.aload_n 0, 1) := by decide +kernel
theorem dX9_release_10 : decode cX9_release 10 = .ok (.getfield 66, 3) := by decide +kernel
theorem dX9_release_13 : decode cX9_release 13 = .ok (.iload_n 1, 1) := by decide +kernel
theorem dX9_release_14 : decode cX9_release 14 = .ok (.aaload, 1) := by decide +kernel
theorem dX9_release_15 : decode cX9_release 15 = .ok (.invokevirtual 255, 3) := by decide +kernel
theorem dX9_release_18 : decode cX9_release 18 = .ok (.ifCond .ne 7, 3) := by decide +kernel
theorem dX9_release_21 : decode cX9_release 21 = .ok (.iconst 1, 1) := by decide +kernel
theorem dX9_release_22 : decode cX9_release 22 = .ok (.goto 4, 3) := by decide +kernel
theorem dX9_release_25 : decode cX9_release 25 = .ok (.iconst 0, 1) := by decide +kernel
theorem dX9_release_26 : decode cX9_release 26 = .ok (.istore_n 2, 1) := by decide +kernel
theorem dX9_release_27 : decode cX9_release 27 = .ok (.aload_n 0, 1) := by decide +kernel
theorem dX9_release_28 : decode cX9_release 28 = .ok (.getfield 66, 3) := by decide +kernel
theorem dX9_release_31 : decode cX9_release 31 = .ok (.iload_n 1, 1) := by decide +kernel
theorem dX9_release_32 : decode cX9_release 32 = .ok (.aaload, 1) := by decide +kernel
theorem dX9_release_33 : decode cX9_release 33 = .ok (.iconst (-1), 1) := by decide +kernel
theorem dX9_release_34 : decode cX9_release 34 = .ok (.iconst 0, 1) := by decide +kernel
theorem dX9_release_35 : decode cX9_release 35 = .ok (.invokevirtual 251, 3) := by decide +kernel
theorem dX9_release_38 : decode cX9_release 38 = .ok (.iload_n 2, 1) := by decide +kernel
theorem dX9_release_39 : decode cX9_release 39 = .ok (.ifCond .eq 7, 3) := by decide +kernel
theorem dX9_release_42 : decode cX9_release 42 = .ok (.iconst 1, 1) := by decide +kernel
theorem dX9_release_43 : decode cX9_release 43 = .ok (.goto 4, 3) := by decide +kernel
theorem dX9_release_46 : decode cX9_release 46 = .ok (.iconst 0, 1) := by decide +kernel
theorem dX9_release_47 : decode cX9_release 47 = .ok (.ireturn, 1) := by decide +kernel
theorem dX9_putElement_0 : decode cX9_putElement 0 = .ok (.iload_n 1, 1) := by decide +kernel
theorem dX9_putElement_1 : decode cX9_putElement 1 = .ok (.invokestatic 248, 3) := by decide +kernel
theorem dX9_putElement_4 : decode cX9_putElement 4 = .ok (.ifCond .ne 5, 3) := by decide +kernel
theorem dX9_putElement_7 : decode cX9_putElement 7 = .ok (.iconst (-1), 1) := by decide +kernel
theorem dX9_putElement_8 : decode cX9_putElement 8 = .ok (.ireturn, 1) := by decide +kernel
theorem dX9_putElement_9 : decode cX9_putElement 9 = .ok (.aload_n 0, 1) := by decide +kernel
theorem dX9_putElement_10 : decode cX9_putElement 10 = .ok (.getfield 66, 3) := by decide +kernel
theorem dX9_putElement_13 : decode cX9_putElement 13 = .ok (.iload_n 1, 1) := by decide +kernel
theorem dX9_putElement_14 : decode cX9_putElement 14 = .ok (.aaload, 1) := by decide +kernel
theorem dX9_putElement_15 : decode cX9_putElement 15 = .ok (.invokevirtual 255, 3) := by decide +kernel
theorem dX9_putElement_18 : decode cX9_putElement 18 = .ok (.ifCond .eq 6, 3) := by decide +kernel
theorem dX9_putElement_21 : decode cX9_putElement 21 = .ok (.bipush (-11), 2) := by decide +kernel
theorem dX9_putElement_23 : decode cX9_putElement 23 = .ok (.ireturn, 1) := by decide +kernel
theorem dX9_putElement_24 : decode cX9_putElement 24 = .ok (.aload_n 0, 1) := by decide +kernel
theorem dX9_putElement_25 : decode cX9_putElement 25 = .ok (.getfield 66, 3) := by decide +kernel
theorem dX9_putElement_28 : decode cX9_putElement 28 = .ok (.iload_n 1, 1) := by decide +kernel
theorem dX9_putElement_29 : decode cX9_putElement 29 = .ok (.aaload, 1) := by decide +kernel
theorem dX9_putElement_30 : decode cX9_putElement 30 = .ok (.iload_n 2, 1) := by decide +kernel
theorem dX9_putElement_31 : decode cX9_putElement 31 = .ok (.invokevirtual 258, 3) := by decide +kernel
theorem dX9_putElement_34 : decode cX9_putElement 34 = .ok (.ifCond .ne 6, 3) := by decide +kernel
theorem dX9_putElement_37 : decode cX9_putElement 37 = .ok (.bipush (-13), 2) := by decide +kernel
theorem dX9_putElement_39 : decode cX9_putElement 39 = .ok (.ireturn, 1) := by decide +kernel
theorem dX9_putElement_40 : decode cX9_putElement 40 = .ok (.aload_n 0, 1) := by decide +kernel
theorem dX9_putElement_41 : decode cX9_putElement 41 = .ok (.getfield 66, 3) := by decide +kernel
theorem dX9_putElement_44 : decode cX9_putElement 44 = .ok (.iload_n 1, 1) := by decide +kernel
theorem dX9_putElement_45 : decode cX9_putElement 45 = .ok (.aaload, 1) := by decide +kernel
theorem dX9_putElement_46 : decode cX9_putElement 46 = .ok (.iload_n 2, 1) := by decide +kernel
theorem dX9_putElement_47 : decode cX9_putElement 47 = .ok (.lload_n 3, 1) := by decide +kernel
theorem dX9_putElement_48 : decode cX9_putElement 48 = .ok (.invokevirtual 261, 3) := by decide +kernel
theorem dX9_putElement_51 : decode cX9_putElement 51 = .ok (.iconst 1, 1) := by decide +kernel
theorem dX9_putElement_52 : decode cX9_putElement 52 = .ok (.ireturn, 1) := by decide +kernel
theorem dX9_divideElement_0 : decode cX9_divideElement 0 = .ok (.iload_n 1, 1) := by decide +kernel
theorem dX9_divideElement_1 : decode cX9_divideElement 1 = .ok (.invokestatic 248, 3) := by decide +kernel
theorem dX9_divideElement_4 : decode cX9_divideElement 4 = .ok (.ifCond .ne 5, 3) := by decide +kernel
theorem dX9_divideElement_7 : decode cX9_divideElement 7 = .ok (.iconst (-1), 1) := by decide +kernel
theorem dX9_divideElement_8 : decode cX9_divideElement 8 = .ok (.ireturn, 1) := by decide +kernel
theorem dX9_divideElement_9 : decode cX9_divideElement 9 = .ok (.aload_n 0, 1) := by decide +kernel
theorem dX9_divideElement_10 : decode cX9_divideElement 10 = .ok (.getfield 66, 3) := by decide +kernel
theorem dX9_divideElement_13 : decode cX9_divideElement 13 = .ok (.iload_n 1, 1) := by decide +kernel
theorem dX9_divideElement_14 : decode cX9_divideElement 14 = .ok (.aaload, 1) := by decide +kernel
theorem dX9_divideElement_15 : decode cX9_divideElement 15 = .ok (.invokevirtual 255, 3) := by decide +kernel
theorem dX9_divideElement_18 : decode cX9_divideElement 18 = .ok (.ifCond .eq 6, 3) := by decide +kernel
theorem dX9_divideElement_21 : decode cX9_divideElement 21 = .ok (.bipush (-11), 2) := by decide +kernel
theorem dX9_divideElement_23 : decode cX9_divideElement 23 = .ok (.ireturn, 1) := by decide +kernel
theorem dX9_divideElement_24 : decode cX9_divideElement 24 = .ok (.aload_n 0, 1) := by decide +kernel
theorem dX9_divideElement_25 : decode cX9_divideElement 25 = .ok (.getfield 66, 3) := by decide +kernel
theorem dX9_divideElement_28 : decode cX9_divideElement 28 = .ok (.iload_n 1, 1) := by decide +kernel
theorem dX9_divideElement_29 : decode cX9_divideElement 29 = .ok (.aaload, 1) := by decide +kernel
theorem dX9_divideElement_30 : decode cX9_divideElement 30 = .ok (.getfield 264, 3) := by decide +kernel
theorem dX9_divideElement_33 : decode cX9_divideElement 33 = .ok (.iconst 2, 1) := by decide +kernel
theorem dX9_divideElement_34 : decode cX9_divideElement 34 = .ok (.if_icmp .ge 6, 3) := by decide +kernel
theorem dX9_divideElement_37 : decode cX9_divideElement 37 = .ok (.bipush (-12), 2) := by decide +kernel
theorem dX9_divideElement_39 : decode cX9_divideElement 39 = .ok (.ireturn, 1) := by decide +kernel
theorem dX9_divideElement_40 : decode cX9_divideElement 40 = .ok (.aload_n 0, 1) := by decide +kernel
theorem dX9_divideElement_41 : decode cX9_divideElement 41 = .ok (.getfield 66, 3) := by decide +kernel
theorem dX9_divideElement_44 : decode cX9_divideElement 44 = .ok (.iload_n 1, 1) := by decide +kernel
theorem dX9_divideElement_45 : decode cX9_divideElement 45 = .ok (.aaload, 1) := by decide +kernel
theorem dX9_divideElement_46 : decode cX9_divideElement 46 = .ok (.iload_n 2, 1) := by decide +kernel
theorem dX9_divideElement_47 : decode cX9_divideElement 47 = .ok (.invokevirtual 258, 3) := by decide +kernel
theorem dX9_divideElement_50 : decode cX9_divideElement 50 = .ok (.ifCond .ne 6, 3) := by decide +kernel
theorem dX9_divideElement_53 : decode cX9_divideElement 53 = .ok (.bipush (-13), 2) := by decide +kernel
theorem dX9_divideElement_55 : decode cX9_divideElement 55 = .ok (.ireturn, 1) := by decide +kernel
theorem dX9_divideElement_56 : decode cX9_divideElement 56 = .ok (.aload_n 0, 1) := by decide +kernel
theorem dX9_divideElement_57 : decode cX9_divideElement 57 = .ok (.getfield 66, 3) := by decide +kernel
theorem dX9_divideElement_60 : decode cX9_divideElement 60 = .ok (.iload_n 1, 1) := by decide +kernel
theorem dX9_divideElement_61 : decode cX9_divideElement 61 = .ok (.aaload, 1) := by decide +kernel
theorem dX9_divideElement_62 : decode cX9_divideElement 62 = .ok (.iload_n 2, 1) := by decide +kernel
theorem dX9_divideElement_63 : decode cX9_divideElement 63 = .ok (.iload_n 3, 1) := by decide +kernel
theorem dX9_divideElement_64 : decode cX9_divideElement 64 = .ok (.invokevirtual 267, 3) := by decide +kernel
theorem dX9_divideElement_67 : decode cX9_divideElement 67 = .ok (.iconst 1, 1) := by decide +kernel
theorem dX9_divideElement_68 : decode cX9_divideElement 68 = .ok (.ireturn, 1) := by decide +kernel
theorem dX9_element_0 : decode cX9_element 0 = .ok (.iload_n 1, 1) := by decide +kernel
theorem dX9_element_1 : decode cX9_element 1 = .ok (.invokestatic 248, 3) := by decide +kernel
theorem dX9_element_4 : decode cX9_element 4 = .ok (.ifCond .eq 29, 3) := by decide +kernel
theorem dX9_element_7 : decode cX9_element 7 = .ok (.aload_n 0, 1) := by decide +kernel
theorem dX9_element_8 : decode cX9_element 8 = .ok (.getfield 66, 3) := by decide +kernel
theorem dX9_element_11 : decode cX9_element 11 = .ok (.iload_n 1, 1) := by decide +kernel
theorem dX9_element_12 : decode cX9_element 12 = .ok (.aaload, 1) := by decide +kernel
theorem dX9_element_13 : decode cX9_element 13 = .ok (.iload_n 2, 1) := by decide +kernel
theorem dX9_element_14 : decode cX9_element 14 = .ok (.invokevirtual 258, 3) := by decide +kernel
theorem dX9_element_17 : decode cX9_element 17 = .ok (.ifCond .eq 16, 3) := by decide +kernel
theorem dX9_element_20 : decode cX9_element 20 = .ok (.aload_n 0, 1) := by decide +kernel
theorem dX9_element_21 : decode cX9_element 21 = .ok (.getfield 66, 3) := by decide +kernel
theorem dX9_element_24 : decode cX9_element 24 = .ok (.iload_n 1, 1) := by decide +kernel
theorem dX9_element_25 : decode cX9_element 25 = .ok (.aaload, 1) := by decide +kernel
theorem dX9_element_26 : decode cX9_element 26 = .ok (.iload_n 2, 1) := by decide +kernel
theorem dX9_element_27 : decode cX9_element 27 = .ok (.invokevirtual 270, 3) := by decide +kernel
theorem dX9_element_30 : decode cX9_element 30 = .ok (.goto 6, 3) := by decide +kernel
theorem dX9_element_33 : decode cX9_element 33 = .ok (.ldc2_w 242, 3) := by decide +kernel
theorem dX9_element_36 : decode cX9_element 36 = .ok (.lreturn, 1) := by decide +kernel
theorem dX9_copyElements_0 : decode cX9_copyElements 0 = .ok (.iload_n 1, 1) := by decide +kernel
theorem dX9_copyElements_1 : decode cX9_copyElements 1 = .ok (.invokestatic 248, 3) := by decide +kernel
theorem dX9_copyElements_4 : decode cX9_copyElements 4 = .ok (.ifCond .eq 10, 3) := by decide +kernel
theorem dX9_copyElements_7 : decode cX9_copyElements 7 = .ok (.iload_n 3, 1) := by decide +kernel
theorem dX9_copyElements_8 : decode cX9_copyElements 8 = .ok (.invokestatic 248, 3) := by decide +kernel
theorem dX9_copyElements_11 : decode cX9_copyElements 11 = .ok (.ifCond .ne 5, 3) := by decide +kernel
theorem dX9_copyElements_14 : decode cX9_copyElements 14 = .ok (.iconst (-1), 1) := by decide +kernel
theorem dX9_copyElements_15 : decode cX9_copyElements 15 = .ok (.ireturn, 1) := by decide +kernel
theorem dX9_copyElements_16 : decode cX9_copyElements 16 = .ok (.aload_n 0, 1) := by decide +kernel
theorem dX9_copyElements_17 : decode cX9_copyElements 17 = .ok (.getfield 66, 3) := by decide +kernel
theorem dX9_copyElements_20 : decode cX9_copyElements 20 = .ok (.iload_n 1, 1) := by decide +kernel
theorem dX9_copyElements_21 : decode cX9_copyElements 21 = .ok (.aaload, 1) := by decide +kernel
theorem dX9_copyElements_22 : decode cX9_copyElements 22 = .ok (.invokevirtual 255, 3) := by decide +kernel
theorem dX9_copyElements_25 : decode cX9_copyElements 25 = .ok (.ifCond .ne 15, 3) := by decide +kernel
theorem dX9_copyElements_28 : decode cX9_copyElements 28 = .ok (.aload_n 0, 1) := by decide +kernel
theorem dX9_copyElements_29 : decode cX9_copyElements 29 = .ok (.getfield 66, 3) := by decide +kernel
theorem dX9_copyElements_32 : decode cX9_copyElements 32 = .ok (.iload_n 3, 1) := by decide +kernel
theorem dX9_copyElements_33 : decode cX9_copyElements 33 = .ok (.aaload, 1) := by decide +kernel
theorem dX9_copyElements_34 : decode cX9_copyElements 34 = .ok (.invokevirtual 255, 3) := by decide +kernel
theorem dX9_copyElements_37 : decode cX9_copyElements 37 = .ok (.ifCond .eq 6, 3) := by decide +kernel
theorem dX9_copyElements_40 : decode cX9_copyElements 40 = .ok (.bipush (-11), 2) := by decide +kernel
theorem dX9_copyElements_42 : decode cX9_copyElements 42 = .ok (.ireturn, 1) := by decide +kernel
theorem dX9_copyElements_43 : decode cX9_copyElements 43 = .ok (.aload_n 0, 1) := by decide +kernel
theorem dX9_copyElements_44 : decode cX9_copyElements 44 = .ok (.getfield 66, 3) := by decide +kernel
theorem dX9_copyElements_47 : decode cX9_copyElements 47 = .ok (.iload_n 1, 1) := by decide +kernel
theorem dX9_copyElements_48 : decode cX9_copyElements 48 = .ok (.aaload, 1) := by decide +kernel
theorem dX9_copyElements_49 : decode cX9_copyElements 49 = .ok (.getfield 264, 3) := by decide +kernel
theorem dX9_copyElements_52 : decode cX9_copyElements 52 = .ok (.aload_n 0, 1) := by decide +kernel
theorem dX9_copyElements_53 : decode cX9_copyElements 53 = .ok (.getfield 66, 3) := by decide +kernel
theorem dX9_copyElements_56 : decode cX9_copyElements 56 = .ok (.iload_n 3, 1) := by decide +kernel
theorem dX9_copyElements_57 : decode cX9_copyElements 57 = .ok (.aaload, 1) := by decide +kernel
theorem dX9_copyElements_58 : decode cX9_copyElements 58 = .ok (.getfield 264, 3) := by decide +kernel
theorem dX9_copyElements_61 : decode cX9_copyElements 61 = .ok (.if_icmp .eq 6, 3) := by decide +kernel
theorem dX9_copyElements_64 : decode cX9_copyElements 64 = .ok (.bipush (-12), 2) := by decide +kernel
theorem dX9_copyElements_66 : decode cX9_copyElements 66 = .ok (.ireturn, 1) := by decide +kernel
theorem dX9_copyElements_67 : decode cX9_copyElements 67 = .ok (.aload_n 0, 1) := by decide +kernel
theorem dX9_copyElements_68 : decode cX9_copyElements 68 = .ok (.getfield 66, 3) := by decide +kernel
theorem dX9_copyElements_71 : decode cX9_copyElements 71 = .ok (.iload_n 1, 1) := by decide +kernel
theorem dX9_copyElements_72 : decode cX9_copyElements 72 = .ok (.aaload, 1) := by decide +kernel
theorem dX9_copyElements_73 : decode cX9_copyElements 73 = .ok (.iload_n 2, 1) := by decide +kernel
theorem dX9_copyElements_74 : decode cX9_copyElements 74 = .ok (.iload 5, 2) := by decide +kernel
theorem dX9_copyElements_76 : decode cX9_copyElements 76 = .ok (.invokevirtual 274, 3) := by decide +kernel
theorem dX9_copyElements_79 : decode cX9_copyElements 79 = .ok (.ifCond .eq 19, 3) := by decide +kernel
theorem dX9_copyElements_82 : decode cX9_copyElements 82 = .ok (.aload_n 0, 1) := by decide +kernel
theorem dX9_copyElements_83 : decode cX9_copyElements 83 = .ok (.getfield 66, 3) := by decide +kernel
theorem dX9_copyElements_86 : decode cX9_copyElements 86 = .ok (.iload_n 3, 1) := by decide +kernel
theorem dX9_copyElements_87 : decode cX9_copyElements 87 = .ok (.aaload, 1) := by decide +kernel
theorem dX9_copyElements_88 : decode cX9_copyElements 88 = .ok (.iload 4, 2) := by decide +kernel
theorem dX9_copyElements_90 : decode cX9_copyElements 90 = .ok (.iload 5, 2) := by decide +kernel
theorem dX9_copyElements_92 : decode cX9_copyElements 92 = .ok (.invokevirtual 274, 3) := by decide +kernel
theorem dX9_copyElements_95 : decode cX9_copyElements 95 = .ok (.ifCond .ne 6, 3) := by decide +kernel
theorem dX9_copyElements_98 : decode cX9_copyElements 98 = .ok (.bipush (-13), 2) := by decide +kernel
theorem dX9_copyElements_100 : decode cX9_copyElements 100 = .ok (.ireturn, 1) := by decide +kernel
theorem dX9_copyElements_101 : decode cX9_copyElements 101 = .ok (.aload_n 0, 1) := by decide +kernel
theorem dX9_copyElements_102 : decode cX9_copyElements 102 = .ok (.getfield 66, 3) := by decide +kernel
theorem dX9_copyElements_105 : decode cX9_copyElements 105 = .ok (.iload_n 3, 1) := by decide +kernel
theorem dX9_copyElements_106 : decode cX9_copyElements 106 = .ok (.aaload, 1) := by decide +kernel
theorem dX9_copyElements_107 : decode cX9_copyElements 107 = .ok (.aload_n 0, 1) := by decide +kernel
theorem dX9_copyElements_108 : decode cX9_copyElements 108 = .ok (.getfield 66, 3) := by decide +kernel
theorem dX9_copyElements_111 : decode cX9_copyElements 111 = .ok (.iload_n 1, 1) := by decide +kernel
theorem dX9_copyElements_112 : decode cX9_copyElements 112 = .ok (.aaload, 1) := by decide +kernel
theorem dX9_copyElements_113 : decode cX9_copyElements 113 = .ok (.iload_n 2, 1) := by decide +kernel
theorem dX9_copyElements_114 : decode cX9_copyElements 114 = .ok (.iload 4, 2) := by decide +kernel
theorem dX9_copyElements_116 : decode cX9_copyElements 116 = .ok (.iload 5, 2) := by decide +kernel
theorem dX9_copyElements_118 : decode cX9_copyElements 118 = .ok (.invokevirtual 277, 3) := by decide +kernel
theorem dX9_copyElements_121 : decode cX9_copyElements 121 = .ok (.iload 5, 2) := by decide +kernel
theorem dX9_copyElements_123 : decode cX9_copyElements 123 = .ok (.ireturn, 1) := by decide +kernel
theorem dX9_checkCertificate_0 : decode cX9_checkCertificate 0 = .ok (.iload_n 1, 1) := by decide +kernel
theorem dX9_checkCertificate_1 : decode cX9_checkCertificate 1 = .ok (.invokestatic 248, 3) := by decide +kernel
theorem dX9_checkCertificate_4 : decode cX9_checkCertificate 4 = .ok (.ifCond .ne 5, 3) := by decide +kernel
theorem dX9_checkCertificate_7 : decode cX9_checkCertificate 7 = .ok (.iconst (-1), 1) := by decide +kernel
theorem dX9_checkCertificate_8 : decode cX9_checkCertificate 8 = .ok (.ireturn, 1) := by decide +kernel
theorem dX9_checkCertificate_9 : decode cX9_checkCertificate 9 = .ok (.aload_n 0, 1) := by decide +kernel
theorem dX9_checkCertificate_10 : decode cX9_checkCertificate 10 = .ok (.getfield 66, 3) := by decide +kernel
theorem dX9_checkCertificate_13 : decode cX9_checkCertificate 13 = .ok (.iload_n 1, 1) := by decide +kernel
theorem dX9_checkCertificate_14 : decode cX9_checkCertificate 14 = .ok (.aaload, 1) := by decide +kernel
theorem dX9_checkCertificate_15 : decode cX9_checkCertificate 15 = .ok (.invokevirtual 255, 3) := by decide +kernel
theorem dX9_checkCertificate_18 : decode cX9_checkCertificate 18 = .ok (.ifCond .eq 6, 3) := by decide +kernel
theorem dX9_checkCertificate_21 : decode cX9_checkCertificate 21 = .ok (.bipush (-11), 2) := by decide +kernel
theorem dX9_checkCertificate_23 : decode cX9_checkCertificate 23 = .ok (.ireturn, 1) := by decide +kernel
theorem dX9_checkCertificate_24 : decode cX9_checkCertificate 24 = .ok (.aload_n 0, 1) := by decide +kernel
theorem dX9_checkCertificate_25 : decode cX9_checkCertificate 25 = .ok (.getfield 66, 3) := by decide +kernel
theorem dX9_checkCertificate_28 : decode cX9_checkCertificate 28 = .ok (.iload_n 1, 1) := by decide +kernel
theorem dX9_checkCertificate_29 : decode cX9_checkCertificate 29 = .ok (.aaload, 1) := by decide +kernel
theorem dX9_checkCertificate_30 : decode cX9_checkCertificate 30 = .ok (.getfield 264, 3) := by decide +kernel
theorem dX9_checkCertificate_33 : decode cX9_checkCertificate 33 = .ok (.ifCond .eq 6, 3) := by decide +kernel
theorem dX9_checkCertificate_36 : decode cX9_checkCertificate 36 = .ok (.bipush (-12), 2) := by decide +kernel
theorem dX9_checkCertificate_38 : decode cX9_checkCertificate 38 = .ok (.ireturn, 1) := by decide +kernel
theorem dX9_checkCertificate_39 : decode cX9_checkCertificate 39 = .ok (.aload_n 0, 1) := by decide +kernel
theorem dX9_checkCertificate_40 : decode cX9_checkCertificate 40 = .ok (.getfield 66, 3) := by decide +kernel
theorem dX9_checkCertificate_43 : decode cX9_checkCertificate 43 = .ok (.iload_n 1, 1) := by decide +kernel
theorem dX9_checkCertificate_44 : decode cX9_checkCertificate 44 = .ok (.aaload, 1) := by decide +kernel
theorem dX9_checkCertificate_45 : decode cX9_checkCertificate 45 = .ok (.getfield 281, 3) := by decide +kernel
theorem dX9_checkCertificate_48 : decode cX9_checkCertificate 48 = .ok (.aload_n 0, 1) := by decide +kernel
theorem dX9_checkCertificate_49 : decode cX9_checkCertificate 49 = .ok (.getfield 14, 3) := by decide +kernel
theorem dX9_checkCertificate_52 : decode cX9_checkCertificate 52 = .ok (.getfield 93, 3) := by decide +kernel
theorem dX9_checkCertificate_55 : decode cX9_checkCertificate 55 = .ok (.if_icmp .ge 6, 3) := by decide +kernel
theorem dX9_checkCertificate_58 : decode cX9_checkCertificate 58 = .ok (.bipush (-13), 2) := by decide +kernel
theorem dX9_checkCertificate_60 : decode cX9_checkCertificate 60 = .ok (.ireturn, 1) := by decide +kernel
theorem dX9_checkCertificate_61 : decode cX9_checkCertificate 61 = .ok (.aload_n 0, 1) := by decide +kernel
theorem dX9_checkCertificate_62 : decode cX9_checkCertificate 62 = .ok (.aload_n 0, 1) := by decide +kernel
theorem dX9_checkCertificate_63 : decode cX9_checkCertificate 63 = .ok (.getfield 66, 3) := by decide +kernel
theorem dX9_checkCertificate_66 : decode cX9_checkCertificate 66 = .ok (.iload_n 1, 1) := by decide +kernel
theorem dX9_checkCertificate_67 : decode cX9_checkCertificate 67 = .ok (.aaload, 1) := by decide +kernel
theorem dX9_checkCertificate_68 : decode cX9_checkCertificate 68 = .ok (.getfield 284, 3) := by decide +kernel
theorem dX9_checkCertificate_71 : decode cX9_checkCertificate 71 = .ok (.invokevirtual 287, 3) := by decide +kernel
theorem dX9_checkCertificate_74 : decode cX9_checkCertificate 74 = .ok (.ifCond .eq 7, 3) := by decide +kernel
theorem dX9_checkCertificate_77 : decode cX9_checkCertificate 77 = .ok (.iconst 1, 1) := by decide +kernel
theorem dX9_checkCertificate_78 : decode cX9_checkCertificate 78 = .ok (.goto 4, 3) := by decide +kernel
theorem dX9_checkCertificate_81 : decode cX9_checkCertificate 81 = .ok (.iconst 0, 1) := by decide +kernel
theorem dX9_checkCertificate_82 : decode cX9_checkCertificate 82 = .ok (.ireturn, 1) := by decide +kernel
theorem dX9_snapshot_0 : decode cX9_snapshot 0 = .ok (.aload_n 0, 1) := by decide +kernel
theorem dX9_snapshot_1 : decode cX9_snapshot 1 = .ok (.getfield 18, 3) := by decide +kernel
theorem dX9_snapshot_4 : decode cX9_snapshot 4 = .ok (.aload_n 0, 1) := by decide +kernel
theorem dX9_snapshot_5 : decode cX9_snapshot 5 = .ok (.getfield 14, 3) := by decide +kernel
theorem dX9_snapshot_8 : decode cX9_snapshot 8 = .ok (.invokevirtual 291, 3) := by decide +kernel
theorem dX9_snapshot_11 : decode cX9_snapshot 11 = .ok (.aload_n 0, 1) := by decide +kernel
theorem dX9_snapshot_12 : decode cX9_snapshot 12 = .ok (.iconst 1, 1) := by decide +kernel
theorem dX9_snapshot_13 : decode cX9_snapshot 13 = .ok (.putfield 21, 3) := by decide +kernel
theorem dX9_snapshot_16 : decode cX9_snapshot 16 = .ok (.aload_n 0, 1) := by decide +kernel
theorem dX9_snapshot_17 : decode cX9_snapshot 17 = .ok (.getfield 14, 3) := by decide +kernel
theorem dX9_snapshot_20 : decode cX9_snapshot 20 = .ok (.getfield 93, 3) := by decide +kernel
theorem dX9_snapshot_23 : decode cX9_snapshot 23 = .ok (.ireturn, 1) := by decide +kernel
theorem dX9_restore_0 : decode cX9_restore 0 = .ok (.aload_n 0, 1) := by decide +kernel
theorem dX9_restore_1 : decode cX9_restore 1 = .ok (.getfield 21, 3) := by decide +kernel
theorem dX9_restore_4 : decode cX9_restore 4 = .ok (.ifCond .ne 6, 3) := by decide +kernel
theorem dX9_restore_7 : decode cX9_restore 7 = .ok (.bipush (-6), 2) := by decide +kernel
theorem dX9_restore_9 : decode cX9_restore 9 = .ok (.ireturn, 1) := by decide +kernel
theorem dX9_restore_10 : decode cX9_restore 10 = .ok (.aload_n 0, 1) := by decide +kernel
theorem dX9_restore_11 : decode cX9_restore 11 = .ok (.getfield 14, 3) := by decide +kernel
theorem dX9_restore_14 : decode cX9_restore 14 = .ok (.aload_n 0, 1) := by decide +kernel
theorem dX9_restore_15 : decode cX9_restore 15 = .ok (.getfield 18, 3) := by decide +kernel
theorem dX9_restore_18 : decode cX9_restore 18 = .ok (.invokevirtual 291, 3) := by decide +kernel
theorem dX9_restore_21 : decode cX9_restore 21 = .ok (.aload_n 0, 1) := by decide +kernel
theorem dX9_restore_22 : decode cX9_restore 22 = .ok (.getfield 35, 3) := by decide +kernel
theorem dX9_restore_25 : decode cX9_restore 25 = .ok (.iconst 0, 1) := by decide +kernel
theorem dX9_restore_26 : decode cX9_restore 26 = .ok (.putfield 79, 3) := by decide +kernel
theorem dX9_restore_29 : decode cX9_restore 29 = .ok (.aload_n 0, 1) := by decide +kernel
theorem dX9_restore_30 : decode cX9_restore 30 = .ok (.getfield 14, 3) := by decide +kernel
theorem dX9_restore_33 : decode cX9_restore 33 = .ok (.getfield 93, 3) := by decide +kernel
theorem dX9_restore_36 : decode cX9_restore 36 = .ok (.ireturn, 1) := by decide +kernel
theorem dX9_letterOrNone_0 : decode cX9_letterOrNone 0 = .ok (.iload_n 2, 1) := by decide +kernel
theorem dX9_letterOrNone_1 : decode cX9_letterOrNone 1 = .ok (.ifCond .lt 19, 3) := by decide +kernel
theorem dX9_letterOrNone_4 : decode cX9_letterOrNone 4 = .ok (.iload_n 2, 1) := by decide +kernel
theorem dX9_letterOrNone_5 : decode cX9_letterOrNone 5 = .ok (.lload_n 0, 1) := by decide +kernel
theorem dX9_letterOrNone_6 : decode cX9_letterOrNone 6 = .ok (.invokestatic 194, 3) := by decide +kernel
theorem dX9_letterOrNone_9 : decode cX9_letterOrNone 9 = .ok (.if_icmp .ge 11, 3) := by decide +kernel
theorem dX9_letterOrNone_12 : decode cX9_letterOrNone 12 = .ok (.lload_n 0, 1) := by decide +kernel
theorem dX9_letterOrNone_13 : decode cX9_letterOrNone 13 = .ok (.iload_n 2, 1) := by decide +kernel
theorem dX9_letterOrNone_14 : decode cX9_letterOrNone 14 = .ok (.invokestatic 294, 3) := by decide +kernel
theorem dX9_letterOrNone_17 : decode cX9_letterOrNone 17 = .ok (.goto 5, 3) := by decide +kernel
theorem dX9_letterOrNone_20 : decode cX9_letterOrNone 20 = .ok (.bipush (-6), 2) := by decide +kernel
theorem dX9_letterOrNone_22 : decode cX9_letterOrNone 22 = .ok (.ireturn, 1) := by decide +kernel
theorem dX9_takeString_0 : decode cX9_takeString 0 = .ok (.aload_n 0, 1) := by decide +kernel
theorem dX9_takeString_1 : decode cX9_takeString 1 = .ok (.getfield 28, 3) := by decide +kernel
theorem dX9_takeString_4 : decode cX9_takeString 4 = .ok (.invokevirtual 89, 3) := by decide +kernel
theorem dX9_takeString_7 : decode cX9_takeString 7 = .ok (.istore_n 1, 1) := by decide +kernel
theorem dX9_takeString_8 : decode cX9_takeString 8 = .ok (.aload_n 0, 1) := by decide +kernel
theorem dX9_takeString_9 : decode cX9_takeString 9 = .ok (.getfield 28, 3) := by decide +kernel
theorem dX9_takeString_12 : decode cX9_takeString 12 = .ok (.iconst 0, 1) := by decide +kernel
theorem dX9_takeString_13 : decode cX9_takeString 13 = .ok (.iload_n 1, 1) := by decide +kernel
theorem dX9_takeString_14 : decode cX9_takeString 14 = .ok (.bipush 12, 2) := by decide +kernel
theorem dX9_takeString_16 : decode cX9_takeString 16 = .ok (.aload_n 0, 1) := by decide +kernel
theorem dX9_takeString_17 : decode cX9_takeString 17 = .ok (.getfield 14, 3) := by decide +kernel
theorem dX9_takeString_20 : decode cX9_takeString 20 = .ok (.getfield 71, 3) := by decide +kernel
theorem dX9_takeString_23 : decode cX9_takeString 23 = .ok (.invokevirtual 100, 3) := by decide +kernel
theorem dX9_takeString_26 : decode cX9_takeString 26 = .ok (.lreturn, 1) := by decide +kernel
theorem dX9_takeFoundLevels_0 : decode cX9_takeFoundLevels 0 = .ok (.aload_n 0, 1) := by decide +kernel
theorem dX9_takeFoundLevels_1 : decode cX9_takeFoundLevels 1 = .ok (.getfield 56, 3) := by decide +kernel
theorem dX9_takeFoundLevels_4 : decode cX9_takeFoundLevels 4 = .ok (.getfield 297, 3) := by decide +kernel
theorem dX9_takeFoundLevels_7 : decode cX9_takeFoundLevels 7 = .ok (.iconst 0, 1) := by decide +kernel
theorem dX9_takeFoundLevels_8 : decode cX9_takeFoundLevels 8 = .ok (.aload_n 0, 1) := by decide +kernel
theorem dX9_takeFoundLevels_9 : decode cX9_takeFoundLevels 9 = .ok (.getfield 14, 3) := by decide +kernel
theorem dX9_takeFoundLevels_12 : decode cX9_takeFoundLevels 12 = .ok (.getfield 138, 3) := by decide +kernel
theorem dX9_takeFoundLevels_15 : decode cX9_takeFoundLevels 15 = .ok (.iconst 0, 1) := by decide +kernel
theorem dX9_takeFoundLevels_16 : decode cX9_takeFoundLevels 16 = .ok (.aload_n 0, 1) := by decide +kernel
theorem dX9_takeFoundLevels_17 : decode cX9_takeFoundLevels 17 = .ok (.getfield 14, 3) := by decide +kernel
theorem dX9_takeFoundLevels_20 : decode cX9_takeFoundLevels 20 = .ok (.getfield 71, 3) := by decide +kernel
theorem dX9_takeFoundLevels_23 : decode cX9_takeFoundLevels 23 = .ok (.invokestatic 298, 3) := by decide +kernel
theorem dX9_takeFoundLevels_26 : decode cX9_takeFoundLevels 26 = .ok (.return_, 1) := by decide +kernel
theorem dX9_writeTriedWeights_0 : decode cX9_writeTriedWeights 0 = .ok (.iload_n 1, 1) := by decide +kernel
theorem dX9_writeTriedWeights_1 : decode cX9_writeTriedWeights 1 = .ok (.istore_n 2, 1) := by decide +kernel
theorem dX9_writeTriedWeights_2 : decode cX9_writeTriedWeights 2 = .ok (.aload_n 0, 1) := by decide +kernel
theorem dX9_writeTriedWeights_3 : decode cX9_writeTriedWeights 3 = .ok (.getfield 14, 3) := by decide +kernel
theorem dX9_writeTriedWeights_6 : decode cX9_writeTriedWeights 6 = .ok (.getfield 71, 3) := by decide +kernel
theorem dX9_writeTriedWeights_9 : decode cX9_writeTriedWeights 9 = .ok (.iconst 1, 1) := by decide +kernel
theorem dX9_writeTriedWeights_10 : decode cX9_writeTriedWeights 10 = .ok (.isub, 1) := by decide +kernel
theorem dX9_writeTriedWeights_11 : decode cX9_writeTriedWeights 11 = .ok (.istore_n 3, 1) := by decide +kernel
theorem dX9_writeTriedWeights_12 : decode cX9_writeTriedWeights 12 = .ok (.iload_n 3, 1) := by decide +kernel
theorem dX9_writeTriedWeights_13 : decode cX9_writeTriedWeights 13 = .ok (.ifCond .lt 22, 3) := by decide +kernel
theorem dX9_writeTriedWeights_16 : decode cX9_writeTriedWeights 16 = .ok (.aload_n 0, 1) := by decide +kernel
theorem dX9_writeTriedWeights_17 : decode cX9_writeTriedWeights 17 = .ok (.getfield 60, 3) := by decide +kernel
theorem dX9_writeTriedWeights_20 : decode cX9_writeTriedWeights 20 = .ok (.iload_n 3, 1) := by decide +kernel
theorem dX9_writeTriedWeights_21 : decode cX9_writeTriedWeights 21 = .ok (.iload_n 2, 1) := by decide +kernel
theorem dX9_writeTriedWeights_22 : decode cX9_writeTriedWeights 22 = .ok (.iconst 3, 1) := by decide +kernel
theorem dX9_writeTriedWeights_23 : decode cX9_writeTriedWeights 23 = .ok (.irem, 1) := by decide +kernel
theorem dX9_writeTriedWeights_24 : decode cX9_writeTriedWeights 24 = .ok (.iastore, 1) := by decide +kernel
theorem dX9_writeTriedWeights_25 : decode cX9_writeTriedWeights 25 = .ok (.iload_n 2, 1) := by decide +kernel
theorem dX9_writeTriedWeights_26 : decode cX9_writeTriedWeights 26 = .ok (.iconst 3, 1) := by decide +kernel
theorem dX9_writeTriedWeights_27 : decode cX9_writeTriedWeights 27 = .ok (.idiv, 1) := by decide +kernel
theorem dX9_writeTriedWeights_28 : decode cX9_writeTriedWeights 28 = .ok (.istore_n 2, 1) := by decide +kernel
theorem dX9_writeTriedWeights_29 : decode cX9_writeTriedWeights 29 = .ok (.iinc 3 (-1), 3) := by decide +kernel
theorem dX9_writeTriedWeights_32 : decode cX9_writeTriedWeights 32 = .ok (.goto (-20), 3) := by decide +kernel
theorem dX9_writeTriedWeights_35 : decode cX9_writeTriedWeights 35 = .ok (.return_, 1) := by decide +kernel
theorem dX9_takeFoundOrder_0 : decode cX9_takeFoundOrder 0 = .ok (.aload_n 0, 1) := by decide +kernel
theorem dX9_takeFoundOrder_1 : decode cX9_takeFoundOrder 1 = .ok (.getfield 60, 3) := by decide +kernel
theorem dX9_takeFoundOrder_4 : decode cX9_takeFoundOrder 4 = .ok (.iconst 0, 1) := by decide +kernel
theorem dX9_takeFoundOrder_5 : decode cX9_takeFoundOrder 5 = .ok (.aload_n 0, 1) := by decide +kernel
theorem dX9_takeFoundOrder_6 : decode cX9_takeFoundOrder 6 = .ok (.getfield 14, 3) := by decide +kernel
theorem dX9_takeFoundOrder_9 : decode cX9_takeFoundOrder 9 = .ok (.getfield 135, 3) := by decide +kernel
theorem dX9_takeFoundOrder_12 : decode cX9_takeFoundOrder 12 = .ok (.iconst 0, 1) := by decide +kernel
theorem dX9_takeFoundOrder_13 : decode cX9_takeFoundOrder 13 = .ok (.aload_n 0, 1) := by decide +kernel
theorem dX9_takeFoundOrder_14 : decode cX9_takeFoundOrder 14 = .ok (.getfield 14, 3) := by decide +kernel
theorem dX9_takeFoundOrder_17 : decode cX9_takeFoundOrder 17 = .ok (.getfield 71, 3) := by decide +kernel
theorem dX9_takeFoundOrder_20 : decode cX9_takeFoundOrder 20 = .ok (.invokestatic 298, 3) := by decide +kernel
theorem dX9_takeFoundOrder_23 : decode cX9_takeFoundOrder 23 = .ok (.aload_n 0, 1) := by decide +kernel
theorem dX9_takeFoundOrder_24 : decode cX9_takeFoundOrder 24 = .ok (.getfield 14, 3) := by decide +kernel
theorem dX9_takeFoundOrder_27 : decode cX9_takeFoundOrder 27 = .ok (.iload_n 1, 1) := by decide +kernel
theorem dX9_takeFoundOrder_28 : decode cX9_takeFoundOrder 28 = .ok (.putfield 141, 3) := by decide +kernel
theorem dX9_takeFoundOrder_31 : decode cX9_takeFoundOrder 31 = .ok (.aload_n 0, 1) := by decide +kernel
theorem dX9_takeFoundOrder_32 : decode cX9_takeFoundOrder 32 = .ok (.invokevirtual 179, 3) := by decide +kernel
theorem dX9_takeFoundOrder_35 : decode cX9_takeFoundOrder 35 = .ok (.return_, 1) := by decide +kernel
theorem dX9_millionths_0 : decode cX9_millionths 0 = .ok (.fload_n 0, 1) := by decide +kernel
theorem dX9_millionths_1 : decode cX9_millionths 1 = .ok (.f2d, 1) := by decide +kernel
theorem dX9_millionths_2 : decode cX9_millionths 2 = .ok (.ldc2_w 304, 3) := by decide +kernel
theorem dX9_millionths_5 : decode cX9_millionths 5 = .ok (.dmul, 1) := by decide +kernel
theorem dX9_millionths_6 : decode cX9_millionths 6 = .ok (.d2l, 1) := by decide +kernel
theorem dX9_millionths_7 : decode cX9_millionths 7 = .ok (.lreturn, 1) := by decide +kernel
theorem dX9_roundedWeight_0 : decode cX9_roundedWeight 0 = .ok (.dload_n 0, 1) := by decide +kernel
theorem dX9_roundedWeight_1 : decode cX9_roundedWeight 1 = .ok (.ldc2_w 306, 3) := by decide +kernel
theorem dX9_roundedWeight_4 : decode cX9_roundedWeight 4 = .ok (.dcmp .l, 1) := by decide +kernel
theorem dX9_roundedWeight_5 : decode cX9_roundedWeight 5 = .ok (.ifCond .lt 6, 3) := by decide +kernel
theorem dX9_roundedWeight_8 : decode cX9_roundedWeight 8 = .ok (.bipush 99, 2) := by decide +kernel
theorem dX9_roundedWeight_10 : decode cX9_roundedWeight 10 = .ok (.ireturn, 1) := by decide +kernel
theorem dX9_roundedWeight_11 : decode cX9_roundedWeight 11 = .ok (.dload_n 0, 1) := by decide +kernel
theorem dX9_roundedWeight_12 : decode cX9_roundedWeight 12 = .ok (.d2i, 1) := by decide +kernel
theorem dX9_roundedWeight_13 : decode cX9_roundedWeight 13 = .ok (.istore_n 2, 1) := by decide +kernel
theorem dX9_roundedWeight_14 : decode cX9_roundedWeight 14 = .ok (.dload_n 0, 1) := by decide +kernel
theorem dX9_roundedWeight_15 : decode cX9_roundedWeight 15 = .ok (.iload_n 2, 1) := by decide +kernel
theorem dX9_roundedWeight_16 : decode cX9_roundedWeight 16 = .ok (.i2d, 1) := by decide +kernel
theorem dX9_roundedWeight_17 : decode cX9_roundedWeight 17 = .ok (.dsub, 1) := by decide +kernel
theorem dX9_roundedWeight_18 : decode cX9_roundedWeight 18 = .ok (.dstore_n 3, 1) := by decide +kernel
theorem dX9_roundedWeight_19 : decode cX9_roundedWeight 19 = .ok (.dload_n 3, 1) := by decide +kernel
theorem dX9_roundedWeight_20 : decode cX9_roundedWeight 20 = .ok (.ldc2_w 308, 3) := by decide +kernel
theorem dX9_roundedWeight_23 : decode cX9_roundedWeight 23 = .ok (.dcmp .l, 1) := by decide +kernel
theorem dX9_roundedWeight_24 : decode cX9_roundedWeight 24 = .ok (.ifCond .gt 18, 3) := by decide +kernel
theorem dX9_roundedWeight_27 : decode cX9_roundedWeight 27 = .ok (.dload_n 3, 1) := by decide +kernel
theorem dX9_roundedWeight_28 : decode cX9_roundedWeight 28 = .ok (.ldc2_w 308, 3) := by decide +kernel
theorem dX9_roundedWeight_31 : decode cX9_roundedWeight 31 = .ok (.dcmp .l, 1) := by decide +kernel
theorem dX9_roundedWeight_32 : decode cX9_roundedWeight 32 = .ok (.ifCond .ne 14, 3) := by decide +kernel
theorem dX9_roundedWeight_35 : decode cX9_roundedWeight 35 = .ok (.iload_n 2, 1) := by decide +kernel
theorem dX9_roundedWeight_36 : decode cX9_roundedWeight 36 = .ok (.iconst 2, 1) := by decide +kernel
theorem dX9_roundedWeight_37 : decode cX9_roundedWeight 37 = .ok (.irem, 1) := by decide +kernel
theorem dX9_roundedWeight_38 : decode cX9_roundedWeight 38 = .ok (.iconst 1, 1) := by decide +kernel
theorem dX9_roundedWeight_39 : decode cX9_roundedWeight 39 = .ok (.if_icmp .ne 7, 3) := by decide +kernel
theorem dX9_roundedWeight_42 : decode cX9_roundedWeight 42 = .ok (.iconst 1, 1) := by decide +kernel
theorem dX9_roundedWeight_43 : decode cX9_roundedWeight 43 = .ok (.goto 4, 3) := by decide +kernel
theorem dX9_roundedWeight_46 : decode cX9_roundedWeight 46 = .ok (.iconst 0, 1) := by decide +kernel
theorem dX9_roundedWeight_47 : decode cX9_roundedWeight 47 = .ok (.istore 5, 2) := by decide +kernel
theorem dX9_roundedWeight_49 : decode cX9_roundedWeight 49 = .ok (.iload 5, 2) := by decide +kernel
theorem dX9_roundedWeight_51 : decode cX9_roundedWeight 51 = .ok (.ifCond .eq 9, 3) := by decide +kernel
theorem dX9_roundedWeight_54 : decode cX9_roundedWeight 54 = .ok (.iload_n 2, 1) := by decide +kernel
theorem dX9_roundedWeight_55 : decode cX9_roundedWeight 55 = .ok (.iconst 1, 1) := by decide +kernel
theorem dX9_roundedWeight_56 : decode cX9_roundedWeight 56 = .ok (.iadd, 1) := by decide +kernel
theorem dX9_roundedWeight_57 : decode cX9_roundedWeight 57 = .ok (.goto 4, 3) := by decide +kernel
theorem dX9_roundedWeight_60 : decode cX9_roundedWeight 60 = .ok (.iload_n 2, 1) := by decide +kernel
theorem dX9_roundedWeight_61 : decode cX9_roundedWeight 61 = .ok (.ireturn, 1) := by decide +kernel
theorem dX9_isSlot_0 : decode cX9_isSlot 0 = .ok (.iload_n 0, 1) := by decide +kernel
theorem dX9_isSlot_1 : decode cX9_isSlot 1 = .ok (.ifCond .lt 12, 3) := by decide +kernel
theorem dX9_isSlot_4 : decode cX9_isSlot 4 = .ok (.iload_n 0, 1) := by decide +kernel
theorem dX9_isSlot_5 : decode cX9_isSlot 5 = .ok (.iconst 4, 1) := by decide +kernel
theorem dX9_isSlot_6 : decode cX9_isSlot 6 = .ok (.if_icmp .ge 7, 3) := by decide +kernel
theorem dX9_isSlot_9 : decode cX9_isSlot 9 = .ok (.iconst 1, 1) := by decide +kernel
theorem dX9_isSlot_10 : decode cX9_isSlot 10 = .ok (.goto 4, 3) := by decide +kernel
theorem dX9_isSlot_13 : decode cX9_isSlot 13 = .ok (.iconst 0, 1) := by decide +kernel
theorem dX9_isSlot_14 : decode cX9_isSlot 14 = .ok (.ireturn, 1) := by decide +kernel
theorem dX9_isCertificate_0 : decode cX9_isCertificate 0 = .ok (.iconst 1, 1) := by decide +kernel
theorem dX9_isCertificate_1 : decode cX9_isCertificate 1 = .ok (.istore_n 2, 1) := by decide +kernel
theorem dX9_isCertificate_2 : decode cX9_isCertificate 2 = .ok (.iconst 0, 1) := by decide +kernel
theorem dX9_isCertificate_3 : decode cX9_isCertificate 3 = .ok (.istore_n 3, 1) := by decide +kernel
theorem dX9_isCertificate_4 : decode cX9_isCertificate 4 = .ok (.iload_n 3, 1) := by decide +kernel
theorem dX9_isCertificate_5 : decode cX9_isCertificate 5 = .ok (.aload_n 0, 1) := by decide +kernel
theorem dX9_isCertificate_6 : decode cX9_isCertificate 6 = .ok (.getfield 14, 3) := by decide +kernel
theorem dX9_isCertificate_9 : decode cX9_isCertificate 9 = .ok (.getfield 93, 3) := by decide +kernel
theorem dX9_isCertificate_12 : decode cX9_isCertificate 12 = .ok (.if_icmp .ge 37, 3) := by decide +kernel
theorem dX9_isCertificate_15 : decode cX9_isCertificate 15 = .ok (.aload_n 1, 1) := by decide +kernel
theorem dX9_isCertificate_16 : decode cX9_isCertificate 16 = .ok (.iload_n 3, 1) := by decide +kernel
theorem dX9_isCertificate_17 : decode cX9_isCertificate 17 = .ok (.laload, 1) := by decide +kernel
theorem dX9_isCertificate_18 : decode cX9_isCertificate 18 = .ok (.lconst 0, 1) := by decide +kernel
theorem dX9_isCertificate_19 : decode cX9_isCertificate 19 = .ok (.lcmp, 1) := by decide +kernel
theorem dX9_isCertificate_20 : decode cX9_isCertificate 20 = .ok (.ifCond .ge 5, 3) := by decide +kernel
theorem dX9_isCertificate_23 : decode cX9_isCertificate 23 = .ok (.iconst 0, 1) := by decide +kernel
theorem dX9_isCertificate_24 : decode cX9_isCertificate 24 = .ok (.ireturn, 1) := by decide +kernel
theorem dX9_isCertificate_25 : decode cX9_isCertificate 25 = .ok (.iload_n 2, 1) := by decide +kernel
theorem dX9_isCertificate_26 : decode cX9_isCertificate 26 = .ok (.ifCond .eq 15, 3) := by decide +kernel
theorem dX9_isCertificate_29 : decode cX9_isCertificate 29 = .ok (.aload_n 1, 1) := by decide +kernel
theorem dX9_isCertificate_30 : decode cX9_isCertificate 30 = .ok (.iload_n 3, 1) := by decide +kernel
theorem dX9_isCertificate_31 : decode cX9_isCertificate 31 = .ok (.laload, 1) := by decide +kernel
theorem dX9_isCertificate_32 : decode cX9_isCertificate 32 = .ok (.lconst 0, 1) := by decide +kernel
theorem dX9_isCertificate_33 : decode cX9_isCertificate 33 = .ok (.lcmp, 1) := by decide +kernel
theorem dX9_isCertificate_34 : decode cX9_isCertificate 34 = .ok (.ifCond .ne 7, 3) := by decide +kernel
theorem dX9_isCertificate_37 : decode cX9_isCertificate 37 = .ok (.iconst 1, 1) := by decide +kernel
theorem dX9_isCertificate_38 : decode cX9_isCertificate 38 = .ok (.goto 4, 3) := by decide +kernel
theorem dX9_isCertificate_41 : decode cX9_isCertificate 41 = .ok (.iconst 0, 1) := by decide +kernel
theorem dX9_isCertificate_42 : decode cX9_isCertificate 42 = .ok (.istore_n 2, 1) := by decide +kernel
theorem dX9_isCertificate_43 : decode cX9_isCertificate 43 = .ok (.iinc 3 1, 3) := by decide +kernel
theorem dX9_isCertificate_46 : decode cX9_isCertificate 46 = .ok (.goto (-42), 3) := by decide +kernel
theorem dX9_isCertificate_49 : decode cX9_isCertificate 49 = .ok (.iconst 0, 1) := by decide +kernel
theorem dX9_isCertificate_50 : decode cX9_isCertificate 50 = .ok (.istore_n 3, 1) := by decide +kernel
theorem dX9_isCertificate_51 : decode cX9_isCertificate 51 = .ok (.iload_n 3, 1) := by decide +kernel
theorem dX9_isCertificate_52 : decode cX9_isCertificate 52 = .ok (.aload_n 0, 1) := by decide +kernel
theorem dX9_isCertificate_53 : decode cX9_isCertificate 53 = .ok (.getfield 14, 3) := by decide +kernel
theorem dX9_isCertificate_56 : decode cX9_isCertificate 56 = .ok (.getfield 71, 3) := by decide +kernel
theorem dX9_isCertificate_59 : decode cX9_isCertificate 59 = .ok (.if_icmp .ge 65, 3) := by decide +kernel
theorem dX9_isCertificate_62 : decode cX9_isCertificate 62 = .ok (.lconst 0, 1) := by decide +kernel
theorem dX9_isCertificate_63 : decode cX9_isCertificate 63 = .ok (.lstore 4, 2) := by decide +kernel
theorem dX9_isCertificate_65 : decode cX9_isCertificate 65 = .ok (.iconst 0, 1) := by decide +kernel
theorem dX9_isCertificate_66 : decode cX9_isCertificate 66 = .ok (.istore 6, 2) := by decide +kernel
theorem dX9_isCertificate_68 : decode cX9_isCertificate 68 = .ok (.iload 6, 2) := by decide +kernel
theorem dX9_isCertificate_70 : decode cX9_isCertificate 70 = .ok (.aload_n 0, 1) := by decide +kernel
theorem dX9_isCertificate_71 : decode cX9_isCertificate 71 = .ok (.getfield 14, 3) := by decide +kernel
theorem dX9_isCertificate_74 : decode cX9_isCertificate 74 = .ok (.getfield 93, 3) := by decide +kernel
theorem dX9_isCertificate_77 : decode cX9_isCertificate 77 = .ok (.if_icmp .ge 32, 3) := by decide +kernel
theorem dX9_isCertificate_80 : decode cX9_isCertificate 80 = .ok (.lload 4, 2) := by decide +kernel
theorem dX9_isCertificate_82 : decode cX9_isCertificate 82 = .ok (.aload_n 1, 1) := by decide +kernel
theorem dX9_isCertificate_83 : decode cX9_isCertificate 83 = .ok (.iload 6, 2) := by decide +kernel
theorem dX9_isCertificate_85 : decode cX9_isCertificate 85 = .ok (.laload, 1) := by decide +kernel
theorem dX9_isCertificate_86 : decode cX9_isCertificate 86 = .ok (.aload_n 0, 1) := by decide +kernel
theorem dX9_isCertificate_87 : decode cX9_isCertificate 87 = .ok (.getfield 14, 3) := by decide +kernel
theorem dX9_isCertificate_90 : decode cX9_isCertificate 90 = .ok (.getfield 131, 3) := by decide +kernel
theorem dX9_isCertificate_93 : decode cX9_isCertificate 93 = .ok (.iload 6, 2) := by decide +kernel
theorem dX9_isCertificate_95 : decode cX9_isCertificate 95 = .ok (.aaload, 1) := by decide +kernel
theorem dX9_isCertificate_96 : decode cX9_isCertificate 96 = .ok (.iload_n 3, 1) := by decide +kernel
theorem dX9_isCertificate_97 : decode cX9_isCertificate 97 = .ok (.iaload, 1) := by decide +kernel
theorem dX9_isCertificate_98 : decode cX9_isCertificate 98 = .ok (.i2l, 1) := by decide +kernel
theorem dX9_isCertificate_99 : decode cX9_isCertificate 99 = .ok (.lmul, 1) := by decide +kernel
theorem dX9_isCertificate_100 : decode cX9_isCertificate 100 = .ok (.ladd, 1) := by decide +kernel
theorem dX9_isCertificate_101 : decode cX9_isCertificate 101 = .ok (.lstore 4, 2) := by decide +kernel
theorem dX9_isCertificate_103 : decode cX9_isCertificate 103 = .ok (.iinc 6 1, 3) := by decide +kernel
theorem dX9_isCertificate_106 : decode cX9_isCertificate 106 = .ok (.goto (-38), 3) := by decide +kernel
theorem dX9_isCertificate_109 : decode cX9_isCertificate 109 = .ok (.lload 4, 2) := by decide +kernel
theorem dX9_isCertificate_111 : decode cX9_isCertificate 111 = .ok (.lconst 0, 1) := by decide +kernel
theorem dX9_isCertificate_112 : decode cX9_isCertificate 112 = .ok (.lcmp, 1) := by decide +kernel
theorem dX9_isCertificate_113 : decode cX9_isCertificate 113 = .ok (.ifCond .le 5, 3) := by decide +kernel
theorem dX9_isCertificate_116 : decode cX9_isCertificate 116 = .ok (.iconst 0, 1) := by decide +kernel
theorem dX9_isCertificate_117 : decode cX9_isCertificate 117 = .ok (.ireturn, 1) := by decide +kernel
theorem dX9_isCertificate_118 : decode cX9_isCertificate 118 = .ok (.iinc 3 1, 3) := by decide +kernel
theorem dX9_isCertificate_121 : decode cX9_isCertificate 121 = .ok (.goto (-70), 3) := by decide +kernel
theorem dX9_isCertificate_124 : decode cX9_isCertificate 124 = .ok (.iload_n 2, 1) := by decide +kernel
theorem dX9_isCertificate_125 : decode cX9_isCertificate 125 = .ok (.ifCond .ne 7, 3) := by decide +kernel
theorem dX9_isCertificate_128 : decode cX9_isCertificate 128 = .ok (.iconst 1, 1) := by decide +kernel
theorem dX9_isCertificate_129 : decode cX9_isCertificate 129 = .ok (.goto 4, 3) := by decide +kernel
theorem dX9_isCertificate_132 : decode cX9_isCertificate 132 = .ok (.iconst 0, 1) := by decide +kernel
theorem dX9_isCertificate_133 : decode cX9_isCertificate 133 = .ok (.ireturn, 1) := by decide +kernel
theorem dX10_init_0 : decode cX10_init 0 = .ok (.aload_n 0, 1) := by decide +kernel
theorem dX10_init_1 : decode cX10_init 1 = .ok (.invokespecial 3, 3) := by decide +kernel
theorem dX10_init_4 : decode cX10_init 4 = .ok (.aload_n 0, 1) := by decide +kernel
theorem dX10_init_5 : decode cX10_init 5 = .ok (.iconst 3, 1) := by decide +kernel
theorem dX10_init_6 : decode cX10_init 6 = .ok (.putfield 9, 3) := by decide +kernel
theorem dX10_init_9 : decode cX10_init 9 = .ok (.aload_n 0, 1) := by decide +kernel
theorem dX10_init_10 : decode cX10_init 10 = .ok (.bipush 16, 2) := by decide +kernel
theorem dX10_init_12 : decode cX10_init 12 = .ok (.newarray .int, 2) := by decide +kernel
theorem dX10_init_14 : decode cX10_init 14 = .ok (.putfield 15, 3) := by decide +kernel
theorem dX10_init_17 : decode cX10_init 17 = .ok (.aload_n 0, 1) := by decide +kernel
theorem dX10_init_18 : decode cX10_init 18 = .ok (.bipush 96, 2) := by decide +kernel
theorem dX10_init_20 : decode cX10_init 20 = .ok (.newarray .int, 2) := by decide +kernel
theorem dX10_init_22 : decode cX10_init 22 = .ok (.putfield 19, 3) := by decide +kernel
theorem dX10_init_25 : decode cX10_init 25 = .ok (.aload_n 0, 1) := by decide +kernel
theorem dX10_init_26 : decode cX10_init 26 = .ok (.bipush 6, 2) := by decide +kernel
theorem dX10_init_28 : decode cX10_init 28 = .ok (.newarray .int, 2) := by decide +kernel
theorem dX10_init_30 : decode cX10_init 30 = .ok (.putfield 22, 3) := by decide +kernel
theorem dX10_init_33 : decode cX10_init 33 = .ok (.aload_n 0, 1) := by decide +kernel
theorem dX10_init_34 : decode cX10_init 34 = .ok (.bipush 6, 2) := by decide +kernel
theorem dX10_init_36 : decode cX10_init 36 = .ok (.newarray .int, 2) := by decide +kernel
theorem dX10_init_38 : decode cX10_init 38 = .ok (.putfield 25, 3) := by decide +kernel
theorem dX10_init_41 : decode cX10_init 41 = .ok (.aload_n 0, 1) := by decide +kernel
theorem dX10_init_42 : decode cX10_init 42 = .ok (.bipush 6, 2) := by decide +kernel
theorem dX10_init_44 : decode cX10_init 44 = .ok (.newarray .float, 2) := by decide +kernel
theorem dX10_init_46 : decode cX10_init 46 = .ok (.putfield 28, 3) := by decide +kernel
theorem dX10_init_49 : decode cX10_init 49 = .ok (.aload_n 0, 1) := by decide +kernel
theorem dX10_init_50 : decode cX10_init 50 = .ok (.bipush 40, 2) := by decide +kernel
theorem dX10_init_52 : decode cX10_init 52 = .ok (.newarray .int, 2) := by decide +kernel
theorem dX10_init_54 : decode cX10_init 54 = .ok (.putfield 32, 3) := by decide +kernel
theorem dX10_init_57 : decode cX10_init 57 = .ok (.aload_n 0, 1) := by decide +kernel
theorem dX10_init_58 : decode cX10_init 58 = .ok (.bipush 12, 2) := by decide +kernel
theorem dX10_init_60 : decode cX10_init 60 = .ok (.newarray .int, 2) := by decide +kernel
theorem dX10_init_62 : decode cX10_init 62 = .ok (.putfield 35, 3) := by decide +kernel
theorem dX10_init_65 : decode cX10_init 65 = .ok (.aload_n 0, 1) := by decide +kernel
theorem dX10_init_66 : decode cX10_init 66 = .ok (.sipush 201, 3) := by decide +kernel
theorem dX10_init_69 : decode cX10_init 69 = .ok (.newarray .int, 2) := by decide +kernel
theorem dX10_init_71 : decode cX10_init 71 = .ok (.putfield 38, 3) := by decide +kernel
theorem dX10_init_74 : decode cX10_init 74 = .ok (.aload_n 0, 1) := by decide +kernel
theorem dX10_init_75 : decode cX10_init 75 = .ok (.sipush 201, 3) := by decide +kernel
theorem dX10_init_78 : decode cX10_init 78 = .ok (.newarray .int, 2) := by decide +kernel
theorem dX10_init_80 : decode cX10_init 80 = .ok (.putfield 41, 3) := by decide +kernel
theorem dX10_init_83 : decode cX10_init 83 = .ok (.aload_n 0, 1) := by decide +kernel
theorem dX10_init_84 : decode cX10_init 84 = .ok (.iconst 4, 1) := by decide +kernel
theorem dX10_init_85 : decode cX10_init 85 = .ok (.newarray .int, 2) := by decide +kernel
theorem dX10_init_87 : decode cX10_init 87 = .ok (.putfield 44, 3) := by decide +kernel
theorem dX10_init_90 : decode cX10_init 90 = .ok (.aload_n 0, 1) := by decide +kernel
theorem dX10_init_91 : decode cX10_init 91 = .ok (.iconst 4, 1) := by decide +kernel
theorem dX10_init_92 : decode cX10_init 92 = .ok (.newarray .int, 2) := by decide +kernel
theorem dX10_init_94 : decode cX10_init 94 = .ok (.putfield 47, 3) := by decide +kernel
theorem dX10_init_97 : decode cX10_init 97 = .ok (.aload_n 0, 1) := by decide +kernel
theorem dX10_init_98 : decode cX10_init 98 = .ok (.sipush 160, 3) := by decide +kernel
theorem dX10_init_101 : decode cX10_init 101 = .ok (.newarray .long, 2) := by decide +kernel
theorem dX10_init_103 : decode cX10_init 103 = .ok (.putfield 50, 3) := by decide +kernel
theorem dX10_init_106 : decode cX10_init 106 = .ok (.aload_n 0, 1) := by decide +kernel
theorem dX10_init_107 : decode cX10_init 107 = .ok (.sipush 160, 3) := by decide +kernel
theorem dX10_init_110 : decode cX10_init 110 = .ok (.newarray .float, 2) := by decide +kernel
theorem dX10_init_112 : decode cX10_init 112 = .ok (.putfield 54, 3) := by decide +kernel
theorem dX10_init_115 : decode cX10_init 115 = .ok (.aload_n 0, 1) := by decide +kernel
theorem dX10_init_116 : decode cX10_init 116 = .ok (.sipush 160, 3) := by decide +kernel
theorem dX10_init_119 : decode cX10_init 119 = .ok (.newarray .double, 2) := by decide +kernel
theorem dX10_init_121 : decode cX10_init 121 = .ok (.putfield 57, 3) := by decide +kernel
theorem dX10_init_124 : decode cX10_init 124 = .ok (.aload_n 0, 1) := by decide +kernel
theorem dX10_init_125 : decode cX10_init 125 = .ok (.bipush 16, 2) := by decide +kernel
theorem dX10_init_127 : decode cX10_init 127 = .ok (.newarray .int, 2) := by decide +kernel
theorem dX10_init_129 : decode cX10_init 129 = .ok (.putfield 61, 3) := by decide +kernel
theorem dX10_init_132 : decode cX10_init 132 = .ok (.aload_n 0, 1) := by decide +kernel
theorem dX10_init_133 : decode cX10_init 133 = .ok (.bipush 96, 2) := by decide +kernel
theorem dX10_init_135 : decode cX10_init 135 = .ok (.newarray .int, 2) := by decide +kernel
theorem dX10_init_137 : decode cX10_init 137 = .ok (.putfield 64, 3) := by decide +kernel
theorem dX10_init_140 : decode cX10_init 140 = .ok (.aload_n 0, 1) := by decide +kernel
theorem dX10_init_141 : decode cX10_init 141 = .ok (.bipush 6, 2) := by decide +kernel
theorem dX10_init_143 : decode cX10_init 143 = .ok (.newarray .int, 2) := by decide +kernel
theorem dX10_init_145 : decode cX10_init 145 = .ok (.putfield 67, 3) := by decide +kernel
theorem dX10_init_148 : decode cX10_init 148 = .ok (.aload_n 0, 1) := by decide +kernel
theorem dX10_init_149 : decode cX10_init 149 = .ok (.bipush 6, 2) := by decide +kernel
theorem dX10_init_151 : decode cX10_init 151 = .ok (.newarray .int, 2) := by decide +kernel
theorem dX10_init_153 : decode cX10_init 153 = .ok (.putfield 70, 3) := by decide +kernel
theorem dX10_init_156 : decode cX10_init 156 = .ok (.aload_n 0, 1) := by decide +kernel
theorem dX10_init_157 : decode cX10_init 157 = .ok (.bipush 6, 2) := by decide +kernel
theorem dX10_init_159 : decode cX10_init 159 = .ok (.newarray .float, 2) := by decide +kernel
theorem dX10_init_161 : decode cX10_init 161 = .ok (.putfield 73, 3) := by decide +kernel
theorem dX10_init_164 : decode cX10_init 164 = .ok (.aload_n 0, 1) := by decide +kernel
theorem dX10_init_165 : decode cX10_init 165 = .ok (.bipush 12, 2) := by decide +kernel
theorem dX10_init_167 : decode cX10_init 167 = .ok (.newarray .int, 2) := by decide +kernel
theorem dX10_init_169 : decode cX10_init 169 = .ok (.putfield 76, 3) := by decide +kernel
theorem dX10_init_172 : decode cX10_init 172 = .ok (.aload_n 0, 1) := by decide +kernel
theorem dX10_init_173 : decode cX10_init 173 = .ok (.bipush 40, 2) := by decide +kernel
theorem dX10_init_175 : decode cX10_init 175 = .ok (.newarray .int, 2) := by decide +kernel
theorem dX10_init_177 : decode cX10_init 177 = .ok (.putfield 79, 3) := by decide +kernel
theorem dX10_init_180 : decode cX10_init 180 = .ok (.aload_n 0, 1) := by decide +kernel
theorem dX10_init_181 : decode cX10_init 181 = .ok (.bipush 40, 2) := by decide +kernel
theorem dX10_init_183 : decode cX10_init 183 = .ok (.newarray .int, 2) := by decide +kernel
theorem dX10_init_185 : decode cX10_init 185 = .ok (.putfield 82, 3) := by decide +kernel
theorem dX10_init_188 : decode cX10_init 188 = .ok (.aload_n 0, 1) := by decide +kernel
theorem dX10_init_189 : decode cX10_init 189 = .ok (.bipush 8, 2) := by decide +kernel
theorem dX10_init_191 : decode cX10_init 191 = .ok (.newarray .int, 2) := by decide +kernel
theorem dX10_init_193 : decode cX10_init 193 = .ok (.putfield 85, 3) := by decide +kernel
theorem dX10_init_196 : decode cX10_init 196 = .ok (.aload_n 0, 1) := by decide +kernel
theorem dX10_init_197 : decode cX10_init 197 = .ok (.bipush 6, 2) := by decide +kernel
theorem dX10_init_199 : decode cX10_init 199 = .ok (.newarray .int, 2) := by decide +kernel
theorem dX10_init_201 : decode cX10_init 201 = .ok (.putfield 88, 3) := by decide +kernel
theorem dX10_init_204 : decode cX10_init 204 = .ok (.aload_n 0, 1) := by decide +kernel
theorem dX10_init_205 : decode cX10_init 205 = .ok (.bipush 6, 2) := by decide +kernel
theorem dX10_init_207 : decode cX10_init 207 = .ok (.newarray .int, 2) := by decide +kernel
theorem dX10_init_209 : decode cX10_init 209 = .ok (.putfield 91, 3) := by decide +kernel
theorem dX10_init_212 : decode cX10_init 212 = .ok (.aload_n 0, 1) := by decide +kernel
theorem dX10_init_213 : decode cX10_init 213 = .ok (.sipush 200, 3) := by decide +kernel
theorem dX10_init_216 : decode cX10_init 216 = .ok (.newarray .long, 2) := by decide +kernel
theorem dX10_init_218 : decode cX10_init 218 = .ok (.putfield 94, 3) := by decide +kernel
theorem dX10_init_221 : decode cX10_init 221 = .ok (.aload_n 0, 1) := by decide +kernel
theorem dX10_init_222 : decode cX10_init 222 = .ok (.sipush 200, 3) := by decide +kernel
theorem dX10_init_225 : decode cX10_init 225 = .ok (.newarray .int, 2) := by decide +kernel
theorem dX10_init_227 : decode cX10_init 227 = .ok (.putfield 97, 3) := by decide +kernel
theorem dX10_init_230 : decode cX10_init 230 = .ok (.aload_n 0, 1) := by decide +kernel
theorem dX10_init_231 : decode cX10_init 231 = .ok (.sipush 200, 3) := by decide +kernel
theorem dX10_init_234 : decode cX10_init 234 = .ok (.newarray .int, 2) := by decide +kernel
theorem dX10_init_236 : decode cX10_init 236 = .ok (.putfield 100, 3) := by decide +kernel
theorem dX10_init_239 : decode cX10_init 239 = .ok (.aload_n 0, 1) := by decide +kernel
theorem dX10_init_240 : decode cX10_init 240 = .ok (.sipush 200, 3) := by decide +kernel
theorem dX10_init_243 : decode cX10_init 243 = .ok (.newarray .int, 2) := by decide +kernel
theorem dX10_init_245 : decode cX10_init 245 = .ok (.putfield 103, 3) := by decide +kernel
theorem dX10_init_248 : decode cX10_init 248 = .ok (.aload_n 0, 1) := by decide +kernel
theorem dX10_init_249 : decode cX10_init 249 = .ok (.sipush 200, 3) := by decide +kernel
theorem dX10_init_252 : decode cX10_init 252 = .ok (.newarray .int, 2) := by decide +kernel
theorem dX10_init_254 : decode cX10_init 254 = .ok (.putfield 106, 3) := by decide +kernel
theorem dX10_init_257 : decode cX10_init 257 = .ok (.aload_n 0, 1) := by decide +kernel
theorem dX10_init_258 : decode cX10_init 258 = .ok (.sipush 19200, 3) := by decide +kernel
theorem dX10_init_261 : decode cX10_init 261 = .ok (.newarray .int, 2) := by decide +kernel
theorem dX10_init_263 : decode cX10_init 263 = .ok (.putfield 109, 3) := by decide +kernel
theorem dX10_init_266 : decode cX10_init 266 = .ok (.aload_n 0, 1) := by decide +kernel
theorem dX10_init_267 : decode cX10_init 267 = .ok (.sipush 200, 3) := by decide +kernel
theorem dX10_init_270 : decode cX10_init 270 = .ok (.newarray .int, 2) := by decide +kernel
theorem dX10_init_272 : decode cX10_init 272 = .ok (.putfield 112, 3) := by decide +kernel
theorem dX10_init_275 : decode cX10_init 275 = .ok (.iconst 0, 1) := by decide +kernel
theorem dX10_init_276 : decode cX10_init 276 = .ok (.istore_n 1, 1) := by decide +kernel
theorem dX10_init_277 : decode cX10_init 277 = .ok (.iload_n 1, 1) := by decide +kernel
theorem dX10_init_278 : decode cX10_init 278 = .ok (.bipush 6, 2) := by decide +kernel
theorem dX10_init_280 : decode cX10_init 280 = .ok (.if_icmp .ge 23, 3) := by decide +kernel
theorem dX10_init_283 : decode cX10_init 283 = .ok (.aload_n 0, 1) := by decide +kernel
theorem dX10_init_284 : decode cX10_init 284 = .ok (.getfield 22, 3) := by decide +kernel
theorem dX10_init_287 : decode cX10_init 287 = .ok (.iload_n 1, 1) := by decide +kernel
theorem dX10_init_288 : decode cX10_init 288 = .ok (.iconst 1, 1) := by decide +kernel
theorem dX10_init_289 : decode cX10_init 289 = .ok (.iastore, 1) := by decide +kernel
theorem dX10_init_290 : decode cX10_init 290 = .ok (.aload_n 0, 1) := by decide +kernel
theorem dX10_init_291 : decode cX10_init 291 = .ok (.getfield 28, 3) := by decide +kernel
theorem dX10_init_294 : decode cX10_init 294 = .ok (.iload_n 1, 1) := by decide +kernel
theorem dX10_init_295 : decode cX10_init 295 = .ok (.fconst 1, 1) := by decide +kernel
theorem dX10_init_296 : decode cX10_init 296 = .ok (.fastore, 1) := by decide +kernel
theorem dX10_init_297 : decode cX10_init 297 = .ok (.iinc 1 1, 3) := by decide +kernel
theorem dX10_init_300 : decode cX10_init 300 = .ok (.goto (-23), 3) := by decide +kernel
theorem dX10_init_303 : decode cX10_init 303 = .ok (.iconst 0, 1) := by decide +kernel
theorem dX10_init_304 : decode cX10_init 304 = .ok (.istore_n 1, 1) := by decide +kernel
theorem dX10_init_305 : decode cX10_init 305 = .ok (.iload_n 1, 1) := by decide +kernel
theorem dX10_init_306 : decode cX10_init 306 = .ok (.iconst 4, 1) := by decide +kernel
theorem dX10_init_307 : decode cX10_init 307 = .ok (.if_icmp .ge 16, 3) := by decide +kernel
theorem dX10_init_310 : decode cX10_init 310 = .ok (.aload_n 0, 1) := by decide +kernel
theorem dX10_init_311 : decode cX10_init 311 = .ok (.getfield 44, 3) := by decide +kernel
theorem dX10_init_314 : decode cX10_init 314 = .ok (.iload_n 1, 1) := by decide +kernel
theorem dX10_init_315 : decode cX10_init 315 = .ok (.iconst (-1), 1) := by decide +kernel
theorem dX10_init_316 : decode cX10_init 316 = .ok (.iastore, 1) := by decide +kernel
theorem dX10_init_317 : decode cX10_init 317 = .ok (.iinc 1 1, 3) := by decide +kernel
theorem dX10_init_320 : decode cX10_init 320 = .ok (.goto (-15), 3) := by decide +kernel
theorem dX10_init_323 : decode cX10_init 323 = .ok (.return_, 1) := by decide +kernel
theorem dX10_in_0 : decode cX10_in 0 = .ok (.lload_n 0, 1) := by decide +kernel
theorem dX10_in_1 : decode cX10_in 1 = .ok (.lload_n 2, 1) := by decide +kernel
theorem dX10_in_2 : decode cX10_in 2 = .ok (.lcmp, 1) := by decide +kernel
theorem dX10_in_3 : decode cX10_in 3 = .ok (.ifCond .lt 14, 3) := by decide +kernel
theorem dX10_in_6 : decode cX10_in 6 = .ok (.lload_n 0, 1) := by decide +kernel
theorem dX10_in_7 : decode cX10_in 7 = .ok (.lload 4, 2) := by decide +kernel
theorem dX10_in_9 : decode cX10_in 9 = .ok (.lcmp, 1) := by decide +kernel
theorem dX10_in_10 : decode cX10_in 10 = .ok (.ifCond .gt 7, 3) := by decide +kernel
theorem dX10_in_13 : decode cX10_in 13 = .ok (.iconst 1, 1) := by decide +kernel
theorem dX10_in_14 : decode cX10_in 14 = .ok (.goto 4, 3) := by decide +kernel
theorem dX10_in_17 : decode cX10_in 17 = .ok (.iconst 0, 1) := by decide +kernel
theorem dX10_in_18 : decode cX10_in 18 = .ok (.ireturn, 1) := by decide +kernel
theorem dX10_isLetter_0 : decode cX10_isLetter 0 = .ok (.iload_n 1, 1) := by decide +kernel
theorem dX10_isLetter_1 : decode cX10_isLetter 1 = .ok (.i2l, 1) := by decide +kernel
theorem dX10_isLetter_2 : decode cX10_isLetter 2 = .ok (.lconst 0, 1) := by decide +kernel
theorem dX10_isLetter_3 : decode cX10_isLetter 3 = .ok (.aload_n 0, 1) := by decide +kernel
theorem dX10_isLetter_4 : decode cX10_isLetter 4 = .ok (.getfield 9, 3) := by decide +kernel
theorem dX10_isLetter_7 : decode cX10_isLetter 7 = .ok (.iconst 1, 1) := by decide +kernel
theorem dX10_isLetter_8 : decode cX10_isLetter 8 = .ok (.isub, 1) := by decide +kernel
theorem dX10_isLetter_9 : decode cX10_isLetter 9 = .ok (.i2l, 1) := by decide +kernel
theorem dX10_isLetter_10 : decode cX10_isLetter 10 = .ok (.invokestatic 115, 3) := by decide +kernel
theorem dX10_isLetter_13 : decode cX10_isLetter 13 = .ok (.ireturn, 1) := by decide +kernel
theorem dX10_isRule_0 : decode cX10_isRule 0 = .ok (.iload_n 1, 1) := by decide +kernel
theorem dX10_isRule_1 : decode cX10_isRule 1 = .ok (.i2l, 1) := by decide +kernel
theorem dX10_isRule_2 : decode cX10_isRule 2 = .ok (.lconst 0, 1) := by decide +kernel
theorem dX10_isRule_3 : decode cX10_isRule 3 = .ok (.aload_n 0, 1) := by decide +kernel
theorem dX10_isRule_4 : decode cX10_isRule 4 = .ok (.getfield 119, 3) := by decide +kernel
theorem dX10_isRule_7 : decode cX10_isRule 7 = .ok (.iconst 1, 1) := by decide +kernel
theorem dX10_isRule_8 : decode cX10_isRule 8 = .ok (.isub, 1) := by decide +kernel
theorem dX10_isRule_9 : decode cX10_isRule 9 = .ok (.i2l, 1) := by decide +kernel
theorem dX10_isRule_10 : decode cX10_isRule 10 = .ok (.invokestatic 115, 3) := by decide +kernel
theorem dX10_isRule_13 : decode cX10_isRule 13 = .ok (.ireturn, 1) := by decide +kernel
theorem dX10_reset_0 : decode cX10_reset 0 = .ok (.iload_n 1, 1) := by decide +kernel
theorem dX10_reset_1 : decode cX10_reset 1 = .ok (.i2l, 1) := by decide +kernel
theorem dX10_reset_2 : decode cX10_reset 2 = .ok (.lconst 1, 1) := by decide +kernel
theorem dX10_reset_3 : decode cX10_reset 3 = .ok (.ldc2_w 122, 3) := by decide +kernel
theorem dX10_reset_6 : decode cX10_reset 6 = .ok (.invokestatic 115, 3) := by decide +kernel
theorem dX10_reset_9 : decode cX10_reset 9 = .ok (.ifCond .ne 5, 3) := by decide +kernel
theorem dX10_reset_12 : decode cX10_reset 12 = .ok (.iconst (-1), 1) := by decide +kernel
theorem dX10_reset_13 : decode cX10_reset 13 = .ok (.ireturn, 1) := by decide +kernel
theorem dX10_reset_14 : decode cX10_reset 14 = .ok (.aload_n 0, 1) := by decide +kernel
theorem dX10_reset_15 : decode cX10_reset 15 = .ok (.getfield 9, 3) := by decide +kernel
theorem dX10_reset_18 : decode cX10_reset 18 = .ok (.istore_n 2, 1) := by decide +kernel
theorem dX10_reset_19 : decode cX10_reset 19 = .ok (.aload_n 0, 1) := by decide +kernel
theorem dX10_reset_20 : decode cX10_reset 20 = .ok (.iload_n 1, 1) := by decide +kernel
theorem dX10_reset_21 : decode cX10_reset 21 = .ok (.putfield 9, 3) := by decide +kernel
theorem dX10_reset_24 : decode cX10_reset 24 = .ok (.aload_n 0, 1) := by decide +kernel
theorem dX10_reset_25 : decode cX10_reset 25 = .ok (.iconst 0, 1) := by decide +kernel
theorem dX10_reset_26 : decode cX10_reset 26 = .ok (.putfield 119, 3) := by decide +kernel
theorem dX10_reset_29 : decode cX10_reset 29 = .ok (.aload_n 0, 1) := by decide +kernel
theorem dX10_reset_30 : decode cX10_reset 30 = .ok (.iconst 0, 1) := by decide +kernel
theorem dX10_reset_31 : decode cX10_reset 31 = .ok (.putfield 124, 3) := by decide +kernel
theorem dX10_reset_34 : decode cX10_reset 34 = .ok (.aload_n 0, 1) := by decide +kernel
theorem dX10_reset_35 : decode cX10_reset 35 = .ok (.iconst 0, 1) := by decide +kernel
theorem dX10_reset_36 : decode cX10_reset 36 = .ok (.putfield 127, 3) := by decide +kernel
theorem dX10_reset_39 : decode cX10_reset 39 = .ok (.aload_n 0, 1) := by decide +kernel
theorem dX10_reset_40 : decode cX10_reset 40 = .ok (.iconst 0, 1) := by decide +kernel
theorem dX10_reset_41 : decode cX10_reset 41 = .ok (.putfield 130, 3) := by decide +kernel
theorem dX10_reset_44 : decode cX10_reset 44 = .ok (.iconst 0, 1) := by decide +kernel
theorem dX10_reset_45 : decode cX10_reset 45 = .ok (.istore_n 3, 1) := by decide +kernel
theorem dX10_reset_46 : decode cX10_reset 46 = .ok (.iload_n 3, 1) := by decide +kernel
theorem dX10_reset_47 : decode cX10_reset 47 = .ok (.bipush 6, 2) := by decide +kernel
theorem dX10_reset_49 : decode cX10_reset 49 = .ok (.if_icmp .ge 30, 3) := by decide +kernel
theorem dX10_reset_52 : decode cX10_reset 52 = .ok (.aload_n 0, 1) := by decide +kernel
theorem dX10_reset_53 : decode cX10_reset 53 = .ok (.getfield 22, 3) := by decide +kernel
theorem dX10_reset_56 : decode cX10_reset 56 = .ok (.iload_n 3, 1) := by decide +kernel
theorem dX10_reset_57 : decode cX10_reset 57 = .ok (.iconst 1, 1) := by decide +kernel
theorem dX10_reset_58 : decode cX10_reset 58 = .ok (.iastore, 1) := by decide +kernel
theorem dX10_reset_59 : decode cX10_reset 59 = .ok (.aload_n 0, 1) := by decide +kernel
theorem dX10_reset_60 : decode cX10_reset 60 = .ok (.getfield 25, 3) := by decide +kernel
theorem dX10_reset_63 : decode cX10_reset 63 = .ok (.iload_n 3, 1) := by decide +kernel
theorem dX10_reset_64 : decode cX10_reset 64 = .ok (.iconst 0, 1) := by decide +kernel
theorem dX10_reset_65 : decode cX10_reset 65 = .ok (.iastore, 1) := by decide +kernel
theorem dX10_reset_66 : decode cX10_reset 66 = .ok (.aload_n 0, 1) := by decide +kernel
theorem dX10_reset_67 : decode cX10_reset 67 = .ok (.getfield 28, 3) := by decide +kernel
theorem dX10_reset_70 : decode cX10_reset 70 = .ok (.iload_n 3, 1) := by decide +kernel
theorem dX10_reset_71 : decode cX10_reset 71 = .ok (.fconst 1, 1) := by decide +kernel
theorem dX10_reset_72 : decode cX10_reset 72 = .ok (.fastore, 1) := by decide +kernel
theorem dX10_reset_73 : decode cX10_reset 73 = .ok (.iinc 3 1, 3) := by decide +kernel
theorem dX10_reset_76 : decode cX10_reset 76 = .ok (.goto (-30), 3) := by decide +kernel
theorem dX10_reset_79 : decode cX10_reset 79 = .ok (.iload_n 2, 1) := by decide +kernel
theorem dX10_reset_80 : decode cX10_reset 80 = .ok (.ireturn, 1) := by decide +kernel
theorem dX10_letters_0 : decode cX10_letters 0 = .ok (.aload_n 0, 1) := by decide +kernel
theorem dX10_letters_1 : decode cX10_letters 1 = .ok (.getfield 9, 3) := by decide +kernel
theorem dX10_letters_4 : decode cX10_letters 4 = .ok (.ireturn, 1) := by decide +kernel
theorem dX10_append_0 : decode cX10_append 0 = .ok (.iload_n 1, 1) := by decide +kernel
theorem dX10_append_1 : decode cX10_append 1 = .ok (.i2l, 1) := by decide +kernel
theorem dX10_append_2 : decode cX10_append 2 = .ok (.lconst 0, 1) := by decide +kernel
theorem dX10_append_3 : decode cX10_append 3 = .ok (.ldc2_w 133, 3) := by decide +kernel
theorem dX10_append_6 : decode cX10_append 6 = .ok (.invokestatic 115, 3) := by decide +kernel
theorem dX10_append_9 : decode cX10_append 9 = .ok (.ifCond .eq 15, 3) := by decide +kernel
theorem dX10_append_12 : decode cX10_append 12 = .ok (.iload_n 2, 1) := by decide +kernel
theorem dX10_append_13 : decode cX10_append 13 = .ok (.i2l, 1) := by decide +kernel
theorem dX10_append_14 : decode cX10_append 14 = .ok (.lconst 1, 1) := by decide +kernel
theorem dX10_append_15 : decode cX10_append 15 = .ok (.ldc2_w 135, 3) := by decide +kernel
theorem dX10_append_18 : decode cX10_append 18 = .ok (.invokestatic 115, 3) := by decide +kernel
theorem dX10_append_21 : decode cX10_append 21 = .ok (.ifCond .ne 5, 3) := by decide +kernel
theorem dX10_append_24 : decode cX10_append 24 = .ok (.iconst (-1), 1) := by decide +kernel
theorem dX10_append_25 : decode cX10_append 25 = .ok (.ireturn, 1) := by decide +kernel
theorem dX10_append_26 : decode cX10_append 26 = .ok (.aload_n 0, 1) := by decide +kernel
theorem dX10_append_27 : decode cX10_append 27 = .ok (.getfield 137, 3) := by decide +kernel
theorem dX10_append_30 : decode cX10_append 30 = .ok (.iload_n 2, 1) := by decide +kernel
theorem dX10_append_31 : decode cX10_append 31 = .ok (.iadd, 1) := by decide +kernel
theorem dX10_append_32 : decode cX10_append 32 = .ok (.bipush 40, 2) := by decide +kernel
theorem dX10_append_34 : decode cX10_append 34 = .ok (.if_icmp .le 6, 3) := by decide +kernel
theorem dX10_append_37 : decode cX10_append 37 = .ok (.bipush (-4), 2) := by decide +kernel
theorem dX10_append_39 : decode cX10_append 39 = .ok (.ireturn, 1) := by decide +kernel
theorem dX10_append_40 : decode cX10_append 40 = .ok (.iconst 0, 1) := by decide +kernel
theorem dX10_append_41 : decode cX10_append 41 = .ok (.istore_n 3, 1) := by decide +kernel
theorem dX10_append_42 : decode cX10_append 42 = .ok (.iload_n 3, 1) := by decide +kernel
theorem dX10_append_43 : decode cX10_append 43 = .ok (.iload_n 2, 1) := by decide +kernel
theorem dX10_append_44 : decode cX10_append 44 = .ok (.if_icmp .ge 29, 3) := by decide +kernel
theorem dX10_append_47 : decode cX10_append 47 = .ok (.aload_n 0, 1) := by decide +kernel
theorem dX10_append_48 : decode cX10_append 48 = .ok (.getfield 32, 3) := by decide +kernel
theorem dX10_append_51 : decode cX10_append 51 = .ok (.aload_n 0, 1) := by decide +kernel
theorem dX10_append_52 : decode cX10_append 52 = .ok (.getfield 137, 3) := by decide +kernel
theorem dX10_append_55 : decode cX10_append 55 = .ok (.iload_n 1, 1) := by decide +kernel
theorem dX10_append_56 : decode cX10_append 56 = .ok (.iastore, 1) := by decide +kernel
theorem dX10_append_57 : decode cX10_append 57 = .ok (.aload_n 0, 1) := by decide +kernel
theorem dX10_append_58 : decode cX10_append 58 = .ok (.dup, 1) := by decide +kernel
theorem dX10_append_59 : decode cX10_append 59 = .ok (.getfield 137, 3) := by decide +kernel
theorem dX10_append_62 : decode cX10_append 62 = .ok (.iconst 1, 1) := by decide +kernel
theorem dX10_append_63 : decode cX10_append 63 = .ok (.iadd, 1) := by decide +kernel
theorem dX10_append_64 : decode cX10_append 64 = .ok (.putfield 137, 3) := by decide +kernel
theorem dX10_append_67 : decode cX10_append 67 = .ok (.iinc 3 1, 3) := by decide +kernel
theorem dX10_append_70 : decode cX10_append 70 = .ok (.goto (-28), 3) := by decide +kernel
theorem dX10_append_73 : decode cX10_append 73 = .ok (.aload_n 0, 1) := by decide +kernel
theorem dX10_append_74 : decode cX10_append 74 = .ok (.getfield 137, 3) := by decide +kernel
theorem dX10_append_77 : decode cX10_append 77 = .ok (.ireturn, 1) := by decide +kernel
theorem dX10_clearInput_0 : decode cX10_clearInput 0 = .ok (.aload_n 0, 1) := by decide +kernel
theorem dX10_clearInput_1 : decode cX10_clearInput 1 = .ok (.getfield 137, 3) := by decide +kernel
theorem dX10_clearInput_4 : decode cX10_clearInput 4 = .ok (.istore_n 1, 1) := by decide +kernel
theorem dX10_clearInput_5 : decode cX10_clearInput 5 = .ok (.aload_n 0, 1) := by decide +kernel
theorem dX10_clearInput_6 : decode cX10_clearInput 6 = .ok (.iconst 0, 1) := by decide +kernel
theorem dX10_clearInput_7 : decode cX10_clearInput 7 = .ok (.putfield 137, 3) := by decide +kernel
theorem dX10_clearInput_10 : decode cX10_clearInput 10 = .ok (.iload_n 1, 1) := by decide +kernel
theorem dX10_clearInput_11 : decode cX10_clearInput 11 = .ok (.ireturn, 1) := by decide +kernel
theorem dX10_lettersFrom_0 : decode cX10_lettersFrom 0 = .ok (.iload_n 1, 1) := by decide +kernel
theorem dX10_lettersFrom_1 : decode cX10_lettersFrom 1 = .ok (.istore_n 2, 1) := by decide +kernel
theorem dX10_lettersFrom_2 : decode cX10_lettersFrom 2 = .ok (.iload_n 2, 1) := by decide +kernel
theorem dX10_lettersFrom_3 : decode cX10_lettersFrom 3 = .ok (.aload_n 0, 1) := by decide +kernel
theorem dX10_lettersFrom_4 : decode cX10_lettersFrom 4 = .ok (.getfield 137, 3) := by decide +kernel
theorem dX10_lettersFrom_7 : decode cX10_lettersFrom 7 = .ok (.if_icmp .ge 25, 3) := by decide +kernel
theorem dX10_lettersFrom_10 : decode cX10_lettersFrom 10 = .ok (.aload_n 0, 1) := by decide +kernel
theorem dX10_lettersFrom_11 : decode cX10_lettersFrom 11 = .ok (.aload_n 0, 1) := by decide +kernel
theorem dX10_lettersFrom_12 : decode cX10_lettersFrom 12 = .ok (.getfield 32, 3) := by decide +kernel
theorem dX10_lettersFrom_15 : decode cX10_lettersFrom 15 = .ok (.iload_n 2, 1) := by decide +kernel
theorem dX10_lettersFrom_16 : decode cX10_lettersFrom 16 = .ok (.iaload, 1) := by decide +kernel
theorem dX10_lettersFrom_17 : decode cX10_lettersFrom 17 = .ok (.bipush 97, 2) := by decide +kernel
theorem dX10_lettersFrom_19 : decode cX10_lettersFrom 19 = .ok (.isub, 1) := by decide +kernel
theorem dX10_lettersFrom_20 : decode cX10_lettersFrom 20 = .ok (.invokevirtual 140, 3) := by decide +kernel
theorem dX10_lettersFrom_23 : decode cX10_lettersFrom 23 = .ok (.ifCond .eq 9, 3) := by decide +kernel
theorem dX10_lettersFrom_26 : decode cX10_lettersFrom 26 = .ok (.iinc 2 1, 3) := by decide +kernel
theorem dX10_lettersFrom_29 : decode cX10_lettersFrom 29 = .ok (.goto (-27), 3) := by decide +kernel
theorem dX10_lettersFrom_32 : decode cX10_lettersFrom 32 = .ok (.iload_n 2, 1) := by decide +kernel
theorem dX10_lettersFrom_33 : decode cX10_lettersFrom 33 = .ok (.iload_n 1, 1) := by decide +kernel
theorem dX10_lettersFrom_34 : decode cX10_lettersFrom 34 = .ok (.isub, 1) := by decide +kernel
theorem dX10_lettersFrom_35 : decode cX10_lettersFrom 35 = .ok (.ireturn, 1) := by decide +kernel
theorem dX10_addRule_0 : decode cX10_addRule 0 = .ok (.aload_n 0, 1) := by decide +kernel
theorem dX10_addRule_1 : decode cX10_addRule 1 = .ok (.invokevirtual 144, 3) := by decide +kernel
theorem dX10_addRule_4 : decode cX10_addRule 4 = .ok (.istore_n 1, 1) := by decide +kernel
theorem dX10_addRule_5 : decode cX10_addRule 5 = .ok (.aload_n 0, 1) := by decide +kernel
theorem dX10_addRule_6 : decode cX10_addRule 6 = .ok (.getfield 119, 3) := by decide +kernel
theorem dX10_addRule_9 : decode cX10_addRule 9 = .ok (.bipush 8, 2) := by decide +kernel
theorem dX10_addRule_11 : decode cX10_addRule 11 = .ok (.if_icmp .ne 6, 3) := by decide +kernel
theorem dX10_addRule_14 : decode cX10_addRule 14 = .ok (.bipush (-4), 2) := by decide +kernel
theorem dX10_addRule_16 : decode cX10_addRule 16 = .ok (.ireturn, 1) := by decide +kernel
theorem dX10_addRule_17 : decode cX10_addRule 17 = .ok (.aload_n 0, 1) := by decide +kernel
theorem dX10_addRule_18 : decode cX10_addRule 18 = .ok (.iload_n 1, 1) := by decide +kernel
theorem dX10_addRule_19 : decode cX10_addRule 19 = .ok (.putfield 137, 3) := by decide +kernel
theorem dX10_addRule_22 : decode cX10_addRule 22 = .ok (.aload_n 0, 1) := by decide +kernel
theorem dX10_addRule_23 : decode cX10_addRule 23 = .ok (.iconst 0, 1) := by decide +kernel
theorem dX10_addRule_24 : decode cX10_addRule 24 = .ok (.invokevirtual 148, 3) := by decide +kernel
theorem dX10_addRule_27 : decode cX10_addRule 27 = .ok (.istore_n 2, 1) := by decide +kernel
theorem dX10_addRule_28 : decode cX10_addRule 28 = .ok (.iload_n 2, 1) := by decide +kernel
theorem dX10_addRule_29 : decode cX10_addRule 29 = .ok (.aload_n 0, 1) := by decide +kernel
theorem dX10_addRule_30 : decode cX10_addRule 30 = .ok (.getfield 137, 3) := by decide +kernel
theorem dX10_addRule_33 : decode cX10_addRule 33 = .ok (.if_icmp .ge 24, 3) := by decide +kernel
theorem dX10_addRule_36 : decode cX10_addRule 36 = .ok (.aload_n 0, 1) := by decide +kernel
theorem dX10_addRule_37 : decode cX10_addRule 37 = .ok (.getfield 32, 3) := by decide +kernel
theorem dX10_addRule_40 : decode cX10_addRule 40 = .ok (.iload_n 2, 1) := by decide +kernel
theorem dX10_addRule_41 : decode cX10_addRule 41 = .ok (.iaload, 1) := by decide +kernel
theorem dX10_addRule_42 : decode cX10_addRule 42 = .ok (.bipush 62, 2) := by decide +kernel
theorem dX10_addRule_44 : decode cX10_addRule 44 = .ok (.if_icmp .ne 13, 3) := by decide +kernel
theorem dX10_addRule_47 : decode cX10_addRule 47 = .ok (.aload_n 0, 1) := by decide +kernel
theorem dX10_addRule_48 : decode cX10_addRule 48 = .ok (.iload_n 2, 1) := by decide +kernel
theorem dX10_addRule_49 : decode cX10_addRule 49 = .ok (.iconst 1, 1) := by decide +kernel
theorem dX10_addRule_50 : decode cX10_addRule 50 = .ok (.iadd, 1) := by decide +kernel
theorem dX10_addRule_51 : decode cX10_addRule 51 = .ok (.invokevirtual 148, 3) := by decide +kernel
theorem dX10_addRule_54 : decode cX10_addRule 54 = .ok (.goto 4, 3) := by decide +kernel
theorem dX10_addRule_57 : decode cX10_addRule 57 = .ok (.iconst (-1), 1) := by decide +kernel
theorem dX10_addRule_58 : decode cX10_addRule 58 = .ok (.istore_n 3, 1) := by decide +kernel
theorem dX10_addRule_59 : decode cX10_addRule 59 = .ok (.aload_n 0, 1) := by decide +kernel
theorem dX10_addRule_60 : decode cX10_addRule 60 = .ok (.iconst 0, 1) := by decide +kernel
theorem dX10_addRule_61 : decode cX10_addRule 61 = .ok (.putfield 137, 3) := by decide +kernel
theorem dX10_addRule_64 : decode cX10_addRule 64 = .ok (.iload_n 2, 1) := by decide +kernel
theorem dX10_addRule_65 : decode cX10_addRule 65 = .ok (.i2l, 1) := by decide +kernel
theorem dX10_addRule_66 : decode cX10_addRule 66 = .ok (.lconst 1, 1) := by decide +kernel
theorem dX10_addRule_67 : decode cX10_addRule 67 = .ok (.ldc2_w 122, 3) := by decide +kernel
theorem dX10_addRule_70 : decode cX10_addRule 70 = .ok (.invokestatic 115, 3) := by decide +kernel
theorem dX10_addRule_73 : decode cX10_addRule 73 = .ok (.ifCond .eq 24, 3) := by decide +kernel
theorem dX10_addRule_76 : decode cX10_addRule 76 = .ok (.iload_n 3, 1) := by decide +kernel
theorem dX10_addRule_77 : decode cX10_addRule 77 = .ok (.i2l, 1) := by decide +kernel
theorem dX10_addRule_78 : decode cX10_addRule 78 = .ok (.lconst 0, 1) := by decide +kernel
theorem dX10_addRule_79 : decode cX10_addRule 79 = .ok (.ldc2_w 122, 3) := by decide +kernel
theorem dX10_addRule_82 : decode cX10_addRule 82 = .ok (.invokestatic 115, 3) := by decide +kernel
theorem dX10_addRule_85 : decode cX10_addRule 85 = .ok (.ifCond .eq 12, 3) := by decide +kernel
theorem dX10_addRule_88 : decode cX10_addRule 88 = .ok (.iload_n 2, 1) := by decide +kernel
theorem dX10_addRule_89 : decode cX10_addRule 89 = .ok (.iconst 1, 1) := by decide +kernel
theorem dX10_addRule_90 : decode cX10_addRule 90 = .ok (.iadd, 1) := by decide +kernel
theorem dX10_addRule_91 : decode cX10_addRule 91 = .ok (.iload_n 3, 1) := by decide +kernel
theorem dX10_addRule_92 : decode cX10_addRule 92 = .ok (.iadd, 1) := by decide +kernel
theorem dX10_addRule_93 : decode cX10_addRule 93 = .ok (.iload_n 1, 1) := by decide +kernel
theorem dX10_addRule_94 : decode cX10_addRule 94 = .ok (.if_icmp .eq 6, 3) := by decide +kernel
theorem dX10_addRule_97 : decode cX10_addRule 97 = .ok (.bipush (-5), 2) := by decide +kernel
theorem dX10_addRule_99 : decode cX10_addRule 99 = .ok (.ireturn, 1) := by decide +kernel
theorem dX10_addRule_100 : decode cX10_addRule 100 = .ok (.iconst 0, 1) := by decide +kernel
theorem dX10_addRule_101 : decode cX10_addRule 101 = .ok (.istore 4, 2) := by decide +kernel
theorem dX10_addRule_103 : decode cX10_addRule 103 = .ok (.iload 4, 2) := by decide +kernel
theorem dX10_addRule_105 : decode cX10_addRule 105 = .ok (.iload_n 2, 1) := by decide +kernel
theorem dX10_addRule_106 : decode cX10_addRule 106 = .ok (.if_icmp .ge 34, 3) := by decide +kernel
theorem dX10_addRule_109 : decode cX10_addRule 109 = .ok (.aload_n 0, 1) := by decide +kernel
theorem dX10_addRule_110 : decode cX10_addRule 110 = .ok (.getfield 19, 3) := by decide +kernel
theorem dX10_addRule_113 : decode cX10_addRule 113 = .ok (.bipush 12, 2) := by decide +kernel
theorem dX10_addRule_115 : decode cX10_addRule 115 = .ok (.aload_n 0, 1) := by decide +kernel
theorem dX10_addRule_116 : decode cX10_addRule 116 = .ok (.getfield 119, 3) := by decide +kernel
theorem dX10_addRule_119 : decode cX10_addRule 119 = .ok (.imul, 1) := by decide +kernel
theorem dX10_addRule_120 : decode cX10_addRule 120 = .ok (.iload 4, 2) := by decide +kernel
theorem dX10_addRule_122 : decode cX10_addRule 122 = .ok (.iadd, 1) := by decide +kernel
theorem dX10_addRule_123 : decode cX10_addRule 123 = .ok (.aload_n 0, 1) := by decide +kernel
theorem dX10_addRule_124 : decode cX10_addRule 124 = .ok (.getfield 32, 3) := by decide +kernel
theorem dX10_addRule_127 : decode cX10_addRule 127 = .ok (.iload 4, 2) := by decide +kernel
theorem dX10_addRule_129 : decode cX10_addRule 129 = .ok (.iaload, 1) := by decide +kernel
theorem dX10_addRule_130 : decode cX10_addRule 130 = .ok (.bipush 97, 2) := by decide +kernel
theorem dX10_addRule_132 : decode cX10_addRule 132 = .ok (.isub, 1) := by decide +kernel
theorem dX10_addRule_133 : decode cX10_addRule 133 = .ok (.iastore, 1) := by decide +kernel
theorem dX10_addRule_134 : decode cX10_addRule 134 = .ok (.iinc 4 1, 3) := by decide +kernel
theorem dX10_addRule_137 : decode cX10_addRule 137 = .ok (.goto (-34), 3) := by decide +kernel
theorem dX10_addRule_140 : decode cX10_addRule 140 = .ok (.iconst 0, 1) := by decide +kernel
theorem dX10_addRule_141 : decode cX10_addRule 141 = .ok (.istore 4, 2) := by decide +kernel
theorem dX10_addRule_143 : decode cX10_addRule 143 = .ok (.iload 4, 2) := by decide +kernel
theorem dX10_addRule_145 : decode cX10_addRule 145 = .ok (.iload_n 3, 1) := by decide +kernel
theorem dX10_addRule_146 : decode cX10_addRule 146 = .ok (.if_icmp .ge 41, 3) := by decide +kernel
theorem dX10_addRule_149 : decode cX10_addRule 149 = .ok (.aload_n 0, 1) := by decide +kernel
theorem dX10_addRule_150 : decode cX10_addRule 150 = .ok (.getfield 19, 3) := by decide +kernel
theorem dX10_addRule_153 : decode cX10_addRule 153 = .ok (.bipush 12, 2) := by decide +kernel
theorem dX10_addRule_155 : decode cX10_addRule 155 = .ok (.aload_n 0, 1) := by decide +kernel
theorem dX10_addRule_156 : decode cX10_addRule 156 = .ok (.getfield 119, 3) := by decide +kernel
theorem dX10_addRule_159 : decode cX10_addRule 159 = .ok (.imul, 1) := by decide +kernel
theorem dX10_addRule_160 : decode cX10_addRule 160 = .ok (.bipush 6, 2) := by decide +kernel
theorem dX10_addRule_162 : decode cX10_addRule 162 = .ok (.iadd, 1) := by decide +kernel
theorem dX10_addRule_163 : decode cX10_addRule 163 = .ok (.iload 4, 2) := by decide +kernel
theorem dX10_addRule_165 : decode cX10_addRule 165 = .ok (.iadd, 1) := by decide +kernel
theorem dX10_addRule_166 : decode cX10_addRule 166 = .ok (.aload_n 0, 1) := by decide +kernel
theorem dX10_addRule_167 : decode cX10_addRule 167 = .ok (.getfield 32, 3) := by decide +kernel
theorem dX10_addRule_170 : decode cX10_addRule 170 = .ok (.iload_n 2, 1) := by decide +kernel
theorem dX10_addRule_171 : decode cX10_addRule 171 = .ok (.iconst 1, 1) := by decide +kernel
theorem dX10_addRule_172 : decode cX10_addRule 172 = .ok (.iadd, 1) := by decide +kernel
theorem dX10_addRule_173 : decode cX10_addRule 173 = .ok (.iload 4, 2) := by decide +kernel
theorem dX10_addRule_175 : decode cX10_addRule 175 = .ok (.iadd, 1) := by decide +kernel
theorem dX10_addRule_176 : decode cX10_addRule 176 = .ok (.iaload, 1) := by decide +kernel
theorem dX10_addRule_177 : decode cX10_addRule 177 = .ok (.bipush 97, 2) := by decide +kernel
theorem dX10_addRule_179 : decode cX10_addRule 179 = .ok (.isub, 1) := by decide +kernel
theorem dX10_addRule_180 : decode cX10_addRule 180 = .ok (.iastore, 1) := by decide +kernel
theorem dX10_addRule_181 : decode cX10_addRule 181 = .ok (.iinc 4 1, 3) := by decide +kernel
theorem dX10_addRule_184 : decode cX10_addRule 184 = .ok (.goto (-41), 3) := by decide +kernel
theorem dX10_addRule_187 : decode cX10_addRule 187 = .ok (.aload_n 0, 1) := by decide +kernel
theorem dX10_addRule_188 : decode cX10_addRule 188 = .ok (.getfield 15, 3) := by decide +kernel
theorem dX10_addRule_191 : decode cX10_addRule 191 = .ok (.iconst 2, 1) := by decide +kernel
theorem dX10_addRule_192 : decode cX10_addRule 192 = .ok (.aload_n 0, 1) := by decide +kernel
theorem dX10_addRule_193 : decode cX10_addRule 193 = .ok (.getfield 119, 3) := by decide +kernel
theorem dX10_addRule_196 : decode cX10_addRule 196 = .ok (.imul, 1) := by decide +kernel
theorem dX10_addRule_197 : decode cX10_addRule 197 = .ok (.iload_n 2, 1) := by decide +kernel
theorem dX10_addRule_198 : decode cX10_addRule 198 = .ok (.iastore, 1) := by decide +kernel
theorem dX10_addRule_199 : decode cX10_addRule 199 = .ok (.aload_n 0, 1) := by decide +kernel
theorem dX10_addRule_200 : decode cX10_addRule 200 = .ok (.getfield 15, 3) := by decide +kernel
theorem dX10_addRule_203 : decode cX10_addRule 203 = .ok (.iconst 2, 1) := by decide +kernel
theorem dX10_addRule_204 : decode cX10_addRule 204 = .ok (.aload_n 0, 1) := by decide +kernel
theorem dX10_addRule_205 : decode cX10_addRule 205 = .ok (.getfield 119, 3) := by decide +kernel
theorem dX10_addRule_208 : decode cX10_addRule 208 = .ok (.imul, 1) := by decide +kernel
