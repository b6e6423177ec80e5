theorem dX10_addRule_209 : decode cX10_addRule 209 = .ok (.iconst 1, 1) := by decide +kernel
theorem dX10_addRule_210 : decode cX10_addRule 210 = .ok (.iadd, 1) := by decide +kernel
theorem dX10_addRule_211 : decode cX10_addRule 211 = .ok (.iload_n 3, 1) := by decide +kernel
theorem dX10_addRule_212 : decode cX10_addRule 212 = .ok (.iastore, 1) := by decide +kernel
theorem dX10_addRule_213 : decode cX10_addRule 213 = .ok (.aload_n 0, 1) := by decide +kernel
theorem dX10_addRule_214 : decode cX10_addRule 214 = .ok (.dup, 1) := by decide +kernel
theorem dX10_addRule_215 : decode cX10_addRule 215 = .ok (.getfield 119, 3) := by decide +kernel
theorem dX10_addRule_218 : decode cX10_addRule 218 = .ok (.iconst 1, 1) := by decide +kernel
theorem dX10_addRule_219 : decode cX10_addRule 219 = .ok (.iadd, 1) := by decide +kernel
theorem dX10_addRule_220 : decode cX10_addRule 220 = .ok (.putfield 119, 3) := by decide +kernel
theorem dX10_addRule_223 : decode cX10_addRule 223 = .ok (.aload_n 0, 1) := by decide +kernel
theorem dX10_addRule_224 : decode cX10_addRule 224 = .ok (.getfield 119, 3) := by decide +kernel
theorem dX10_addRule_227 : decode cX10_addRule 227 = .ok (.iconst 1, 1) := by decide +kernel
theorem dX10_addRule_228 : decode cX10_addRule 228 = .ok (.isub, 1) := by decide +kernel
theorem dX10_addRule_229 : decode cX10_addRule 229 = .ok (.ireturn, 1) := by decide +kernel
theorem dX10_removeRule_0 : decode cX10_removeRule 0 = .ok (.aload_n 0, 1) := by decide +kernel
theorem dX10_removeRule_1 : decode cX10_removeRule 1 = .ok (.iload_n 1, 1) := by decide +kernel
theorem dX10_removeRule_2 : decode cX10_removeRule 2 = .ok (.invokevirtual 152, 3) := by decide +kernel
theorem dX10_removeRule_5 : decode cX10_removeRule 5 = .ok (.ifCond .ne 6, 3) := by decide +kernel
theorem dX10_removeRule_8 : decode cX10_removeRule 8 = .ok (.bipush (-3), 2) := by decide +kernel
theorem dX10_removeRule_10 : decode cX10_removeRule 10 = .ok (.ireturn, 1) := by decide +kernel
theorem dX10_removeRule_11 : decode cX10_removeRule 11 = .ok (.iload_n 1, 1) := by decide +kernel
theorem dX10_removeRule_12 : decode cX10_removeRule 12 = .ok (.istore_n 2, 1) := by decide +kernel
theorem dX10_removeRule_13 : decode cX10_removeRule 13 = .ok (.iload_n 2, 1) := by decide +kernel
theorem dX10_removeRule_14 : decode cX10_removeRule 14 = .ok (.aload_n 0, 1) := by decide +kernel
theorem dX10_removeRule_15 : decode cX10_removeRule 15 = .ok (.getfield 119, 3) := by decide +kernel
theorem dX10_removeRule_18 : decode cX10_removeRule 18 = .ok (.iconst 1, 1) := by decide +kernel
theorem dX10_removeRule_19 : decode cX10_removeRule 19 = .ok (.isub, 1) := by decide +kernel
theorem dX10_removeRule_20 : decode cX10_removeRule 20 = .ok (.if_icmp .ge 86, 3) := by decide +kernel
theorem dX10_removeRule_23 : decode cX10_removeRule 23 = .ok (.iconst 0, 1) := by decide +kernel
theorem dX10_removeRule_24 : decode cX10_removeRule 24 = .ok (.istore_n 3, 1) := by decide +kernel
theorem dX10_removeRule_25 : decode cX10_removeRule 25 = .ok (.iload_n 3, 1) := by decide +kernel
theorem dX10_removeRule_26 : decode cX10_removeRule 26 = .ok (.bipush 12, 2) := by decide +kernel
theorem dX10_removeRule_28 : decode cX10_removeRule 28 = .ok (.if_icmp .ge 34, 3) := by decide +kernel
theorem dX10_removeRule_31 : decode cX10_removeRule 31 = .ok (.aload_n 0, 1) := by decide +kernel
theorem dX10_removeRule_32 : decode cX10_removeRule 32 = .ok (.getfield 19, 3) := by decide +kernel
theorem dX10_removeRule_35 : decode cX10_removeRule 35 = .ok (.bipush 12, 2) := by decide +kernel
theorem dX10_removeRule_37 : decode cX10_removeRule 37 = .ok (.iload_n 2, 1) := by decide +kernel
theorem dX10_removeRule_38 : decode cX10_removeRule 38 = .ok (.imul, 1) := by decide +kernel
theorem dX10_removeRule_39 : decode cX10_removeRule 39 = .ok (.iload_n 3, 1) := by decide +kernel
theorem dX10_removeRule_40 : decode cX10_removeRule 40 = .ok (.iadd, 1) := by decide +kernel
theorem dX10_removeRule_41 : decode cX10_removeRule 41 = .ok (.aload_n 0, 1) := by decide +kernel
theorem dX10_removeRule_42 : decode cX10_removeRule 42 = .ok (.getfield 19, 3) := by decide +kernel
theorem dX10_removeRule_45 : decode cX10_removeRule 45 = .ok (.bipush 12, 2) := by decide +kernel
theorem dX10_removeRule_47 : decode cX10_removeRule 47 = .ok (.iload_n 2, 1) := by decide +kernel
theorem dX10_removeRule_48 : decode cX10_removeRule 48 = .ok (.imul, 1) := by decide +kernel
theorem dX10_removeRule_49 : decode cX10_removeRule 49 = .ok (.bipush 12, 2) := by decide +kernel
theorem dX10_removeRule_51 : decode cX10_removeRule 51 = .ok (.iadd, 1) := by decide +kernel
theorem dX10_removeRule_52 : decode cX10_removeRule 52 = .ok (.iload_n 3, 1) := by decide +kernel
theorem dX10_removeRule_53 : decode cX10_removeRule 53 = .ok (.iadd, 1) := by decide +kernel
theorem dX10_removeRule_54 : decode cX10_removeRule 54 = .ok (.iaload, 1) := by decide +kernel
theorem dX10_removeRule_55 : decode cX10_removeRule 55 = .ok (.iastore, 1) := by decide +kernel
theorem dX10_removeRule_56 : decode cX10_removeRule 56 = .ok (.iinc 3 1, 3) := by decide +kernel
theorem dX10_removeRule_59 : decode cX10_removeRule 59 = .ok (.goto (-34), 3) := by decide +kernel
theorem dX10_removeRule_62 : decode cX10_removeRule 62 = .ok (.aload_n 0, 1) := by decide +kernel
theorem dX10_removeRule_63 : decode cX10_removeRule 63 = .ok (.getfield 15, 3) := by decide +kernel
theorem dX10_removeRule_66 : decode cX10_removeRule 66 = .ok (.iconst 2, 1) := by decide +kernel
theorem dX10_removeRule_67 : decode cX10_removeRule 67 = .ok (.iload_n 2, 1) := by decide +kernel
theorem dX10_removeRule_68 : decode cX10_removeRule 68 = .ok (.imul, 1) := by decide +kernel
theorem dX10_removeRule_69 : decode cX10_removeRule 69 = .ok (.aload_n 0, 1) := by decide +kernel
theorem dX10_removeRule_70 : decode cX10_removeRule 70 = .ok (.getfield 15, 3) := by decide +kernel
theorem dX10_removeRule_73 : decode cX10_removeRule 73 = .ok (.iconst 2, 1) := by decide +kernel
theorem dX10_removeRule_74 : decode cX10_removeRule 74 = .ok (.iload_n 2, 1) := by decide +kernel
theorem dX10_removeRule_75 : decode cX10_removeRule 75 = .ok (.imul, 1) := by decide +kernel
theorem dX10_removeRule_76 : decode cX10_removeRule 76 = .ok (.iconst 2, 1) := by decide +kernel
theorem dX10_removeRule_77 : decode cX10_removeRule 77 = .ok (.iadd, 1) := by decide +kernel
theorem dX10_removeRule_78 : decode cX10_removeRule 78 = .ok (.iaload, 1) := by decide +kernel
theorem dX10_removeRule_79 : decode cX10_removeRule 79 = .ok (.iastore, 1) := by decide +kernel
theorem dX10_removeRule_80 : decode cX10_removeRule 80 = .ok (.aload_n 0, 1) := by decide +kernel
theorem dX10_removeRule_81 : decode cX10_removeRule 81 = .ok (.getfield 15, 3) := by decide +kernel
theorem dX10_removeRule_84 : decode cX10_removeRule 84 = .ok (.iconst 2, 1) := by decide +kernel
theorem dX10_removeRule_85 : decode cX10_removeRule 85 = .ok (.iload_n 2, 1) := by decide +kernel
theorem dX10_removeRule_86 : decode cX10_removeRule 86 = .ok (.imul, 1) := by decide +kernel
theorem dX10_removeRule_87 : decode cX10_removeRule 87 = .ok (.iconst 1, 1) := by decide +kernel
theorem dX10_removeRule_88 : decode cX10_removeRule 88 = .ok (.iadd, 1) := by decide +kernel
theorem dX10_removeRule_89 : decode cX10_removeRule 89 = .ok (.aload_n 0, 1) := by decide +kernel
theorem dX10_removeRule_90 : decode cX10_removeRule 90 = .ok (.getfield 15, 3) := by decide +kernel
theorem dX10_removeRule_93 : decode cX10_removeRule 93 = .ok (.iconst 2, 1) := by decide +kernel
theorem dX10_removeRule_94 : decode cX10_removeRule 94 = .ok (.iload_n 2, 1) := by decide +kernel
theorem dX10_removeRule_95 : decode cX10_removeRule 95 = .ok (.imul, 1) := by decide +kernel
theorem dX10_removeRule_96 : decode cX10_removeRule 96 = .ok (.iconst 3, 1) := by decide +kernel
theorem dX10_removeRule_97 : decode cX10_removeRule 97 = .ok (.iadd, 1) := by decide +kernel
theorem dX10_removeRule_98 : decode cX10_removeRule 98 = .ok (.iaload, 1) := by decide +kernel
theorem dX10_removeRule_99 : decode cX10_removeRule 99 = .ok (.iastore, 1) := by decide +kernel
theorem dX10_removeRule_100 : decode cX10_removeRule 100 = .ok (.iinc 2 1, 3) := by decide +kernel
theorem dX10_removeRule_103 : decode cX10_removeRule 103 = .ok (.goto (-90), 3) := by decide +kernel
theorem dX10_removeRule_106 : decode cX10_removeRule 106 = .ok (.aload_n 0, 1) := by decide +kernel
theorem dX10_removeRule_107 : decode cX10_removeRule 107 = .ok (.dup, 1) := by decide +kernel
theorem dX10_removeRule_108 : decode cX10_removeRule 108 = .ok (.getfield 119, 3) := by decide +kernel
theorem dX10_removeRule_111 : decode cX10_removeRule 111 = .ok (.iconst 1, 1) := by decide +kernel
theorem dX10_removeRule_112 : decode cX10_removeRule 112 = .ok (.isub, 1) := by decide +kernel
theorem dX10_removeRule_113 : decode cX10_removeRule 113 = .ok (.putfield 119, 3) := by decide +kernel
theorem dX10_removeRule_116 : decode cX10_removeRule 116 = .ok (.aload_n 0, 1) := by decide +kernel
theorem dX10_removeRule_117 : decode cX10_removeRule 117 = .ok (.iconst 0, 1) := by decide +kernel
theorem dX10_removeRule_118 : decode cX10_removeRule 118 = .ok (.putfield 127, 3) := by decide +kernel
theorem dX10_removeRule_121 : decode cX10_removeRule 121 = .ok (.aload_n 0, 1) := by decide +kernel
theorem dX10_removeRule_122 : decode cX10_removeRule 122 = .ok (.getfield 119, 3) := by decide +kernel
theorem dX10_removeRule_125 : decode cX10_removeRule 125 = .ok (.ireturn, 1) := by decide +kernel
theorem dX10_ruleCount_0 : decode cX10_ruleCount 0 = .ok (.aload_n 0, 1) := by decide +kernel
theorem dX10_ruleCount_1 : decode cX10_ruleCount 1 = .ok (.getfield 119, 3) := by decide +kernel
theorem dX10_ruleCount_4 : decode cX10_ruleCount 4 = .ok (.ireturn, 1) := by decide +kernel
theorem dX10_ruleLetter_0 : decode cX10_ruleLetter 0 = .ok (.aload_n 0, 1) := by decide +kernel
theorem dX10_ruleLetter_1 : decode cX10_ruleLetter 1 = .ok (.iload_n 1, 1) := by decide +kernel
theorem dX10_ruleLetter_2 : decode cX10_ruleLetter 2 = .ok (.invokevirtual 152, 3) := by decide +kernel
theorem dX10_ruleLetter_5 : decode cX10_ruleLetter 5 = .ok (.ifCond .ne 6, 3) := by decide +kernel
theorem dX10_ruleLetter_8 : decode cX10_ruleLetter 8 = .ok (.bipush (-3), 2) := by decide +kernel
theorem dX10_ruleLetter_10 : decode cX10_ruleLetter 10 = .ok (.ireturn, 1) := by decide +kernel
theorem dX10_ruleLetter_11 : decode cX10_ruleLetter 11 = .ok (.iload_n 2, 1) := by decide +kernel
theorem dX10_ruleLetter_12 : decode cX10_ruleLetter 12 = .ok (.i2l, 1) := by decide +kernel
theorem dX10_ruleLetter_13 : decode cX10_ruleLetter 13 = .ok (.lconst 0, 1) := by decide +kernel
theorem dX10_ruleLetter_14 : decode cX10_ruleLetter 14 = .ok (.lconst 1, 1) := by decide +kernel
theorem dX10_ruleLetter_15 : decode cX10_ruleLetter 15 = .ok (.invokestatic 115, 3) := by decide +kernel
theorem dX10_ruleLetter_18 : decode cX10_ruleLetter 18 = .ok (.ifCond .ne 5, 3) := by decide +kernel
theorem dX10_ruleLetter_21 : decode cX10_ruleLetter 21 = .ok (.iconst (-1), 1) := by decide +kernel
theorem dX10_ruleLetter_22 : decode cX10_ruleLetter 22 = .ok (.ireturn, 1) := by decide +kernel
theorem dX10_ruleLetter_23 : decode cX10_ruleLetter 23 = .ok (.iload_n 3, 1) := by decide +kernel
theorem dX10_ruleLetter_24 : decode cX10_ruleLetter 24 = .ok (.i2l, 1) := by decide +kernel
theorem dX10_ruleLetter_25 : decode cX10_ruleLetter 25 = .ok (.lconst 0, 1) := by decide +kernel
theorem dX10_ruleLetter_26 : decode cX10_ruleLetter 26 = .ok (.aload_n 0, 1) := by decide +kernel
theorem dX10_ruleLetter_27 : decode cX10_ruleLetter 27 = .ok (.getfield 15, 3) := by decide +kernel
theorem dX10_ruleLetter_30 : decode cX10_ruleLetter 30 = .ok (.iconst 2, 1) := by decide +kernel
theorem dX10_ruleLetter_31 : decode cX10_ruleLetter 31 = .ok (.iload_n 1, 1) := by decide +kernel
theorem dX10_ruleLetter_32 : decode cX10_ruleLetter 32 = .ok (.imul, 1) := by decide +kernel
theorem dX10_ruleLetter_33 : decode cX10_ruleLetter 33 = .ok (.iload_n 2, 1) := by decide +kernel
theorem dX10_ruleLetter_34 : decode cX10_ruleLetter 34 = .ok (.iadd, 1) := by decide +kernel
theorem dX10_ruleLetter_35 : decode cX10_ruleLetter 35 = .ok (.iaload, 1) := by decide +kernel
theorem dX10_ruleLetter_36 : decode cX10_ruleLetter 36 = .ok (.iconst 1, 1) := by decide +kernel
theorem dX10_ruleLetter_37 : decode cX10_ruleLetter 37 = .ok (.isub, 1) := by decide +kernel
theorem dX10_ruleLetter_38 : decode cX10_ruleLetter 38 = .ok (.i2l, 1) := by decide +kernel
theorem dX10_ruleLetter_39 : decode cX10_ruleLetter 39 = .ok (.invokestatic 115, 3) := by decide +kernel
theorem dX10_ruleLetter_42 : decode cX10_ruleLetter 42 = .ok (.ifCond .eq 22, 3) := by decide +kernel
theorem dX10_ruleLetter_45 : decode cX10_ruleLetter 45 = .ok (.aload_n 0, 1) := by decide +kernel
theorem dX10_ruleLetter_46 : decode cX10_ruleLetter 46 = .ok (.getfield 19, 3) := by decide +kernel
theorem dX10_ruleLetter_49 : decode cX10_ruleLetter 49 = .ok (.bipush 12, 2) := by decide +kernel
theorem dX10_ruleLetter_51 : decode cX10_ruleLetter 51 = .ok (.iload_n 1, 1) := by decide +kernel
theorem dX10_ruleLetter_52 : decode cX10_ruleLetter 52 = .ok (.imul, 1) := by decide +kernel
theorem dX10_ruleLetter_53 : decode cX10_ruleLetter 53 = .ok (.bipush 6, 2) := by decide +kernel
theorem dX10_ruleLetter_55 : decode cX10_ruleLetter 55 = .ok (.iload_n 2, 1) := by decide +kernel
theorem dX10_ruleLetter_56 : decode cX10_ruleLetter 56 = .ok (.imul, 1) := by decide +kernel
theorem dX10_ruleLetter_57 : decode cX10_ruleLetter 57 = .ok (.iadd, 1) := by decide +kernel
theorem dX10_ruleLetter_58 : decode cX10_ruleLetter 58 = .ok (.iload_n 3, 1) := by decide +kernel
theorem dX10_ruleLetter_59 : decode cX10_ruleLetter 59 = .ok (.iadd, 1) := by decide +kernel
theorem dX10_ruleLetter_60 : decode cX10_ruleLetter 60 = .ok (.iaload, 1) := by decide +kernel
theorem dX10_ruleLetter_61 : decode cX10_ruleLetter 61 = .ok (.goto 5, 3) := by decide +kernel
theorem dX10_ruleLetter_64 : decode cX10_ruleLetter 64 = .ok (.bipush (-6), 2) := by decide +kernel
theorem dX10_ruleLetter_66 : decode cX10_ruleLetter 66 = .ok (.ireturn, 1) := by decide +kernel
theorem dX10_occurs_0 : decode cX10_occurs 0 = .ok (.iconst 0, 1) := by decide +kernel
theorem dX10_occurs_1 : decode cX10_occurs 1 = .ok (.istore 4, 2) := by decide +kernel
theorem dX10_occurs_3 : decode cX10_occurs 3 = .ok (.iconst 0, 1) := by decide +kernel
theorem dX10_occurs_4 : decode cX10_occurs 4 = .ok (.istore 5, 2) := by decide +kernel
theorem dX10_occurs_6 : decode cX10_occurs 6 = .ok (.iload 5, 2) := by decide +kernel
theorem dX10_occurs_8 : decode cX10_occurs 8 = .ok (.aload_n 0, 1) := by decide +kernel
theorem dX10_occurs_9 : decode cX10_occurs 9 = .ok (.getfield 15, 3) := by decide +kernel
theorem dX10_occurs_12 : decode cX10_occurs 12 = .ok (.iconst 2, 1) := by decide +kernel
theorem dX10_occurs_13 : decode cX10_occurs 13 = .ok (.iload_n 1, 1) := by decide +kernel
theorem dX10_occurs_14 : decode cX10_occurs 14 = .ok (.imul, 1) := by decide +kernel
theorem dX10_occurs_15 : decode cX10_occurs 15 = .ok (.iload_n 2, 1) := by decide +kernel
theorem dX10_occurs_16 : decode cX10_occurs 16 = .ok (.iadd, 1) := by decide +kernel
theorem dX10_occurs_17 : decode cX10_occurs 17 = .ok (.iaload, 1) := by decide +kernel
theorem dX10_occurs_18 : decode cX10_occurs 18 = .ok (.if_icmp .ge 40, 3) := by decide +kernel
theorem dX10_occurs_21 : decode cX10_occurs 21 = .ok (.iload 4, 2) := by decide +kernel
theorem dX10_occurs_23 : decode cX10_occurs 23 = .ok (.aload_n 0, 1) := by decide +kernel
theorem dX10_occurs_24 : decode cX10_occurs 24 = .ok (.getfield 19, 3) := by decide +kernel
theorem dX10_occurs_27 : decode cX10_occurs 27 = .ok (.bipush 12, 2) := by decide +kernel
theorem dX10_occurs_29 : decode cX10_occurs 29 = .ok (.iload_n 1, 1) := by decide +kernel
theorem dX10_occurs_30 : decode cX10_occurs 30 = .ok (.imul, 1) := by decide +kernel
theorem dX10_occurs_31 : decode cX10_occurs 31 = .ok (.bipush 6, 2) := by decide +kernel
theorem dX10_occurs_33 : decode cX10_occurs 33 = .ok (.iload_n 2, 1) := by decide +kernel
theorem dX10_occurs_34 : decode cX10_occurs 34 = .ok (.imul, 1) := by decide +kernel
theorem dX10_occurs_35 : decode cX10_occurs 35 = .ok (.iadd, 1) := by decide +kernel
theorem dX10_occurs_36 : decode cX10_occurs 36 = .ok (.iload 5, 2) := by decide +kernel
theorem dX10_occurs_38 : decode cX10_occurs 38 = .ok (.iadd, 1) := by decide +kernel
theorem dX10_occurs_39 : decode cX10_occurs 39 = .ok (.iaload, 1) := by decide +kernel
theorem dX10_occurs_40 : decode cX10_occurs 40 = .ok (.iload_n 3, 1) := by decide +kernel
theorem dX10_occurs_41 : decode cX10_occurs 41 = .ok (.if_icmp .ne 7, 3) := by decide +kernel
theorem dX10_occurs_44 : decode cX10_occurs 44 = .ok (.iconst 1, 1) := by decide +kernel
theorem dX10_occurs_45 : decode cX10_occurs 45 = .ok (.goto 4, 3) := by decide +kernel
theorem dX10_occurs_48 : decode cX10_occurs 48 = .ok (.iconst 0, 1) := by decide +kernel
theorem dX10_occurs_49 : decode cX10_occurs 49 = .ok (.iadd, 1) := by decide +kernel
theorem dX10_occurs_50 : decode cX10_occurs 50 = .ok (.istore 4, 2) := by decide +kernel
theorem dX10_occurs_52 : decode cX10_occurs 52 = .ok (.iinc 5 1, 3) := by decide +kernel
theorem dX10_occurs_55 : decode cX10_occurs 55 = .ok (.goto (-49), 3) := by decide +kernel
theorem dX10_occurs_58 : decode cX10_occurs 58 = .ok (.iload 4, 2) := by decide +kernel
theorem dX10_occurs_60 : decode cX10_occurs 60 = .ok (.ireturn, 1) := by decide +kernel
theorem dX10_balanceOf_0 : decode cX10_balanceOf 0 = .ok (.aload_n 0, 1) := by decide +kernel
theorem dX10_balanceOf_1 : decode cX10_balanceOf 1 = .ok (.iload_n 1, 1) := by decide +kernel
theorem dX10_balanceOf_2 : decode cX10_balanceOf 2 = .ok (.iconst 0, 1) := by decide +kernel
theorem dX10_balanceOf_3 : decode cX10_balanceOf 3 = .ok (.iload_n 2, 1) := by decide +kernel
theorem dX10_balanceOf_4 : decode cX10_balanceOf 4 = .ok (.invokevirtual 155, 3) := by decide +kernel
theorem dX10_balanceOf_7 : decode cX10_balanceOf 7 = .ok (.aload_n 0, 1) := by decide +kernel
theorem dX10_balanceOf_8 : decode cX10_balanceOf 8 = .ok (.iload_n 1, 1) := by decide +kernel
theorem dX10_balanceOf_9 : decode cX10_balanceOf 9 = .ok (.iconst 1, 1) := by decide +kernel
theorem dX10_balanceOf_10 : decode cX10_balanceOf 10 = .ok (.iload_n 2, 1) := by decide +kernel
theorem dX10_balanceOf_11 : decode cX10_balanceOf 11 = .ok (.invokevirtual 155, 3) := by decide +kernel
theorem dX10_balanceOf_14 : decode cX10_balanceOf 14 = .ok (.isub, 1) := by decide +kernel
theorem dX10_balanceOf_15 : decode cX10_balanceOf 15 = .ok (.ireturn, 1) := by decide +kernel
theorem dX10_balance_0 : decode cX10_balance 0 = .ok (.aload_n 0, 1) := by decide +kernel
theorem dX10_balance_1 : decode cX10_balance 1 = .ok (.iload_n 1, 1) := by decide +kernel
theorem dX10_balance_2 : decode cX10_balance 2 = .ok (.invokevirtual 152, 3) := by decide +kernel
theorem dX10_balance_5 : decode cX10_balance 5 = .ok (.ifCond .ne 6, 3) := by decide +kernel
theorem dX10_balance_8 : decode cX10_balance 8 = .ok (.bipush (-3), 2) := by decide +kernel
theorem dX10_balance_10 : decode cX10_balance 10 = .ok (.ireturn, 1) := by decide +kernel
theorem dX10_balance_11 : decode cX10_balance 11 = .ok (.aload_n 0, 1) := by decide +kernel
theorem dX10_balance_12 : decode cX10_balance 12 = .ok (.iload_n 2, 1) := by decide +kernel
theorem dX10_balance_13 : decode cX10_balance 13 = .ok (.invokevirtual 140, 3) := by decide +kernel
theorem dX10_balance_16 : decode cX10_balance 16 = .ok (.ifCond .eq 15, 3) := by decide +kernel
theorem dX10_balance_19 : decode cX10_balance 19 = .ok (.aload_n 0, 1) := by decide +kernel
theorem dX10_balance_20 : decode cX10_balance 20 = .ok (.iload_n 1, 1) := by decide +kernel
theorem dX10_balance_21 : decode cX10_balance 21 = .ok (.iload_n 2, 1) := by decide +kernel
theorem dX10_balance_22 : decode cX10_balance 22 = .ok (.invokevirtual 159, 3) := by decide +kernel
theorem dX10_balance_25 : decode cX10_balance 25 = .ok (.bipush 100, 2) := by decide +kernel
theorem dX10_balance_27 : decode cX10_balance 27 = .ok (.iadd, 1) := by decide +kernel
theorem dX10_balance_28 : decode cX10_balance 28 = .ok (.goto 5, 3) := by decide +kernel
theorem dX10_balance_31 : decode cX10_balance 31 = .ok (.bipush (-2), 2) := by decide +kernel
theorem dX10_balance_33 : decode cX10_balance 33 = .ok (.ireturn, 1) := by decide +kernel
theorem dX10_setWeight_0 : decode cX10_setWeight 0 = .ok (.aload_n 0, 1) := by decide +kernel
theorem dX10_setWeight_1 : decode cX10_setWeight 1 = .ok (.iload_n 1, 1) := by decide +kernel
theorem dX10_setWeight_2 : decode cX10_setWeight 2 = .ok (.invokevirtual 140, 3) := by decide +kernel
theorem dX10_setWeight_5 : decode cX10_setWeight 5 = .ok (.ifCond .ne 6, 3) := by decide +kernel
theorem dX10_setWeight_8 : decode cX10_setWeight 8 = .ok (.bipush (-2), 2) := by decide +kernel
theorem dX10_setWeight_10 : decode cX10_setWeight 10 = .ok (.ireturn, 1) := by decide +kernel
theorem dX10_setWeight_11 : decode cX10_setWeight 11 = .ok (.iload_n 2, 1) := by decide +kernel
theorem dX10_setWeight_12 : decode cX10_setWeight 12 = .ok (.i2l, 1) := by decide +kernel
theorem dX10_setWeight_13 : decode cX10_setWeight 13 = .ok (.lconst 0, 1) := by decide +kernel
theorem dX10_setWeight_14 : decode cX10_setWeight 14 = .ok (.ldc2_w 163, 3) := by decide +kernel
theorem dX10_setWeight_17 : decode cX10_setWeight 17 = .ok (.invokestatic 115, 3) := by decide +kernel
theorem dX10_setWeight_20 : decode cX10_setWeight 20 = .ok (.ifCond .ne 5, 3) := by decide +kernel
theorem dX10_setWeight_23 : decode cX10_setWeight 23 = .ok (.iconst (-1), 1) := by decide +kernel
theorem dX10_setWeight_24 : decode cX10_setWeight 24 = .ok (.ireturn, 1) := by decide +kernel
theorem dX10_setWeight_25 : decode cX10_setWeight 25 = .ok (.aload_n 0, 1) := by decide +kernel
theorem dX10_setWeight_26 : decode cX10_setWeight 26 = .ok (.getfield 22, 3) := by decide +kernel
theorem dX10_setWeight_29 : decode cX10_setWeight 29 = .ok (.iload_n 1, 1) := by decide +kernel
theorem dX10_setWeight_30 : decode cX10_setWeight 30 = .ok (.iaload, 1) := by decide +kernel
theorem dX10_setWeight_31 : decode cX10_setWeight 31 = .ok (.istore_n 3, 1) := by decide +kernel
theorem dX10_setWeight_32 : decode cX10_setWeight 32 = .ok (.aload_n 0, 1) := by decide +kernel
theorem dX10_setWeight_33 : decode cX10_setWeight 33 = .ok (.getfield 22, 3) := by decide +kernel
theorem dX10_setWeight_36 : decode cX10_setWeight 36 = .ok (.iload_n 1, 1) := by decide +kernel
theorem dX10_setWeight_37 : decode cX10_setWeight 37 = .ok (.iload_n 2, 1) := by decide +kernel
theorem dX10_setWeight_38 : decode cX10_setWeight 38 = .ok (.iastore, 1) := by decide +kernel
theorem dX10_setWeight_39 : decode cX10_setWeight 39 = .ok (.iload_n 3, 1) := by decide +kernel
theorem dX10_setWeight_40 : decode cX10_setWeight 40 = .ok (.ireturn, 1) := by decide +kernel
theorem dX10_weight_0 : decode cX10_weight 0 = .ok (.aload_n 0, 1) := by decide +kernel
theorem dX10_weight_1 : decode cX10_weight 1 = .ok (.iload_n 1, 1) := by decide +kernel
theorem dX10_weight_2 : decode cX10_weight 2 = .ok (.invokevirtual 140, 3) := by decide +kernel
theorem dX10_weight_5 : decode cX10_weight 5 = .ok (.ifCond .eq 12, 3) := by decide +kernel
theorem dX10_weight_8 : decode cX10_weight 8 = .ok (.aload_n 0, 1) := by decide +kernel
theorem dX10_weight_9 : decode cX10_weight 9 = .ok (.getfield 22, 3) := by decide +kernel
theorem dX10_weight_12 : decode cX10_weight 12 = .ok (.iload_n 1, 1) := by decide +kernel
theorem dX10_weight_13 : decode cX10_weight 13 = .ok (.iaload, 1) := by decide +kernel
theorem dX10_weight_14 : decode cX10_weight 14 = .ok (.goto 5, 3) := by decide +kernel
theorem dX10_weight_17 : decode cX10_weight 17 = .ok (.bipush (-2), 2) := by decide +kernel
theorem dX10_weight_19 : decode cX10_weight 19 = .ok (.ireturn, 1) := by decide +kernel
theorem dX10_setLevel_0 : decode cX10_setLevel 0 = .ok (.aload_n 0, 1) := by decide +kernel
theorem dX10_setLevel_1 : decode cX10_setLevel 1 = .ok (.iload_n 1, 1) := by decide +kernel
theorem dX10_setLevel_2 : decode cX10_setLevel 2 = .ok (.invokevirtual 140, 3) := by decide +kernel
theorem dX10_setLevel_5 : decode cX10_setLevel 5 = .ok (.ifCond .ne 6, 3) := by decide +kernel
theorem dX10_setLevel_8 : decode cX10_setLevel 8 = .ok (.bipush (-2), 2) := by decide +kernel
theorem dX10_setLevel_10 : decode cX10_setLevel 10 = .ok (.ireturn, 1) := by decide +kernel
theorem dX10_setLevel_11 : decode cX10_setLevel 11 = .ok (.iload_n 2, 1) := by decide +kernel
theorem dX10_setLevel_12 : decode cX10_setLevel 12 = .ok (.i2l, 1) := by decide +kernel
theorem dX10_setLevel_13 : decode cX10_setLevel 13 = .ok (.lconst 0, 1) := by decide +kernel
theorem dX10_setLevel_14 : decode cX10_setLevel 14 = .ok (.ldc2_w 165, 3) := by decide +kernel
theorem dX10_setLevel_17 : decode cX10_setLevel 17 = .ok (.invokestatic 115, 3) := by decide +kernel
theorem dX10_setLevel_20 : decode cX10_setLevel 20 = .ok (.ifCond .ne 5, 3) := by decide +kernel
theorem dX10_setLevel_23 : decode cX10_setLevel 23 = .ok (.iconst (-1), 1) := by decide +kernel
theorem dX10_setLevel_24 : decode cX10_setLevel 24 = .ok (.ireturn, 1) := by decide +kernel
theorem dX10_setLevel_25 : decode cX10_setLevel 25 = .ok (.aload_n 0, 1) := by decide +kernel
theorem dX10_setLevel_26 : decode cX10_setLevel 26 = .ok (.getfield 25, 3) := by decide +kernel
theorem dX10_setLevel_29 : decode cX10_setLevel 29 = .ok (.iload_n 1, 1) := by decide +kernel
theorem dX10_setLevel_30 : decode cX10_setLevel 30 = .ok (.iaload, 1) := by decide +kernel
theorem dX10_setLevel_31 : decode cX10_setLevel 31 = .ok (.istore_n 3, 1) := by decide +kernel
theorem dX10_setLevel_32 : decode cX10_setLevel 32 = .ok (.aload_n 0, 1) := by decide +kernel
theorem dX10_setLevel_33 : decode cX10_setLevel 33 = .ok (.getfield 25, 3) := by decide +kernel
theorem dX10_setLevel_36 : decode cX10_setLevel 36 = .ok (.iload_n 1, 1) := by decide +kernel
theorem dX10_setLevel_37 : decode cX10_setLevel 37 = .ok (.iload_n 2, 1) := by decide +kernel
theorem dX10_setLevel_38 : decode cX10_setLevel 38 = .ok (.iastore, 1) := by decide +kernel
theorem dX10_setLevel_39 : decode cX10_setLevel 39 = .ok (.iload_n 3, 1) := by decide +kernel
theorem dX10_setLevel_40 : decode cX10_setLevel 40 = .ok (.ireturn, 1) := by decide +kernel
theorem dX10_level_0 : decode cX10_level 0 = .ok (.aload_n 0, 1) := by decide +kernel
theorem dX10_level_1 : decode cX10_level 1 = .ok (.iload_n 1, 1) := by decide +kernel
theorem dX10_level_2 : decode cX10_level 2 = .ok (.invokevirtual 140, 3) := by decide +kernel
theorem dX10_level_5 : decode cX10_level 5 = .ok (.ifCond .eq 12, 3) := by decide +kernel
theorem dX10_level_8 : decode cX10_level 8 = .ok (.aload_n 0, 1) := by decide +kernel
theorem dX10_level_9 : decode cX10_level 9 = .ok (.getfield 25, 3) := by decide +kernel
theorem dX10_level_12 : decode cX10_level 12 = .ok (.iload_n 1, 1) := by decide +kernel
theorem dX10_level_13 : decode cX10_level 13 = .ok (.iaload, 1) := by decide +kernel
theorem dX10_level_14 : decode cX10_level 14 = .ok (.goto 5, 3) := by decide +kernel
theorem dX10_level_17 : decode cX10_level 17 = .ok (.bipush (-2), 2) := by decide +kernel
theorem dX10_level_19 : decode cX10_level 19 = .ok (.ireturn, 1) := by decide +kernel
theorem dX10_setStatus_0 : decode cX10_setStatus 0 = .ok (.iload_n 1, 1) := by decide +kernel
theorem dX10_setStatus_1 : decode cX10_setStatus 1 = .ok (.i2l, 1) := by decide +kernel
theorem dX10_setStatus_2 : decode cX10_setStatus 2 = .ok (.lconst 0, 1) := by decide +kernel
theorem dX10_setStatus_3 : decode cX10_setStatus 3 = .ok (.lconst 1, 1) := by decide +kernel
theorem dX10_setStatus_4 : decode cX10_setStatus 4 = .ok (.invokestatic 115, 3) := by decide +kernel
theorem dX10_setStatus_7 : decode cX10_setStatus 7 = .ok (.ifCond .ne 5, 3) := by decide +kernel
theorem dX10_setStatus_10 : decode cX10_setStatus 10 = .ok (.iconst (-1), 1) := by decide +kernel
theorem dX10_setStatus_11 : decode cX10_setStatus 11 = .ok (.ireturn, 1) := by decide +kernel
theorem dX10_setStatus_12 : decode cX10_setStatus 12 = .ok (.aload_n 0, 1) := by decide +kernel
theorem dX10_setStatus_13 : decode cX10_setStatus 13 = .ok (.getfield 130, 3) := by decide +kernel
theorem dX10_setStatus_16 : decode cX10_setStatus 16 = .ok (.istore_n 2, 1) := by decide +kernel
theorem dX10_setStatus_17 : decode cX10_setStatus 17 = .ok (.aload_n 0, 1) := by decide +kernel
theorem dX10_setStatus_18 : decode cX10_setStatus 18 = .ok (.iload_n 1, 1) := by decide +kernel
theorem dX10_setStatus_19 : decode cX10_setStatus 19 = .ok (.putfield 130, 3) := by decide +kernel
theorem dX10_setStatus_22 : decode cX10_setStatus 22 = .ok (.iload_n 2, 1) := by decide +kernel
theorem dX10_setStatus_23 : decode cX10_setStatus 23 = .ok (.ireturn, 1) := by decide +kernel
theorem dX10_isGood_0 : decode cX10_isGood 0 = .ok (.iconst 0, 1) := by decide +kernel
theorem dX10_isGood_1 : decode cX10_isGood 1 = .ok (.istore_n 1, 1) := by decide +kernel
theorem dX10_isGood_2 : decode cX10_isGood 2 = .ok (.iconst 0, 1) := by decide +kernel
theorem dX10_isGood_3 : decode cX10_isGood 3 = .ok (.istore_n 2, 1) := by decide +kernel
theorem dX10_isGood_4 : decode cX10_isGood 4 = .ok (.iconst 0, 1) := by decide +kernel
theorem dX10_isGood_5 : decode cX10_isGood 5 = .ok (.istore_n 3, 1) := by decide +kernel
theorem dX10_isGood_6 : decode cX10_isGood 6 = .ok (.iload_n 3, 1) := by decide +kernel
theorem dX10_isGood_7 : decode cX10_isGood 7 = .ok (.aload_n 0, 1) := by decide +kernel
theorem dX10_isGood_8 : decode cX10_isGood 8 = .ok (.getfield 9, 3) := by decide +kernel
theorem dX10_isGood_11 : decode cX10_isGood 11 = .ok (.if_icmp .ge 23, 3) := by decide +kernel
theorem dX10_isGood_14 : decode cX10_isGood 14 = .ok (.aload_n 0, 1) := by decide +kernel
theorem dX10_isGood_15 : decode cX10_isGood 15 = .ok (.getfield 22, 3) := by decide +kernel
theorem dX10_isGood_18 : decode cX10_isGood 18 = .ok (.iload_n 3, 1) := by decide +kernel
theorem dX10_isGood_19 : decode cX10_isGood 19 = .ok (.iaload, 1) := by decide +kernel
theorem dX10_isGood_20 : decode cX10_isGood 20 = .ok (.ifCond .ne 8, 3) := by decide +kernel
theorem dX10_isGood_23 : decode cX10_isGood 23 = .ok (.iinc 1 1, 3) := by decide +kernel
theorem dX10_isGood_26 : decode cX10_isGood 26 = .ok (.iload_n 3, 1) := by decide +kernel
theorem dX10_isGood_27 : decode cX10_isGood 27 = .ok (.istore_n 2, 1) := by decide +kernel
theorem dX10_isGood_28 : decode cX10_isGood 28 = .ok (.iinc 3 1, 3) := by decide +kernel
theorem dX10_isGood_31 : decode cX10_isGood 31 = .ok (.goto (-25), 3) := by decide +kernel
theorem dX10_isGood_34 : decode cX10_isGood 34 = .ok (.iload_n 1, 1) := by decide +kernel
theorem dX10_isGood_35 : decode cX10_isGood 35 = .ok (.iconst 1, 1) := by decide +kernel
theorem dX10_isGood_36 : decode cX10_isGood 36 = .ok (.if_icmp .gt 7, 3) := by decide +kernel
theorem dX10_isGood_39 : decode cX10_isGood 39 = .ok (.iconst 1, 1) := by decide +kernel
theorem dX10_isGood_40 : decode cX10_isGood 40 = .ok (.goto 4, 3) := by decide +kernel
theorem dX10_isGood_43 : decode cX10_isGood 43 = .ok (.iconst 0, 1) := by decide +kernel
theorem dX10_isGood_44 : decode cX10_isGood 44 = .ok (.istore_n 3, 1) := by decide +kernel
theorem dX10_isGood_45 : decode cX10_isGood 45 = .ok (.iconst 0, 1) := by decide +kernel
theorem dX10_isGood_46 : decode cX10_isGood 46 = .ok (.istore 4, 2) := by decide +kernel
theorem dX10_isGood_48 : decode cX10_isGood 48 = .ok (.iload 4, 2) := by decide +kernel
theorem dX10_isGood_50 : decode cX10_isGood 50 = .ok (.aload_n 0, 1) := by decide +kernel
theorem dX10_isGood_51 : decode cX10_isGood 51 = .ok (.getfield 9, 3) := by decide +kernel
theorem dX10_isGood_54 : decode cX10_isGood 54 = .ok (.if_icmp .ge 46, 3) := by decide +kernel
theorem dX10_isGood_57 : decode cX10_isGood 57 = .ok (.iload_n 1, 1) := by decide +kernel
theorem dX10_isGood_58 : decode cX10_isGood 58 = .ok (.iconst 1, 1) := by decide +kernel
theorem dX10_isGood_59 : decode cX10_isGood 59 = .ok (.if_icmp .ne 41, 3) := by decide +kernel
theorem dX10_isGood_62 : decode cX10_isGood 62 = .ok (.iload_n 3, 1) := by decide +kernel
theorem dX10_isGood_63 : decode cX10_isGood 63 = .ok (.ifCond .eq 29, 3) := by decide +kernel
theorem dX10_isGood_66 : decode cX10_isGood 66 = .ok (.iload 4, 2) := by decide +kernel
theorem dX10_isGood_68 : decode cX10_isGood 68 = .ok (.iload_n 2, 1) := by decide +kernel
theorem dX10_isGood_69 : decode cX10_isGood 69 = .ok (.if_icmp .eq 19, 3) := by decide +kernel
theorem dX10_isGood_72 : decode cX10_isGood 72 = .ok (.aload_n 0, 1) := by decide +kernel
theorem dX10_isGood_73 : decode cX10_isGood 73 = .ok (.getfield 25, 3) := by decide +kernel
theorem dX10_isGood_76 : decode cX10_isGood 76 = .ok (.iload_n 2, 1) := by decide +kernel
theorem dX10_isGood_77 : decode cX10_isGood 77 = .ok (.iaload, 1) := by decide +kernel
theorem dX10_isGood_78 : decode cX10_isGood 78 = .ok (.aload_n 0, 1) := by decide +kernel
theorem dX10_isGood_79 : decode cX10_isGood 79 = .ok (.getfield 25, 3) := by decide +kernel
theorem dX10_isGood_82 : decode cX10_isGood 82 = .ok (.iload 4, 2) := by decide +kernel
theorem dX10_isGood_84 : decode cX10_isGood 84 = .ok (.iaload, 1) := by decide +kernel
theorem dX10_isGood_85 : decode cX10_isGood 85 = .ok (.if_icmp .le 7, 3) := by decide +kernel
theorem dX10_isGood_88 : decode cX10_isGood 88 = .ok (.iconst 1, 1) := by decide +kernel
theorem dX10_isGood_89 : decode cX10_isGood 89 = .ok (.goto 4, 3) := by decide +kernel
theorem dX10_isGood_92 : decode cX10_isGood 92 = .ok (.iconst 0, 1) := by decide +kernel
theorem dX10_isGood_93 : decode cX10_isGood 93 = .ok (.istore_n 3, 1) := by decide +kernel
theorem dX10_isGood_94 : decode cX10_isGood 94 = .ok (.iinc 4 1, 3) := by decide +kernel
theorem dX10_isGood_97 : decode cX10_isGood 97 = .ok (.goto (-49), 3) := by decide +kernel
theorem dX10_isGood_100 : decode cX10_isGood 100 = .ok (.iload_n 3, 1) := by decide +kernel
theorem dX10_isGood_101 : decode cX10_isGood 101 = .ok (.ireturn, 1) := by decide +kernel
theorem dX10_isAdmissible_0 : decode cX10_isAdmissible 0 = .ok (.aload_n 0, 1) := by decide +kernel
theorem dX10_isAdmissible_1 : decode cX10_isAdmissible 1 = .ok (.invokevirtual 167, 3) := by decide +kernel
theorem dX10_isAdmissible_4 : decode cX10_isAdmissible 4 = .ok (.ifCond .eq 7, 3) := by decide +kernel
theorem dX10_isAdmissible_7 : decode cX10_isAdmissible 7 = .ok (.iconst 1, 1) := by decide +kernel
theorem dX10_isAdmissible_8 : decode cX10_isAdmissible 8 = .ok (.goto 4, 3) := by decide +kernel
theorem dX10_isAdmissible_11 : decode cX10_isAdmissible 11 = .ok (.iconst 0, 1) := by decide +kernel
theorem dX10_isAdmissible_12 : decode cX10_isAdmissible 12 = .ok (.ireturn, 1) := by decide +kernel
theorem dX10_compared_0 : decode cX10_compared 0 = .ok (.iconst 0, 1) := by decide +kernel
theorem dX10_compared_1 : decode cX10_compared 1 = .ok (.istore_n 3, 1) := by decide +kernel
theorem dX10_compared_2 : decode cX10_compared 2 = .ok (.iconst 0, 1) := by decide +kernel
theorem dX10_compared_3 : decode cX10_compared 3 = .ok (.istore 4, 2) := by decide +kernel
theorem dX10_compared_5 : decode cX10_compared 5 = .ok (.iload 4, 2) := by decide +kernel
theorem dX10_compared_7 : decode cX10_compared 7 = .ok (.iload_n 1, 1) := by decide +kernel
theorem dX10_compared_8 : decode cX10_compared 8 = .ok (.if_icmp .ge 24, 3) := by decide +kernel
theorem dX10_compared_11 : decode cX10_compared 11 = .ok (.iload_n 3, 1) := by decide +kernel
theorem dX10_compared_12 : decode cX10_compared 12 = .ok (.aload_n 0, 1) := by decide +kernel
theorem dX10_compared_13 : decode cX10_compared 13 = .ok (.getfield 22, 3) := by decide +kernel
theorem dX10_compared_16 : decode cX10_compared 16 = .ok (.aload_n 0, 1) := by decide +kernel
theorem dX10_compared_17 : decode cX10_compared 17 = .ok (.getfield 79, 3) := by decide +kernel
theorem dX10_compared_20 : decode cX10_compared 20 = .ok (.iload 4, 2) := by decide +kernel
theorem dX10_compared_22 : decode cX10_compared 22 = .ok (.iaload, 1) := by decide +kernel
theorem dX10_compared_23 : decode cX10_compared 23 = .ok (.iaload, 1) := by decide +kernel
theorem dX10_compared_24 : decode cX10_compared 24 = .ok (.iadd, 1) := by decide +kernel
theorem dX10_compared_25 : decode cX10_compared 25 = .ok (.istore_n 3, 1) := by decide +kernel
theorem dX10_compared_26 : decode cX10_compared 26 = .ok (.iinc 4 1, 3) := by decide +kernel
theorem dX10_compared_29 : decode cX10_compared 29 = .ok (.goto (-24), 3) := by decide +kernel
theorem dX10_compared_32 : decode cX10_compared 32 = .ok (.iconst 0, 1) := by decide +kernel
theorem dX10_compared_33 : decode cX10_compared 33 = .ok (.istore 4, 2) := by decide +kernel
theorem dX10_compared_35 : decode cX10_compared 35 = .ok (.iload 4, 2) := by decide +kernel
theorem dX10_compared_37 : decode cX10_compared 37 = .ok (.iload_n 2, 1) := by decide +kernel
theorem dX10_compared_38 : decode cX10_compared 38 = .ok (.if_icmp .ge 24, 3) := by decide +kernel
theorem dX10_compared_41 : decode cX10_compared 41 = .ok (.iload_n 3, 1) := by decide +kernel
theorem dX10_compared_42 : decode cX10_compared 42 = .ok (.aload_n 0, 1) := by decide +kernel
theorem dX10_compared_43 : decode cX10_compared 43 = .ok (.getfield 22, 3) := by decide +kernel
theorem dX10_compared_46 : decode cX10_compared 46 = .ok (.aload_n 0, 1) := by decide +kernel
theorem dX10_compared_47 : decode cX10_compared 47 = .ok (.getfield 82, 3) := by decide +kernel
theorem dX10_compared_50 : decode cX10_compared 50 = .ok (.iload 4, 2) := by decide +kernel
theorem dX10_compared_52 : decode cX10_compared 52 = .ok (.iaload, 1) := by decide +kernel
theorem dX10_compared_53 : decode cX10_compared 53 = .ok (.iaload, 1) := by decide +kernel
theorem dX10_compared_54 : decode cX10_compared 54 = .ok (.isub, 1) := by decide +kernel
theorem dX10_compared_55 : decode cX10_compared 55 = .ok (.istore_n 3, 1) := by decide +kernel
theorem dX10_compared_56 : decode cX10_compared 56 = .ok (.iinc 4 1, 3) := by decide +kernel
theorem dX10_compared_59 : decode cX10_compared 59 = .ok (.goto (-24), 3) := by decide +kernel
theorem dX10_compared_62 : decode cX10_compared 62 = .ok (.iload_n 3, 1) := by decide +kernel
theorem dX10_compared_63 : decode cX10_compared 63 = .ok (.ifCond .eq 13, 3) := by decide +kernel
theorem dX10_compared_66 : decode cX10_compared 66 = .ok (.iload_n 3, 1) := by decide +kernel
theorem dX10_compared_67 : decode cX10_compared 67 = .ok (.ifCond .le 7, 3) := by decide +kernel
theorem dX10_compared_70 : decode cX10_compared 70 = .ok (.iconst 2, 1) := by decide +kernel
theorem dX10_compared_71 : decode cX10_compared 71 = .ok (.goto 4, 3) := by decide +kernel
theorem dX10_compared_74 : decode cX10_compared 74 = .ok (.iconst 0, 1) := by decide +kernel
theorem dX10_compared_75 : decode cX10_compared 75 = .ok (.ireturn, 1) := by decide +kernel
theorem dX10_compared_76 : decode cX10_compared 76 = .ok (.iconst 0, 1) := by decide +kernel
theorem dX10_compared_77 : decode cX10_compared 77 = .ok (.istore 4, 2) := by decide +kernel
theorem dX10_compared_79 : decode cX10_compared 79 = .ok (.iload 4, 2) := by decide +kernel
theorem dX10_compared_81 : decode cX10_compared 81 = .ok (.iload_n 1, 1) := by decide +kernel
theorem dX10_compared_82 : decode cX10_compared 82 = .ok (.if_icmp .ge 105, 3) := by decide +kernel
theorem dX10_compared_85 : decode cX10_compared 85 = .ok (.iload 4, 2) := by decide +kernel
theorem dX10_compared_87 : decode cX10_compared 87 = .ok (.iload_n 2, 1) := by decide +kernel
theorem dX10_compared_88 : decode cX10_compared 88 = .ok (.if_icmp .ge 99, 3) := by decide +kernel
theorem dX10_compared_91 : decode cX10_compared 91 = .ok (.aload_n 0, 1) := by decide +kernel
theorem dX10_compared_92 : decode cX10_compared 92 = .ok (.getfield 25, 3) := by decide +kernel
theorem dX10_compared_95 : decode cX10_compared 95 = .ok (.aload_n 0, 1) := by decide +kernel
theorem dX10_compared_96 : decode cX10_compared 96 = .ok (.getfield 130, 3) := by decide +kernel
theorem dX10_compared_99 : decode cX10_compared 99 = .ok (.ifCond .ne 13, 3) := by decide +kernel
theorem dX10_compared_102 : decode cX10_compared 102 = .ok (.aload_n 0, 1) := by decide +kernel
theorem dX10_compared_103 : decode cX10_compared 103 = .ok (.getfield 79, 3) := by decide +kernel
theorem dX10_compared_106 : decode cX10_compared 106 = .ok (.iload 4, 2) := by decide +kernel
theorem dX10_compared_108 : decode cX10_compared 108 = .ok (.iaload, 1) := by decide +kernel
theorem dX10_compared_109 : decode cX10_compared 109 = .ok (.goto 14, 3) := by decide +kernel
theorem dX10_compared_112 : decode cX10_compared 112 = .ok (.aload_n 0, 1) := by decide +kernel
theorem dX10_compared_113 : decode cX10_compared 113 = .ok (.getfield 79, 3) := by decide +kernel
theorem dX10_compared_116 : decode cX10_compared 116 = .ok (.iload_n 1, 1) := by decide +kernel
theorem dX10_compared_117 : decode cX10_compared 117 = .ok (.iconst 1, 1) := by decide +kernel
theorem dX10_compared_118 : decode cX10_compared 118 = .ok (.isub, 1) := by decide +kernel
theorem dX10_compared_119 : decode cX10_compared 119 = .ok (.iload 4, 2) := by decide +kernel
theorem dX10_compared_121 : decode cX10_compared 121 = .ok (.isub, 1) := by decide +kernel
theorem dX10_compared_122 : decode cX10_compared 122 = .ok (.iaload, 1) := by decide +kernel
theorem dX10_compared_123 : decode cX10_compared 123 = .ok (.iaload, 1) := by decide +kernel
theorem dX10_compared_124 : decode cX10_compared 124 = .ok (.istore 5, 2) := by decide +kernel
theorem dX10_compared_126 : decode cX10_compared 126 = .ok (.aload_n 0, 1) := by decide +kernel
theorem dX10_compared_127 : decode cX10_compared 127 = .ok (.getfield 25, 3) := by decide +kernel
theorem dX10_compared_130 : decode cX10_compared 130 = .ok (.aload_n 0, 1) := by decide +kernel
theorem dX10_compared_131 : decode cX10_compared 131 = .ok (.getfield 130, 3) := by decide +kernel
theorem dX10_compared_134 : decode cX10_compared 134 = .ok (.ifCond .ne 13, 3) := by decide +kernel
theorem dX10_compared_137 : decode cX10_compared 137 = .ok (.aload_n 0, 1) := by decide +kernel
theorem dX10_compared_138 : decode cX10_compared 138 = .ok (.getfield 82, 3) := by decide +kernel
theorem dX10_compared_141 : decode cX10_compared 141 = .ok (.iload 4, 2) := by decide +kernel
theorem dX10_compared_143 : decode cX10_compared 143 = .ok (.iaload, 1) := by decide +kernel
theorem dX10_compared_144 : decode cX10_compared 144 = .ok (.goto 14, 3) := by decide +kernel
theorem dX10_compared_147 : decode cX10_compared 147 = .ok (.aload_n 0, 1) := by decide +kernel
theorem dX10_compared_148 : decode cX10_compared 148 = .ok (.getfield 82, 3) := by decide +kernel
theorem dX10_compared_151 : decode cX10_compared 151 = .ok (.iload_n 2, 1) := by decide +kernel
theorem dX10_compared_152 : decode cX10_compared 152 = .ok (.iconst 1, 1) := by decide +kernel
theorem dX10_compared_153 : decode cX10_compared 153 = .ok (.isub, 1) := by decide +kernel
theorem dX10_compared_154 : decode cX10_compared 154 = .ok (.iload 4, 2) := by decide +kernel
theorem dX10_compared_156 : decode cX10_compared 156 = .ok (.isub, 1) := by decide +kernel
theorem dX10_compared_157 : decode cX10_compared 157 = .ok (.iaload, 1) := by decide +kernel
theorem dX10_compared_158 : decode cX10_compared 158 = .ok (.iaload, 1) := by decide +kernel
theorem dX10_compared_159 : decode cX10_compared 159 = .ok (.istore 6, 2) := by decide +kernel
theorem dX10_compared_161 : decode cX10_compared 161 = .ok (.iload 5, 2) := by decide +kernel
theorem dX10_compared_163 : decode cX10_compared 163 = .ok (.iload 6, 2) := by decide +kernel
theorem dX10_compared_165 : decode cX10_compared 165 = .ok (.if_icmp .eq 16, 3) := by decide +kernel
theorem dX10_compared_168 : decode cX10_compared 168 = .ok (.iload 5, 2) := by decide +kernel
theorem dX10_compared_170 : decode cX10_compared 170 = .ok (.iload 6, 2) := by decide +kernel
theorem dX10_compared_172 : decode cX10_compared 172 = .ok (.if_icmp .le 7, 3) := by decide +kernel
theorem dX10_compared_175 : decode cX10_compared 175 = .ok (.iconst 2, 1) := by decide +kernel
theorem dX10_compared_176 : decode cX10_compared 176 = .ok (.goto 4, 3) := by decide +kernel
theorem dX10_compared_179 : decode cX10_compared 179 = .ok (.iconst 0, 1) := by decide +kernel
theorem dX10_compared_180 : decode cX10_compared 180 = .ok (.ireturn, 1) := by decide +kernel
theorem dX10_compared_181 : decode cX10_compared 181 = .ok (.iinc 4 1, 3) := by decide +kernel
theorem dX10_compared_184 : decode cX10_compared 184 = .ok (.goto (-105), 3) := by decide +kernel
theorem dX10_compared_187 : decode cX10_compared 187 = .ok (.iload_n 1, 1) := by decide +kernel
theorem dX10_compared_188 : decode cX10_compared 188 = .ok (.iload_n 2, 1) := by decide +kernel
theorem dX10_compared_189 : decode cX10_compared 189 = .ok (.if_icmp .le 7, 3) := by decide +kernel
theorem dX10_compared_192 : decode cX10_compared 192 = .ok (.iconst 2, 1) := by decide +kernel
theorem dX10_compared_193 : decode cX10_compared 193 = .ok (.goto 13, 3) := by decide +kernel
theorem dX10_compared_196 : decode cX10_compared 196 = .ok (.iload_n 1, 1) := by decide +kernel
theorem dX10_compared_197 : decode cX10_compared 197 = .ok (.iload_n 2, 1) := by decide +kernel
theorem dX10_compared_198 : decode cX10_compared 198 = .ok (.if_icmp .ne 7, 3) := by decide +kernel
theorem dX10_compared_201 : decode cX10_compared 201 = .ok (.iconst 1, 1) := by decide +kernel
theorem dX10_compared_202 : decode cX10_compared 202 = .ok (.goto 4, 3) := by decide +kernel
theorem dX10_compared_205 : decode cX10_compared 205 = .ok (.iconst 0, 1) := by decide +kernel
theorem dX10_compared_206 : decode cX10_compared 206 = .ok (.ireturn, 1) := by decide +kernel
theorem dX10_sidesOf_0 : decode cX10_sidesOf 0 = .ok (.iconst 0, 1) := by decide +kernel
theorem dX10_sidesOf_1 : decode cX10_sidesOf 1 = .ok (.istore_n 2, 1) := by decide +kernel
theorem dX10_sidesOf_2 : decode cX10_sidesOf 2 = .ok (.iload_n 2, 1) := by decide +kernel
theorem dX10_sidesOf_3 : decode cX10_sidesOf 3 = .ok (.bipush 6, 2) := by decide +kernel
theorem dX10_sidesOf_5 : decode cX10_sidesOf 5 = .ok (.if_icmp .ge 46, 3) := by decide +kernel
theorem dX10_sidesOf_8 : decode cX10_sidesOf 8 = .ok (.aload_n 0, 1) := by decide +kernel
theorem dX10_sidesOf_9 : decode cX10_sidesOf 9 = .ok (.getfield 79, 3) := by decide +kernel
theorem dX10_sidesOf_12 : decode cX10_sidesOf 12 = .ok (.iload_n 2, 1) := by decide +kernel
theorem dX10_sidesOf_13 : decode cX10_sidesOf 13 = .ok (.aload_n 0, 1) := by decide +kernel
theorem dX10_sidesOf_14 : decode cX10_sidesOf 14 = .ok (.getfield 19, 3) := by decide +kernel
theorem dX10_sidesOf_17 : decode cX10_sidesOf 17 = .ok (.bipush 12, 2) := by decide +kernel
theorem dX10_sidesOf_19 : decode cX10_sidesOf 19 = .ok (.iload_n 1, 1) := by decide +kernel
theorem dX10_sidesOf_20 : decode cX10_sidesOf 20 = .ok (.imul, 1) := by decide +kernel
theorem dX10_sidesOf_21 : decode cX10_sidesOf 21 = .ok (.iload_n 2, 1) := by decide +kernel
theorem dX10_sidesOf_22 : decode cX10_sidesOf 22 = .ok (.iadd, 1) := by decide +kernel
theorem dX10_sidesOf_23 : decode cX10_sidesOf 23 = .ok (.iaload, 1) := by decide +kernel
theorem dX10_sidesOf_24 : decode cX10_sidesOf 24 = .ok (.iastore, 1) := by decide +kernel
theorem dX10_sidesOf_25 : decode cX10_sidesOf 25 = .ok (.aload_n 0, 1) := by decide +kernel
theorem dX10_sidesOf_26 : decode cX10_sidesOf 26 = .ok (.getfield 82, 3) := by decide +kernel
theorem dX10_sidesOf_29 : decode cX10_sidesOf 29 = .ok (.iload_n 2, 1) := by decide +kernel
theorem dX10_sidesOf_30 : decode cX10_sidesOf 30 = .ok (.aload_n 0, 1) := by decide +kernel
theorem dX10_sidesOf_31 : decode cX10_sidesOf 31 = .ok (.getfield 19, 3) := by decide +kernel
theorem dX10_sidesOf_34 : decode cX10_sidesOf 34 = .ok (.bipush 12, 2) := by decide +kernel
theorem dX10_sidesOf_36 : decode cX10_sidesOf 36 = .ok (.iload_n 1, 1) := by decide +kernel
theorem dX10_sidesOf_37 : decode cX10_sidesOf 37 = .ok (.imul, 1) := by decide +kernel
theorem dX10_sidesOf_38 : decode cX10_sidesOf 38 = .ok (.bipush 6, 2) := by decide +kernel
theorem dX10_sidesOf_40 : decode cX10_sidesOf 40 = .ok (.iadd, 1) := by decide +kernel
theorem dX10_sidesOf_41 : decode cX10_sidesOf 41 = .ok (.iload_n 2, 1) := by decide +kernel
theorem dX10_sidesOf_42 : decode cX10_sidesOf 42 = .ok (.iadd, 1) := by decide +kernel
theorem dX10_sidesOf_43 : decode cX10_sidesOf 43 = .ok (.iaload, 1) := by decide +kernel
theorem dX10_sidesOf_44 : decode cX10_sidesOf 44 = .ok (.iastore, 1) := by decide +kernel
theorem dX10_sidesOf_45 : decode cX10_sidesOf 45 = .ok (.iinc 2 1, 3) := by decide +kernel
theorem dX10_sidesOf_48 : decode cX10_sidesOf 48 = .ok (.goto (-46), 3) := by decide +kernel
theorem dX10_sidesOf_51 : decode cX10_sidesOf 51 = .ok (.aload_n 0, 1) := by decide +kernel
theorem dX10_sidesOf_52 : decode cX10_sidesOf 52 = .ok (.aload_n 0, 1) := by decide +kernel
theorem dX10_sidesOf_53 : decode cX10_sidesOf 53 = .ok (.getfield 15, 3) := by decide +kernel
theorem dX10_sidesOf_56 : decode cX10_sidesOf 56 = .ok (.iconst 2, 1) := by decide +kernel
theorem dX10_sidesOf_57 : decode cX10_sidesOf 57 = .ok (.iload_n 1, 1) := by decide +kernel
theorem dX10_sidesOf_58 : decode cX10_sidesOf 58 = .ok (.imul, 1) := by decide +kernel
theorem dX10_sidesOf_59 : decode cX10_sidesOf 59 = .ok (.iaload, 1) := by decide +kernel
theorem dX10_sidesOf_60 : decode cX10_sidesOf 60 = .ok (.aload_n 0, 1) := by decide +kernel
theorem dX10_sidesOf_61 : decode cX10_sidesOf 61 = .ok (.getfield 15, 3) := by decide +kernel
theorem dX10_sidesOf_64 : decode cX10_sidesOf 64 = .ok (.iconst 2, 1) := by decide +kernel
theorem dX10_sidesOf_65 : decode cX10_sidesOf 65 = .ok (.iload_n 1, 1) := by decide +kernel
theorem dX10_sidesOf_66 : decode cX10_sidesOf 66 = .ok (.imul, 1) := by decide +kernel
theorem dX10_sidesOf_67 : decode cX10_sidesOf 67 = .ok (.iconst 1, 1) := by decide +kernel
theorem dX10_sidesOf_68 : decode cX10_sidesOf 68 = .ok (.iadd, 1) := by decide +kernel
theorem dX10_sidesOf_69 : decode cX10_sidesOf 69 = .ok (.iaload, 1) := by decide +kernel
theorem dX10_sidesOf_70 : decode cX10_sidesOf 70 = .ok (.invokevirtual 171, 3) := by decide +kernel
theorem dX10_sidesOf_73 : decode cX10_sidesOf 73 = .ok (.ireturn, 1) := by decide +kernel
theorem dX10_compareSides_0 : decode cX10_compareSides 0 = .ok (.aload_n 0, 1) := by decide +kernel
theorem dX10_compareSides_1 : decode cX10_compareSides 1 = .ok (.iload_n 1, 1) := by decide +kernel
theorem dX10_compareSides_2 : decode cX10_compareSides 2 = .ok (.invokevirtual 152, 3) := by decide +kernel
theorem dX10_compareSides_5 : decode cX10_compareSides 5 = .ok (.ifCond .eq 11, 3) := by decide +kernel
theorem dX10_compareSides_8 : decode cX10_compareSides 8 = .ok (.aload_n 0, 1) := by decide +kernel
theorem dX10_compareSides_9 : decode cX10_compareSides 9 = .ok (.iload_n 1, 1) := by decide +kernel
theorem dX10_compareSides_10 : decode cX10_compareSides 10 = .ok (.invokevirtual 174, 3) := by decide +kernel
theorem dX10_compareSides_13 : decode cX10_compareSides 13 = .ok (.goto 5, 3) := by decide +kernel
theorem dX10_compareSides_16 : decode cX10_compareSides 16 = .ok (.bipush (-3), 2) := by decide +kernel
theorem dX10_compareSides_18 : decode cX10_compareSides 18 = .ok (.ireturn, 1) := by decide +kernel
theorem dX10_taken_0 : decode cX10_taken 0 = .ok (.aload_n 0, 1) := by decide +kernel
theorem dX10_taken_1 : decode cX10_taken 1 = .ok (.getfield 137, 3) := by decide +kernel
theorem dX10_taken_4 : decode cX10_taken 4 = .ok (.istore_n 1, 1) := by decide +kernel
theorem dX10_taken_5 : decode cX10_taken 5 = .ok (.aload_n 0, 1) := by decide +kernel
theorem dX10_taken_6 : decode cX10_taken 6 = .ok (.iconst 0, 1) := by decide +kernel
theorem dX10_taken_7 : decode cX10_taken 7 = .ok (.invokevirtual 148, 3) := by decide +kernel
theorem dX10_taken_10 : decode cX10_taken 10 = .ok (.aload_n 0, 1) := by decide +kernel
theorem dX10_taken_11 : decode cX10_taken 11 = .ok (.getfield 137, 3) := by decide +kernel
theorem dX10_taken_14 : decode cX10_taken 14 = .ok (.if_icmp .ne 16, 3) := by decide +kernel
theorem dX10_taken_17 : decode cX10_taken 17 = .ok (.aload_n 0, 1) := by decide +kernel
theorem dX10_taken_18 : decode cX10_taken 18 = .ok (.getfield 137, 3) := by decide +kernel
theorem dX10_taken_21 : decode cX10_taken 21 = .ok (.bipush 12, 2) := by decide +kernel
theorem dX10_taken_23 : decode cX10_taken 23 = .ok (.if_icmp .gt 7, 3) := by decide +kernel
theorem dX10_taken_26 : decode cX10_taken 26 = .ok (.iconst 1, 1) := by decide +kernel
theorem dX10_taken_27 : decode cX10_taken 27 = .ok (.goto 4, 3) := by decide +kernel
theorem dX10_taken_30 : decode cX10_taken 30 = .ok (.iconst 0, 1) := by decide +kernel
theorem dX10_taken_31 : decode cX10_taken 31 = .ok (.istore_n 2, 1) := by decide +kernel
theorem dX10_taken_32 : decode cX10_taken 32 = .ok (.aload_n 0, 1) := by decide +kernel
theorem dX10_taken_33 : decode cX10_taken 33 = .ok (.iconst 0, 1) := by decide +kernel
theorem dX10_taken_34 : decode cX10_taken 34 = .ok (.putfield 137, 3) := by decide +kernel
theorem dX10_taken_37 : decode cX10_taken 37 = .ok (.iload_n 2, 1) := by decide +kernel
theorem dX10_taken_38 : decode cX10_taken 38 = .ok (.ifCond .eq 7, 3) := by decide +kernel
theorem dX10_taken_41 : decode cX10_taken 41 = .ok (.iload_n 1, 1) := by decide +kernel
theorem dX10_taken_42 : decode cX10_taken 42 = .ok (.goto 4, 3) := by decide +kernel
theorem dX10_taken_45 : decode cX10_taken 45 = .ok (.iconst (-1), 1) := by decide +kernel
theorem dX10_taken_46 : decode cX10_taken 46 = .ok (.ireturn, 1) := by decide +kernel
theorem dX10_compareWithInput_0 : decode cX10_compareWithInput 0 = .ok (.aload_n 0, 1) := by decide +kernel
theorem dX10_compareWithInput_1 : decode cX10_compareWithInput 1 = .ok (.invokevirtual 177, 3) := by decide +kernel
theorem dX10_compareWithInput_4 : decode cX10_compareWithInput 4 = .ok (.istore_n 1, 1) := by decide +kernel
theorem dX10_compareWithInput_5 : decode cX10_compareWithInput 5 = .ok (.iload_n 1, 1) := by decide +kernel
theorem dX10_compareWithInput_6 : decode cX10_compareWithInput 6 = .ok (.iconst (-1), 1) := by decide +kernel
theorem dX10_compareWithInput_7 : decode cX10_compareWithInput 7 = .ok (.if_icmp .ne 6, 3) := by decide +kernel
theorem dX10_compareWithInput_10 : decode cX10_compareWithInput 10 = .ok (.bipush (-5), 2) := by decide +kernel
theorem dX10_compareWithInput_12 : decode cX10_compareWithInput 12 = .ok (.ireturn, 1) := by decide +kernel
theorem dX10_compareWithInput_13 : decode cX10_compareWithInput 13 = .ok (.iconst 0, 1) := by decide +kernel
theorem dX10_compareWithInput_14 : decode cX10_compareWithInput 14 = .ok (.istore_n 2, 1) := by decide +kernel
theorem dX10_compareWithInput_15 : decode cX10_compareWithInput 15 = .ok (.iload_n 2, 1) := by decide +kernel
theorem dX10_compareWithInput_16 : decode cX10_compareWithInput 16 = .ok (.aload_n 0, 1) := by decide +kernel
theorem dX10_compareWithInput_17 : decode cX10_compareWithInput 17 = .ok (.getfield 124, 3) := by decide +kernel
theorem dX10_compareWithInput_20 : decode cX10_compareWithInput 20 = .ok (.if_icmp .ge 21, 3) := by decide +kernel
theorem dX10_compareWithInput_23 : decode cX10_compareWithInput 23 = .ok (.aload_n 0, 1) := by decide +kernel
theorem dX10_compareWithInput_24 : decode cX10_compareWithInput 24 = .ok (.getfield 79, 3) := by decide +kernel
theorem dX10_compareWithInput_27 : decode cX10_compareWithInput 27 = .ok (.iload_n 2, 1) := by decide +kernel
theorem dX10_compareWithInput_28 : decode cX10_compareWithInput 28 = .ok (.aload_n 0, 1) := by decide +kernel
theorem dX10_compareWithInput_29 : decode cX10_compareWithInput 29 = .ok (.getfield 35, 3) := by decide +kernel
theorem dX10_compareWithInput_32 : decode cX10_compareWithInput 32 = .ok (.iload_n 2, 1) := by decide +kernel
theorem dX10_compareWithInput_33 : decode cX10_compareWithInput 33 = .ok (.iaload, 1) := by decide +kernel
theorem dX10_compareWithInput_34 : decode cX10_compareWithInput 34 = .ok (.iastore, 1) := by decide +kernel
theorem dX10_compareWithInput_35 : decode cX10_compareWithInput 35 = .ok (.iinc 2 1, 3) := by decide +kernel
theorem dX10_compareWithInput_38 : decode cX10_compareWithInput 38 = .ok (.goto (-23), 3) := by decide +kernel
theorem dX10_compareWithInput_41 : decode cX10_compareWithInput 41 = .ok (.iconst 0, 1) := by decide +kernel
theorem dX10_compareWithInput_42 : decode cX10_compareWithInput 42 = .ok (.istore_n 2, 1) := by decide +kernel
theorem dX10_compareWithInput_43 : decode cX10_compareWithInput 43 = .ok (.iload_n 2, 1) := by decide +kernel
theorem dX10_compareWithInput_44 : decode cX10_compareWithInput 44 = .ok (.iload_n 1, 1) := by decide +kernel
theorem dX10_compareWithInput_45 : decode cX10_compareWithInput 45 = .ok (.if_icmp .ge 24, 3) := by decide +kernel
theorem dX10_compareWithInput_48 : decode cX10_compareWithInput 48 = .ok (.aload_n 0, 1) := by decide +kernel
theorem dX10_compareWithInput_49 : decode cX10_compareWithInput 49 = .ok (.getfield 82, 3) := by decide +kernel
theorem dX10_compareWithInput_52 : decode cX10_compareWithInput 52 = .ok (.iload_n 2, 1) := by decide +kernel
theorem dX10_compareWithInput_53 : decode cX10_compareWithInput 53 = .ok (.aload_n 0, 1) := by decide +kernel
theorem dX10_compareWithInput_54 : decode cX10_compareWithInput 54 = .ok (.getfield 32, 3) := by decide +kernel
theorem dX10_compareWithInput_57 : decode cX10_compareWithInput 57 = .ok (.iload_n 2, 1) := by decide +kernel
theorem dX10_compareWithInput_58 : decode cX10_compareWithInput 58 = .ok (.iaload, 1) := by decide +kernel
theorem dX10_compareWithInput_59 : decode cX10_compareWithInput 59 = .ok (.bipush 97, 2) := by decide +kernel
theorem dX10_compareWithInput_61 : decode cX10_compareWithInput 61 = .ok (.isub, 1) := by decide +kernel
theorem dX10_compareWithInput_62 : decode cX10_compareWithInput 62 = .ok (.iastore, 1) := by decide +kernel
theorem dX10_compareWithInput_63 : decode cX10_compareWithInput 63 = .ok (.iinc 2 1, 3) := by decide +kernel
theorem dX10_compareWithInput_66 : decode cX10_compareWithInput 66 = .ok (.goto (-23), 3) := by decide +kernel
theorem dX10_compareWithInput_69 : decode cX10_compareWithInput 69 = .ok (.aload_n 0, 1) := by decide +kernel
theorem dX10_compareWithInput_70 : decode cX10_compareWithInput 70 = .ok (.aload_n 0, 1) := by decide +kernel
theorem dX10_compareWithInput_71 : decode cX10_compareWithInput 71 = .ok (.getfield 124, 3) := by decide +kernel
theorem dX10_compareWithInput_74 : decode cX10_compareWithInput 74 = .ok (.iload_n 1, 1) := by decide +kernel
theorem dX10_compareWithInput_75 : decode cX10_compareWithInput 75 = .ok (.invokevirtual 171, 3) := by decide +kernel
theorem dX10_compareWithInput_78 : decode cX10_compareWithInput 78 = .ok (.ireturn, 1) := by decide +kernel
theorem dX10_firstUnoriented_0 : decode cX10_firstUnoriented 0 = .ok (.iconst 0, 1) := by decide +kernel
theorem dX10_firstUnoriented_1 : decode cX10_firstUnoriented 1 = .ok (.istore_n 1, 1) := by decide +kernel
theorem dX10_firstUnoriented_2 : decode cX10_firstUnoriented 2 = .ok (.iload_n 1, 1) := by decide +kernel
theorem dX10_firstUnoriented_3 : decode cX10_firstUnoriented 3 = .ok (.aload_n 0, 1) := by decide +kernel
theorem dX10_firstUnoriented_4 : decode cX10_firstUnoriented 4 = .ok (.getfield 119, 3) := by decide +kernel
theorem dX10_firstUnoriented_7 : decode cX10_firstUnoriented 7 = .ok (.if_icmp .ge 20, 3) := by decide +kernel
theorem dX10_firstUnoriented_10 : decode cX10_firstUnoriented 10 = .ok (.aload_n 0, 1) := by decide +kernel
theorem dX10_firstUnoriented_11 : decode cX10_firstUnoriented 11 = .ok (.iload_n 1, 1) := by decide +kernel
theorem dX10_firstUnoriented_12 : decode cX10_firstUnoriented 12 = .ok (.invokevirtual 174, 3) := by decide +kernel
theorem dX10_firstUnoriented_15 : decode cX10_firstUnoriented 15 = .ok (.iconst 2, 1) := by decide +kernel
theorem dX10_firstUnoriented_16 : decode cX10_firstUnoriented 16 = .ok (.if_icmp .eq 5, 3) := by decide +kernel
theorem dX10_firstUnoriented_19 : decode cX10_firstUnoriented 19 = .ok (.iload_n 1, 1) := by decide +kernel
theorem dX10_firstUnoriented_20 : decode cX10_firstUnoriented 20 = .ok (.ireturn, 1) := by decide +kernel
theorem dX10_firstUnoriented_21 : decode cX10_firstUnoriented 21 = .ok (.iinc 1 1, 3) := by decide +kernel
theorem dX10_firstUnoriented_24 : decode cX10_firstUnoriented 24 = .ok (.goto (-22), 3) := by decide +kernel
theorem dX10_firstUnoriented_27 : decode cX10_firstUnoriented 27 = .ok (.bipush (-6), 2) := by decide +kernel
theorem dX10_firstUnoriented_29 : decode cX10_firstUnoriented 29 = .ok (.ireturn, 1) := by decide +kernel
theorem dX10_next_0 : decode cX10_next 0 = .ok (.iload_n 1, 1) := by decide +kernel
theorem dX10_next_1 : decode cX10_next 1 = .ok (.iconst 1, 1) := by decide +kernel
theorem dX10_next_2 : decode cX10_next 2 = .ok (.isub, 1) := by decide +kernel
theorem dX10_next_3 : decode cX10_next 3 = .ok (.istore_n 3, 1) := by decide +kernel
theorem dX10_next_4 : decode cX10_next 4 = .ok (.iload_n 3, 1) := by decide +kernel
theorem dX10_next_5 : decode cX10_next 5 = .ok (.ifCond .lt 28, 3) := by decide +kernel
theorem dX10_next_8 : decode cX10_next 8 = .ok (.aload_n 0, 1) := by decide +kernel
theorem dX10_next_9 : decode cX10_next 9 = .ok (.getfield 85, 3) := by decide +kernel
theorem dX10_next_12 : decode cX10_next 12 = .ok (.iload_n 3, 1) := by decide +kernel
theorem dX10_next_13 : decode cX10_next 13 = .ok (.iaload, 1) := by decide +kernel
theorem dX10_next_14 : decode cX10_next 14 = .ok (.iload_n 2, 1) := by decide +kernel
theorem dX10_next_15 : decode cX10_next 15 = .ok (.iconst 1, 1) := by decide +kernel
theorem dX10_next_16 : decode cX10_next 16 = .ok (.isub, 1) := by decide +kernel
theorem dX10_next_17 : decode cX10_next 17 = .ok (.if_icmp .ne 16, 3) := by decide +kernel
theorem dX10_next_20 : decode cX10_next 20 = .ok (.aload_n 0, 1) := by decide +kernel
theorem dX10_next_21 : decode cX10_next 21 = .ok (.getfield 85, 3) := by decide +kernel
theorem dX10_next_24 : decode cX10_next 24 = .ok (.iload_n 3, 1) := by decide +kernel
theorem dX10_next_25 : decode cX10_next 25 = .ok (.iconst 0, 1) := by decide +kernel
theorem dX10_next_26 : decode cX10_next 26 = .ok (.iastore, 1) := by decide +kernel
theorem dX10_next_27 : decode cX10_next 27 = .ok (.iinc 3 (-1), 3) := by decide +kernel
theorem dX10_next_30 : decode cX10_next 30 = .ok (.goto (-26), 3) := by decide +kernel
theorem dX10_next_33 : decode cX10_next 33 = .ok (.iload_n 3, 1) := by decide +kernel
theorem dX10_next_34 : decode cX10_next 34 = .ok (.ifCond .lt 13, 3) := by decide +kernel
theorem dX10_next_37 : decode cX10_next 37 = .ok (.aload_n 0, 1) := by decide +kernel
theorem dX10_next_38 : decode cX10_next 38 = .ok (.getfield 85, 3) := by decide +kernel
theorem dX10_next_41 : decode cX10_next 41 = .ok (.iload_n 3, 1) := by decide +kernel
theorem dX10_next_42 : decode cX10_next 42 = .ok (.dup2, 1) := by decide +kernel
theorem dX10_next_43 : decode cX10_next 43 = .ok (.iaload, 1) := by decide +kernel
theorem dX10_next_44 : decode cX10_next 44 = .ok (.iconst 1, 1) := by decide +kernel
theorem dX10_next_45 : decode cX10_next 45 = .ok (.iadd, 1) := by decide +kernel
theorem dX10_next_46 : decode cX10_next 46 = .ok (.iastore, 1) := by decide +kernel
theorem dX10_next_47 : decode cX10_next 47 = .ok (.iload_n 3, 1) := by decide +kernel
theorem dX10_next_48 : decode cX10_next 48 = .ok (.ifCond .lt 7, 3) := by decide +kernel
theorem dX10_next_51 : decode cX10_next 51 = .ok (.iconst 1, 1) := by decide +kernel
theorem dX10_next_52 : decode cX10_next 52 = .ok (.goto 4, 3) := by decide +kernel
theorem dX10_next_55 : decode cX10_next 55 = .ok (.iconst 0, 1) := by decide +kernel
theorem dX10_next_56 : decode cX10_next 56 = .ok (.ireturn, 1) := by decide +kernel
theorem dX10_begin_0 : decode cX10_begin 0 = .ok (.iconst 0, 1) := by decide +kernel
theorem dX10_begin_1 : decode cX10_begin 1 = .ok (.istore_n 1, 1) := by decide +kernel
theorem dX10_begin_2 : decode cX10_begin 2 = .ok (.iload_n 1, 1) := by decide +kernel
theorem dX10_begin_3 : decode cX10_begin 3 = .ok (.bipush 8, 2) := by decide +kernel
theorem dX10_begin_5 : decode cX10_begin 5 = .ok (.if_icmp .ge 16, 3) := by decide +kernel
theorem dX10_begin_8 : decode cX10_begin 8 = .ok (.aload_n 0, 1) := by decide +kernel
theorem dX10_begin_9 : decode cX10_begin 9 = .ok (.getfield 85, 3) := by decide +kernel
theorem dX10_begin_12 : decode cX10_begin 12 = .ok (.iload_n 1, 1) := by decide +kernel
theorem dX10_begin_13 : decode cX10_begin 13 = .ok (.iconst 0, 1) := by decide +kernel
theorem dX10_begin_14 : decode cX10_begin 14 = .ok (.iastore, 1) := by decide +kernel
theorem dX10_begin_15 : decode cX10_begin 15 = .ok (.iinc 1 1, 3) := by decide +kernel
theorem dX10_begin_18 : decode cX10_begin 18 = .ok (.goto (-16), 3) := by decide +kernel
theorem dX10_begin_21 : decode cX10_begin 21 = .ok (.return_, 1) := by decide +kernel
theorem dX10_less_0 : decode cX10_less 0 = .ok (.iconst 0, 1) := by decide +kernel
theorem dX10_less_1 : decode cX10_less 1 = .ok (.istore_n 2, 1) := by decide +kernel
theorem dX10_less_2 : decode cX10_less 2 = .ok (.iconst 0, 1) := by decide +kernel
theorem dX10_less_3 : decode cX10_less 3 = .ok (.istore_n 3, 1) := by decide +kernel
theorem dX10_less_4 : decode cX10_less 4 = .ok (.iload_n 3, 1) := by decide +kernel
theorem dX10_less_5 : decode cX10_less 5 = .ok (.aload_n 0, 1) := by decide +kernel
theorem dX10_less_6 : decode cX10_less 6 = .ok (.getfield 9, 3) := by decide +kernel
theorem dX10_less_9 : decode cX10_less 9 = .ok (.if_icmp .ge 25, 3) := by decide +kernel
theorem dX10_less_12 : decode cX10_less 12 = .ok (.iload_n 2, 1) := by decide +kernel
theorem dX10_less_13 : decode cX10_less 13 = .ok (.aload_n 0, 1) := by decide +kernel
theorem dX10_less_14 : decode cX10_less 14 = .ok (.iload_n 1, 1) := by decide +kernel
theorem dX10_less_15 : decode cX10_less 15 = .ok (.iload_n 3, 1) := by decide +kernel
theorem dX10_less_16 : decode cX10_less 16 = .ok (.invokevirtual 159, 3) := by decide +kernel
theorem dX10_less_19 : decode cX10_less 19 = .ok (.aload_n 0, 1) := by decide +kernel
theorem dX10_less_20 : decode cX10_less 20 = .ok (.getfield 85, 3) := by decide +kernel
theorem dX10_less_23 : decode cX10_less 23 = .ok (.iload_n 3, 1) := by decide +kernel
theorem dX10_less_24 : decode cX10_less 24 = .ok (.iaload, 1) := by decide +kernel
theorem dX10_less_25 : decode cX10_less 25 = .ok (.imul, 1) := by decide +kernel
theorem dX10_less_26 : decode cX10_less 26 = .ok (.iadd, 1) := by decide +kernel
theorem dX10_less_27 : decode cX10_less 27 = .ok (.istore_n 2, 1) := by decide +kernel
theorem dX10_less_28 : decode cX10_less 28 = .ok (.iinc 3 1, 3) := by decide +kernel
theorem dX10_less_31 : decode cX10_less 31 = .ok (.goto (-27), 3) := by decide +kernel
theorem dX10_less_34 : decode cX10_less 34 = .ok (.iload_n 2, 1) := by decide +kernel
theorem dX10_less_35 : decode cX10_less 35 = .ok (.ireturn, 1) := by decide +kernel
theorem dX10_findWeights_0 : decode cX10_findWeights 0 = .ok (.iload_n 1, 1) := by decide +kernel
theorem dX10_findWeights_1 : decode cX10_findWeights 1 = .ok (.i2l, 1) := by decide +kernel
theorem dX10_findWeights_2 : decode cX10_findWeights 2 = .ok (.lconst 1, 1) := by decide +kernel
theorem dX10_findWeights_3 : decode cX10_findWeights 3 = .ok (.ldc2_w 122, 3) := by decide +kernel
theorem dX10_findWeights_6 : decode cX10_findWeights 6 = .ok (.invokestatic 115, 3) := by decide +kernel
theorem dX10_findWeights_9 : decode cX10_findWeights 9 = .ok (.ifCond .ne 5, 3) := by decide +kernel
theorem dX10_findWeights_12 : decode cX10_findWeights 12 = .ok (.iconst (-1), 1) := by decide +kernel
theorem dX10_findWeights_13 : decode cX10_findWeights 13 = .ok (.ireturn, 1) := by decide +kernel
theorem dX10_findWeights_14 : decode cX10_findWeights 14 = .ok (.aload_n 0, 1) := by decide +kernel
theorem dX10_findWeights_15 : decode cX10_findWeights 15 = .ok (.invokevirtual 180, 3) := by decide +kernel
theorem dX10_findWeights_18 : decode cX10_findWeights 18 = .ok (.iconst 1, 1) := by decide +kernel
theorem dX10_findWeights_19 : decode cX10_findWeights 19 = .ok (.istore_n 2, 1) := by decide +kernel
theorem dX10_findWeights_20 : decode cX10_findWeights 20 = .ok (.iload_n 2, 1) := by decide +kernel
theorem dX10_findWeights_21 : decode cX10_findWeights 21 = .ok (.ifCond .eq 111, 3) := by decide +kernel
theorem dX10_findWeights_24 : decode cX10_findWeights 24 = .ok (.iconst 1, 1) := by decide +kernel
theorem dX10_findWeights_25 : decode cX10_findWeights 25 = .ok (.istore_n 3, 1) := by decide +kernel
theorem dX10_findWeights_26 : decode cX10_findWeights 26 = .ok (.iconst 0, 1) := by decide +kernel
theorem dX10_findWeights_27 : decode cX10_findWeights 27 = .ok (.istore 4, 2) := by decide +kernel
theorem dX10_findWeights_29 : decode cX10_findWeights 29 = .ok (.iload 4, 2) := by decide +kernel
theorem dX10_findWeights_31 : decode cX10_findWeights 31 = .ok (.aload_n 0, 1) := by decide +kernel
theorem dX10_findWeights_32 : decode cX10_findWeights 32 = .ok (.getfield 119, 3) := by decide +kernel
theorem dX10_findWeights_35 : decode cX10_findWeights 35 = .ok (.if_icmp .ge 28, 3) := by decide +kernel
theorem dX10_findWeights_38 : decode cX10_findWeights 38 = .ok (.iload_n 3, 1) := by decide +kernel
theorem dX10_findWeights_39 : decode cX10_findWeights 39 = .ok (.ifCond .eq 24, 3) := by decide +kernel
theorem dX10_findWeights_42 : decode cX10_findWeights 42 = .ok (.aload_n 0, 1) := by decide +kernel
theorem dX10_findWeights_43 : decode cX10_findWeights 43 = .ok (.iload 4, 2) := by decide +kernel
theorem dX10_findWeights_45 : decode cX10_findWeights 45 = .ok (.invokevirtual 183, 3) := by decide +kernel
theorem dX10_findWeights_48 : decode cX10_findWeights 48 = .ok (.ifCond .le 7, 3) := by decide +kernel
theorem dX10_findWeights_51 : decode cX10_findWeights 51 = .ok (.iconst 1, 1) := by decide +kernel
theorem dX10_findWeights_52 : decode cX10_findWeights 52 = .ok (.goto 4, 3) := by decide +kernel
theorem dX10_findWeights_55 : decode cX10_findWeights 55 = .ok (.iconst 0, 1) := by decide +kernel
theorem dX10_findWeights_56 : decode cX10_findWeights 56 = .ok (.istore_n 3, 1) := by decide +kernel
theorem dX10_findWeights_57 : decode cX10_findWeights 57 = .ok (.iinc 4 1, 3) := by decide +kernel
theorem dX10_findWeights_60 : decode cX10_findWeights 60 = .ok (.goto (-31), 3) := by decide +kernel
theorem dX10_findWeights_63 : decode cX10_findWeights 63 = .ok (.iload_n 3, 1) := by decide +kernel
theorem dX10_findWeights_64 : decode cX10_findWeights 64 = .ok (.ifCond .eq 53, 3) := by decide +kernel
theorem dX10_findWeights_67 : decode cX10_findWeights 67 = .ok (.iconst 0, 1) := by decide +kernel
theorem dX10_findWeights_68 : decode cX10_findWeights 68 = .ok (.istore 4, 2) := by decide +kernel
theorem dX10_findWeights_70 : decode cX10_findWeights 70 = .ok (.iconst 0, 1) := by decide +kernel
theorem dX10_findWeights_71 : decode cX10_findWeights 71 = .ok (.istore 5, 2) := by decide +kernel
theorem dX10_findWeights_73 : decode cX10_findWeights 73 = .ok (.iload 5, 2) := by decide +kernel
theorem dX10_findWeights_75 : decode cX10_findWeights 75 = .ok (.aload_n 0, 1) := by decide +kernel
theorem dX10_findWeights_76 : decode cX10_findWeights 76 = .ok (.getfield 9, 3) := by decide +kernel
theorem dX10_findWeights_79 : decode cX10_findWeights 79 = .ok (.if_icmp .ge 35, 3) := by decide +kernel
theorem dX10_findWeights_82 : decode cX10_findWeights 82 = .ok (.aload_n 0, 1) := by decide +kernel
theorem dX10_findWeights_83 : decode cX10_findWeights 83 = .ok (.getfield 22, 3) := by decide +kernel
theorem dX10_findWeights_86 : decode cX10_findWeights 86 = .ok (.iload 5, 2) := by decide +kernel
theorem dX10_findWeights_88 : decode cX10_findWeights 88 = .ok (.aload_n 0, 1) := by decide +kernel
theorem dX10_findWeights_89 : decode cX10_findWeights 89 = .ok (.getfield 85, 3) := by decide +kernel
theorem dX10_findWeights_92 : decode cX10_findWeights 92 = .ok (.iload 5, 2) := by decide +kernel
theorem dX10_findWeights_94 : decode cX10_findWeights 94 = .ok (.iaload, 1) := by decide +kernel
theorem dX10_findWeights_95 : decode cX10_findWeights 95 = .ok (.iastore, 1) := by decide +kernel
theorem dX10_findWeights_96 : decode cX10_findWeights 96 = .ok (.iload 4, 2) := by decide +kernel
theorem dX10_findWeights_98 : decode cX10_findWeights 98 = .ok (.aload_n 0, 1) := by decide +kernel
theorem dX10_findWeights_99 : decode cX10_findWeights 99 = .ok (.getfield 85, 3) := by decide +kernel
theorem dX10_findWeights_102 : decode cX10_findWeights 102 = .ok (.iload 5, 2) := by decide +kernel
theorem dX10_findWeights_104 : decode cX10_findWeights 104 = .ok (.iaload, 1) := by decide +kernel
theorem dX10_findWeights_105 : decode cX10_findWeights 105 = .ok (.iadd, 1) := by decide +kernel
theorem dX10_findWeights_106 : decode cX10_findWeights 106 = .ok (.istore 4, 2) := by decide +kernel
theorem dX10_findWeights_108 : decode cX10_findWeights 108 = .ok (.iinc 5 1, 3) := by decide +kernel
theorem dX10_findWeights_111 : decode cX10_findWeights 111 = .ok (.goto (-38), 3) := by decide +kernel
theorem dX10_findWeights_114 : decode cX10_findWeights 114 = .ok (.iload 4, 2) := by decide +kernel
theorem dX10_findWeights_116 : decode cX10_findWeights 116 = .ok (.ireturn, 1) := by decide +kernel
theorem dX10_findWeights_117 : decode cX10_findWeights 117 = .ok (.aload_n 0, 1) := by decide +kernel
theorem dX10_findWeights_118 : decode cX10_findWeights 118 = .ok (.aload_n 0, 1) := by decide +kernel
theorem dX10_findWeights_119 : decode cX10_findWeights 119 = .ok (.getfield 9, 3) := by decide +kernel
theorem dX10_findWeights_122 : decode cX10_findWeights 122 = .ok (.iload_n 1, 1) := by decide +kernel
theorem dX10_findWeights_123 : decode cX10_findWeights 123 = .ok (.iconst 1, 1) := by decide +kernel
theorem dX10_findWeights_124 : decode cX10_findWeights 124 = .ok (.iadd, 1) := by decide +kernel
theorem dX10_findWeights_125 : decode cX10_findWeights 125 = .ok (.invokevirtual 186, 3) := by decide +kernel
theorem dX10_findWeights_128 : decode cX10_findWeights 128 = .ok (.istore_n 2, 1) := by decide +kernel
theorem dX10_findWeights_129 : decode cX10_findWeights 129 = .ok (.goto (-109), 3) := by decide +kernel
theorem dX10_findWeights_132 : decode cX10_findWeights 132 = .ok (.bipush (-6), 2) := by decide +kernel
theorem dX10_findWeights_134 : decode cX10_findWeights 134 = .ok (.ireturn, 1) := by decide +kernel
theorem dX10_findCertificate_0 : decode cX10_findCertificate 0 = .ok (.aload_n 0, 1) := by decide +kernel
theorem dX10_findCertificate_1 : decode cX10_findCertificate 1 = .ok (.invokevirtual 180, 3) := by decide +kernel
theorem dX10_findCertificate_4 : decode cX10_findCertificate 4 = .ok (.aload_n 0, 1) := by decide +kernel
theorem dX10_findCertificate_5 : decode cX10_findCertificate 5 = .ok (.aload_n 0, 1) := by decide +kernel
theorem dX10_findCertificate_6 : decode cX10_findCertificate 6 = .ok (.getfield 119, 3) := by decide +kernel
theorem dX10_findCertificate_9 : decode cX10_findCertificate 9 = .ok (.iconst 4, 1) := by decide +kernel
theorem dX10_findCertificate_10 : decode cX10_findCertificate 10 = .ok (.invokevirtual 186, 3) := by decide +kernel
theorem dX10_findCertificate_13 : decode cX10_findCertificate 13 = .ok (.ifCond .eq 115, 3) := by decide +kernel
theorem dX10_findCertificate_16 : decode cX10_findCertificate 16 = .ok (.iconst 1, 1) := by decide +kernel
theorem dX10_findCertificate_17 : decode cX10_findCertificate 17 = .ok (.istore_n 1, 1) := by decide +kernel
theorem dX10_findCertificate_18 : decode cX10_findCertificate 18 = .ok (.iconst 0, 1) := by decide +kernel
theorem dX10_findCertificate_19 : decode cX10_findCertificate 19 = .ok (.istore_n 2, 1) := by decide +kernel
theorem dX10_findCertificate_20 : decode cX10_findCertificate 20 = .ok (.iconst 0, 1) := by decide +kernel
theorem dX10_findCertificate_21 : decode cX10_findCertificate 21 = .ok (.istore_n 3, 1) := by decide +kernel
theorem dX10_findCertificate_22 : decode cX10_findCertificate 22 = .ok (.iload_n 3, 1) := by decide +kernel
theorem dX10_findCertificate_23 : decode cX10_findCertificate 23 = .ok (.aload_n 0, 1) := by decide +kernel
theorem dX10_findCertificate_24 : decode cX10_findCertificate 24 = .ok (.getfield 9, 3) := by decide +kernel
theorem dX10_findCertificate_27 : decode cX10_findCertificate 27 = .ok (.if_icmp .ge 65, 3) := by decide +kernel
theorem dX10_findCertificate_30 : decode cX10_findCertificate 30 = .ok (.iconst 0, 1) := by decide +kernel
theorem dX10_findCertificate_31 : decode cX10_findCertificate 31 = .ok (.istore 4, 2) := by decide +kernel
theorem dX10_findCertificate_33 : decode cX10_findCertificate 33 = .ok (.iconst 0, 1) := by decide +kernel
theorem dX10_findCertificate_34 : decode cX10_findCertificate 34 = .ok (.istore 5, 2) := by decide +kernel
theorem dX10_findCertificate_36 : decode cX10_findCertificate 36 = .ok (.iload 5, 2) := by decide +kernel
theorem dX10_findCertificate_38 : decode cX10_findCertificate 38 = .ok (.aload_n 0, 1) := by decide +kernel
theorem dX10_findCertificate_39 : decode cX10_findCertificate 39 = .ok (.getfield 119, 3) := by decide +kernel
theorem dX10_findCertificate_42 : decode cX10_findCertificate 42 = .ok (.if_icmp .ge 29, 3) := by decide +kernel
theorem dX10_findCertificate_45 : decode cX10_findCertificate 45 = .ok (.iload 4, 2) := by decide +kernel
theorem dX10_findCertificate_47 : decode cX10_findCertificate 47 = .ok (.aload_n 0, 1) := by decide +kernel
theorem dX10_findCertificate_48 : decode cX10_findCertificate 48 = .ok (.getfield 85, 3) := by decide +kernel
theorem dX10_findCertificate_51 : decode cX10_findCertificate 51 = .ok (.iload 5, 2) := by decide +kernel
theorem dX10_findCertificate_53 : decode cX10_findCertificate 53 = .ok (.iaload, 1) := by decide +kernel
theorem dX10_findCertificate_54 : decode cX10_findCertificate 54 = .ok (.aload_n 0, 1) := by decide +kernel
theorem dX10_findCertificate_55 : decode cX10_findCertificate 55 = .ok (.iload 5, 2) := by decide +kernel
theorem dX10_findCertificate_57 : decode cX10_findCertificate 57 = .ok (.iload_n 3, 1) := by decide +kernel
theorem dX10_findCertificate_58 : decode cX10_findCertificate 58 = .ok (.invokevirtual 159, 3) := by decide +kernel
theorem dX10_findCertificate_61 : decode cX10_findCertificate 61 = .ok (.imul, 1) := by decide +kernel
theorem dX10_findCertificate_62 : decode cX10_findCertificate 62 = .ok (.iadd, 1) := by decide +kernel
theorem dX10_findCertificate_63 : decode cX10_findCertificate 63 = .ok (.istore 4, 2) := by decide +kernel
theorem dX10_findCertificate_65 : decode cX10_findCertificate 65 = .ok (.iinc 5 1, 3) := by decide +kernel
theorem dX10_findCertificate_68 : decode cX10_findCertificate 68 = .ok (.goto (-32), 3) := by decide +kernel
theorem dX10_findCertificate_71 : decode cX10_findCertificate 71 = .ok (.iload_n 1, 1) := by decide +kernel
theorem dX10_findCertificate_72 : decode cX10_findCertificate 72 = .ok (.ifCond .eq 12, 3) := by decide +kernel
theorem dX10_findCertificate_75 : decode cX10_findCertificate 75 = .ok (.iload 4, 2) := by decide +kernel
theorem dX10_findCertificate_77 : decode cX10_findCertificate 77 = .ok (.ifCond .gt 7, 3) := by decide +kernel
theorem dX10_findCertificate_80 : decode cX10_findCertificate 80 = .ok (.iconst 1, 1) := by decide +kernel
theorem dX10_findCertificate_81 : decode cX10_findCertificate 81 = .ok (.goto 4, 3) := by decide +kernel
theorem dX10_findCertificate_84 : decode cX10_findCertificate 84 = .ok (.iconst 0, 1) := by decide +kernel
theorem dX10_findCertificate_85 : decode cX10_findCertificate 85 = .ok (.istore_n 1, 1) := by decide +kernel
theorem dX10_findCertificate_86 : decode cX10_findCertificate 86 = .ok (.iinc 3 1, 3) := by decide +kernel
theorem dX10_findCertificate_89 : decode cX10_findCertificate 89 = .ok (.goto (-67), 3) := by decide +kernel
theorem dX10_findCertificate_92 : decode cX10_findCertificate 92 = .ok (.iconst 0, 1) := by decide +kernel
theorem dX10_findCertificate_93 : decode cX10_findCertificate 93 = .ok (.istore_n 3, 1) := by decide +kernel
theorem dX10_findCertificate_94 : decode cX10_findCertificate 94 = .ok (.iload_n 3, 1) := by decide +kernel
theorem dX10_findCertificate_95 : decode cX10_findCertificate 95 = .ok (.aload_n 0, 1) := by decide +kernel
theorem dX10_findCertificate_96 : decode cX10_findCertificate 96 = .ok (.getfield 119, 3) := by decide +kernel
theorem dX10_findCertificate_99 : decode cX10_findCertificate 99 = .ok (.if_icmp .ge 20, 3) := by decide +kernel
theorem dX10_findCertificate_102 : decode cX10_findCertificate 102 = .ok (.iconst 4, 1) := by decide +kernel
theorem dX10_findCertificate_103 : decode cX10_findCertificate 103 = .ok (.iload_n 2, 1) := by decide +kernel
theorem dX10_findCertificate_104 : decode cX10_findCertificate 104 = .ok (.imul, 1) := by decide +kernel
theorem dX10_findCertificate_105 : decode cX10_findCertificate 105 = .ok (.aload_n 0, 1) := by decide +kernel
theorem dX10_findCertificate_106 : decode cX10_findCertificate 106 = .ok (.getfield 85, 3) := by decide +kernel
theorem dX10_findCertificate_109 : decode cX10_findCertificate 109 = .ok (.iload_n 3, 1) := by decide +kernel
theorem dX10_findCertificate_110 : decode cX10_findCertificate 110 = .ok (.iaload, 1) := by decide +kernel
theorem dX10_findCertificate_111 : decode cX10_findCertificate 111 = .ok (.iadd, 1) := by decide +kernel
theorem dX10_findCertificate_112 : decode cX10_findCertificate 112 = .ok (.istore_n 2, 1) := by decide +kernel
theorem dX10_findCertificate_113 : decode cX10_findCertificate 113 = .ok (.iinc 3 1, 3) := by decide +kernel
theorem dX10_findCertificate_116 : decode cX10_findCertificate 116 = .ok (.goto (-22), 3) := by decide +kernel
theorem dX10_findCertificate_119 : decode cX10_findCertificate 119 = .ok (.iload_n 1, 1) := by decide +kernel
theorem dX10_findCertificate_120 : decode cX10_findCertificate 120 = .ok (.ifCond .eq 5, 3) := by decide +kernel
theorem dX10_findCertificate_123 : decode cX10_findCertificate 123 = .ok (.iload_n 2, 1) := by decide +kernel
theorem dX10_findCertificate_124 : decode cX10_findCertificate 124 = .ok (.ireturn, 1) := by decide +kernel
theorem dX10_findCertificate_125 : decode cX10_findCertificate 125 = .ok (.goto (-121), 3) := by decide +kernel
theorem dX10_findCertificate_128 : decode cX10_findCertificate 128 = .ok (.bipush (-6), 2) := by decide +kernel
theorem dX10_findCertificate_130 : decode cX10_findCertificate 130 = .ok (.ireturn, 1) := by decide +kernel
theorem dX10_levels_0 : decode cX10_levels 0 = .ok (.iconst 0, 1) := by decide +kernel
theorem dX10_levels_1 : decode cX10_levels 1 = .ok (.istore_n 1, 1) := by decide +kernel
theorem dX10_levels_2 : decode cX10_levels 2 = .ok (.iload_n 1, 1) := by decide +kernel
theorem dX10_levels_3 : decode cX10_levels 3 = .ok (.bipush 6, 2) := by decide +kernel
theorem dX10_levels_5 : decode cX10_levels 5 = .ok (.if_icmp .ge 21, 3) := by decide +kernel
theorem dX10_levels_8 : decode cX10_levels 8 = .ok (.aload_n 0, 1) := by decide +kernel
theorem dX10_levels_9 : decode cX10_levels 9 = .ok (.getfield 88, 3) := by decide +kernel
theorem dX10_levels_12 : decode cX10_levels 12 = .ok (.iload_n 1, 1) := by decide +kernel
theorem dX10_levels_13 : decode cX10_levels 13 = .ok (.aload_n 0, 1) := by decide +kernel
theorem dX10_levels_14 : decode cX10_levels 14 = .ok (.getfield 25, 3) := by decide +kernel
theorem dX10_levels_17 : decode cX10_levels 17 = .ok (.iload_n 1, 1) := by decide +kernel
theorem dX10_levels_18 : decode cX10_levels 18 = .ok (.iaload, 1) := by decide +kernel
theorem dX10_levels_19 : decode cX10_levels 19 = .ok (.iastore, 1) := by decide +kernel
theorem dX10_levels_20 : decode cX10_levels 20 = .ok (.iinc 1 1, 3) := by decide +kernel
theorem dX10_levels_23 : decode cX10_levels 23 = .ok (.goto (-21), 3) := by decide +kernel
theorem dX10_levels_26 : decode cX10_levels 26 = .ok (.aload_n 0, 1) := by decide +kernel
theorem dX10_levels_27 : decode cX10_levels 27 = .ok (.invokevirtual 180, 3) := by decide +kernel
theorem dX10_levels_30 : decode cX10_levels 30 = .ok (.iconst 1, 1) := by decide +kernel
theorem dX10_levels_31 : decode cX10_levels 31 = .ok (.istore_n 1, 1) := by decide +kernel
theorem dX10_levels_32 : decode cX10_levels 32 = .ok (.iload_n 1, 1) := by decide +kernel
theorem dX10_levels_33 : decode cX10_levels 33 = .ok (.ifCond .eq 65, 3) := by decide +kernel
theorem dX10_levels_36 : decode cX10_levels 36 = .ok (.iconst 0, 1) := by decide +kernel
theorem dX10_levels_37 : decode cX10_levels 37 = .ok (.istore_n 2, 1) := by decide +kernel
theorem dX10_levels_38 : decode cX10_levels 38 = .ok (.iload_n 2, 1) := by decide +kernel
theorem dX10_levels_39 : decode cX10_levels 39 = .ok (.aload_n 0, 1) := by decide +kernel
theorem dX10_levels_40 : decode cX10_levels 40 = .ok (.getfield 9, 3) := by decide +kernel
theorem dX10_levels_43 : decode cX10_levels 43 = .ok (.if_icmp .ge 21, 3) := by decide +kernel
theorem dX10_levels_46 : decode cX10_levels 46 = .ok (.aload_n 0, 1) := by decide +kernel
theorem dX10_levels_47 : decode cX10_levels 47 = .ok (.getfield 25, 3) := by decide +kernel
theorem dX10_levels_50 : decode cX10_levels 50 = .ok (.iload_n 2, 1) := by decide +kernel
theorem dX10_levels_51 : decode cX10_levels 51 = .ok (.aload_n 0, 1) := by decide +kernel
theorem dX10_levels_52 : decode cX10_levels 52 = .ok (.getfield 85, 3) := by decide +kernel
theorem dX10_levels_55 : decode cX10_levels 55 = .ok (.iload_n 2, 1) := by decide +kernel
theorem dX10_levels_56 : decode cX10_levels 56 = .ok (.iaload, 1) := by decide +kernel
theorem dX10_levels_57 : decode cX10_levels 57 = .ok (.iastore, 1) := by decide +kernel
theorem dX10_levels_58 : decode cX10_levels 58 = .ok (.iinc 2 1, 3) := by decide +kernel
theorem dX10_levels_61 : decode cX10_levels 61 = .ok (.goto (-23), 3) := by decide +kernel
theorem dX10_levels_64 : decode cX10_levels 64 = .ok (.aload_n 0, 1) := by decide +kernel
theorem dX10_levels_65 : decode cX10_levels 65 = .ok (.invokevirtual 167, 3) := by decide +kernel
theorem dX10_levels_68 : decode cX10_levels 68 = .ok (.ifCond .eq 14, 3) := by decide +kernel
theorem dX10_levels_71 : decode cX10_levels 71 = .ok (.aload_n 0, 1) := by decide +kernel
theorem dX10_levels_72 : decode cX10_levels 72 = .ok (.invokevirtual 190, 3) := by decide +kernel
theorem dX10_levels_75 : decode cX10_levels 75 = .ok (.bipush (-6), 2) := by decide +kernel
theorem dX10_levels_77 : decode cX10_levels 77 = .ok (.if_icmp .ne 5, 3) := by decide +kernel
theorem dX10_levels_80 : decode cX10_levels 80 = .ok (.iconst 1, 1) := by decide +kernel
theorem dX10_levels_81 : decode cX10_levels 81 = .ok (.ireturn, 1) := by decide +kernel
theorem dX10_levels_82 : decode cX10_levels 82 = .ok (.aload_n 0, 1) := by decide +kernel
theorem dX10_levels_83 : decode cX10_levels 83 = .ok (.aload_n 0, 1) := by decide +kernel
theorem dX10_levels_84 : decode cX10_levels 84 = .ok (.getfield 9, 3) := by decide +kernel
theorem dX10_levels_87 : decode cX10_levels 87 = .ok (.aload_n 0, 1) := by decide +kernel
theorem dX10_levels_88 : decode cX10_levels 88 = .ok (.getfield 9, 3) := by decide +kernel
theorem dX10_levels_91 : decode cX10_levels 91 = .ok (.invokevirtual 186, 3) := by decide +kernel
theorem dX10_levels_94 : decode cX10_levels 94 = .ok (.istore_n 1, 1) := by decide +kernel
theorem dX10_levels_95 : decode cX10_levels 95 = .ok (.goto (-63), 3) := by decide +kernel
theorem dX10_levels_98 : decode cX10_levels 98 = .ok (.iconst 0, 1) := by decide +kernel
theorem dX10_levels_99 : decode cX10_levels 99 = .ok (.istore_n 2, 1) := by decide +kernel
theorem dX10_levels_100 : decode cX10_levels 100 = .ok (.iload_n 2, 1) := by decide +kernel
theorem dX10_levels_101 : decode cX10_levels 101 = .ok (.bipush 6, 2) := by decide +kernel
theorem dX10_levels_103 : decode cX10_levels 103 = .ok (.if_icmp .ge 21, 3) := by decide +kernel
theorem dX10_levels_106 : decode cX10_levels 106 = .ok (.aload_n 0, 1) := by decide +kernel
theorem dX10_levels_107 : decode cX10_levels 107 = .ok (.getfield 25, 3) := by decide +kernel
theorem dX10_levels_110 : decode cX10_levels 110 = .ok (.iload_n 2, 1) := by decide +kernel
theorem dX10_levels_111 : decode cX10_levels 111 = .ok (.aload_n 0, 1) := by decide +kernel
theorem dX10_levels_112 : decode cX10_levels 112 = .ok (.getfield 88, 3) := by decide +kernel
theorem dX10_levels_115 : decode cX10_levels 115 = .ok (.iload_n 2, 1) := by decide +kernel
theorem dX10_levels_116 : decode cX10_levels 116 = .ok (.iaload, 1) := by decide +kernel
theorem dX10_levels_117 : decode cX10_levels 117 = .ok (.iastore, 1) := by decide +kernel
theorem dX10_levels_118 : decode cX10_levels 118 = .ok (.iinc 2 1, 3) := by decide +kernel
theorem dX10_levels_121 : decode cX10_levels 121 = .ok (.goto (-21), 3) := by decide +kernel
theorem dX10_levels_124 : decode cX10_levels 124 = .ok (.iconst 0, 1) := by decide +kernel
theorem dX10_levels_125 : decode cX10_levels 125 = .ok (.ireturn, 1) := by decide +kernel
theorem dX10_findLevels_0 : decode cX10_findLevels 0 = .ok (.aload_n 0, 1) := by decide +kernel
theorem dX10_findLevels_1 : decode cX10_findLevels 1 = .ok (.invokevirtual 193, 3) := by decide +kernel
theorem dX10_findLevels_4 : decode cX10_findLevels 4 = .ok (.ifCond .ne 6, 3) := by decide +kernel
theorem dX10_findLevels_7 : decode cX10_findLevels 7 = .ok (.bipush (-6), 2) := by decide +kernel
theorem dX10_findLevels_9 : decode cX10_findLevels 9 = .ok (.ireturn, 1) := by decide +kernel
theorem dX10_findLevels_10 : decode cX10_findLevels 10 = .ok (.iconst 0, 1) := by decide +kernel
theorem dX10_findLevels_11 : decode cX10_findLevels 11 = .ok (.istore_n 1, 1) := by decide +kernel
theorem dX10_findLevels_12 : decode cX10_findLevels 12 = .ok (.aload_n 0, 1) := by decide +kernel
theorem dX10_findLevels_13 : decode cX10_findLevels 13 = .ok (.getfield 9, 3) := by decide +kernel
theorem dX10_findLevels_16 : decode cX10_findLevels 16 = .ok (.iconst 1, 1) := by decide +kernel
theorem dX10_findLevels_17 : decode cX10_findLevels 17 = .ok (.isub, 1) := by decide +kernel
theorem dX10_findLevels_18 : decode cX10_findLevels 18 = .ok (.istore_n 2, 1) := by decide +kernel
theorem dX10_findLevels_19 : decode cX10_findLevels 19 = .ok (.iload_n 2, 1) := by decide +kernel
theorem dX10_findLevels_20 : decode cX10_findLevels 20 = .ok (.ifCond .lt 21, 3) := by decide +kernel
theorem dX10_findLevels_23 : decode cX10_findLevels 23 = .ok (.bipush 10, 2) := by decide +kernel
theorem dX10_findLevels_25 : decode cX10_findLevels 25 = .ok (.iload_n 1, 1) := by decide +kernel
theorem dX10_findLevels_26 : decode cX10_findLevels 26 = .ok (.imul, 1) := by decide +kernel
theorem dX10_findLevels_27 : decode cX10_findLevels 27 = .ok (.aload_n 0, 1) := by decide +kernel
theorem dX10_findLevels_28 : decode cX10_findLevels 28 = .ok (.getfield 25, 3) := by decide +kernel
theorem dX10_findLevels_31 : decode cX10_findLevels 31 = .ok (.iload_n 2, 1) := by decide +kernel
theorem dX10_findLevels_32 : decode cX10_findLevels 32 = .ok (.iaload, 1) := by decide +kernel
theorem dX10_findLevels_33 : decode cX10_findLevels 33 = .ok (.iadd, 1) := by decide +kernel
theorem dX10_findLevels_34 : decode cX10_findLevels 34 = .ok (.istore_n 1, 1) := by decide +kernel
theorem dX10_findLevels_35 : decode cX10_findLevels 35 = .ok (.iinc 2 (-1), 3) := by decide +kernel
theorem dX10_findLevels_38 : decode cX10_findLevels 38 = .ok (.goto (-19), 3) := by decide +kernel
theorem dX10_findLevels_41 : decode cX10_findLevels 41 = .ok (.iload_n 1, 1) := by decide +kernel
theorem dX10_findLevels_42 : decode cX10_findLevels 42 = .ok (.ireturn, 1) := by decide +kernel
theorem dX10_findOrder_0 : decode cX10_findOrder 0 = .ok (.aload_n 0, 1) := by decide +kernel
theorem dX10_findOrder_1 : decode cX10_findOrder 1 = .ok (.getfield 9, 3) := by decide +kernel
theorem dX10_findOrder_4 : decode cX10_findOrder 4 = .ok (.iconst 4, 1) := by decide +kernel
theorem dX10_findOrder_5 : decode cX10_findOrder 5 = .ok (.if_icmp .le 6, 3) := by decide +kernel
theorem dX10_findOrder_8 : decode cX10_findOrder 8 = .ok (.bipush (-8), 2) := by decide +kernel
theorem dX10_findOrder_10 : decode cX10_findOrder 10 = .ok (.ireturn, 1) := by decide +kernel
theorem dX10_findOrder_11 : decode cX10_findOrder 11 = .ok (.aload_n 0, 1) := by decide +kernel
theorem dX10_findOrder_12 : decode cX10_findOrder 12 = .ok (.getfield 130, 3) := by decide +kernel
theorem dX10_findOrder_15 : decode cX10_findOrder 15 = .ok (.istore_n 1, 1) := by decide +kernel
theorem dX10_findOrder_16 : decode cX10_findOrder 16 = .ok (.iconst 1, 1) := by decide +kernel
theorem dX10_findOrder_17 : decode cX10_findOrder 17 = .ok (.istore_n 2, 1) := by decide +kernel
theorem dX10_findOrder_18 : decode cX10_findOrder 18 = .ok (.iconst 0, 1) := by decide +kernel
theorem dX10_findOrder_19 : decode cX10_findOrder 19 = .ok (.istore_n 3, 1) := by decide +kernel
theorem dX10_findOrder_20 : decode cX10_findOrder 20 = .ok (.iload_n 3, 1) := by decide +kernel
theorem dX10_findOrder_21 : decode cX10_findOrder 21 = .ok (.aload_n 0, 1) := by decide +kernel
theorem dX10_findOrder_22 : decode cX10_findOrder 22 = .ok (.getfield 9, 3) := by decide +kernel
theorem dX10_findOrder_25 : decode cX10_findOrder 25 = .ok (.if_icmp .ge 25, 3) := by decide +kernel
theorem dX10_findOrder_28 : decode cX10_findOrder 28 = .ok (.aload_n 0, 1) := by decide +kernel
theorem dX10_findOrder_29 : decode cX10_findOrder 29 = .ok (.getfield 91, 3) := by decide +kernel
theorem dX10_findOrder_32 : decode cX10_findOrder 32 = .ok (.iload_n 3, 1) := by decide +kernel
theorem dX10_findOrder_33 : decode cX10_findOrder 33 = .ok (.aload_n 0, 1) := by decide +kernel
theorem dX10_findOrder_34 : decode cX10_findOrder 34 = .ok (.getfield 22, 3) := by decide +kernel
theorem dX10_findOrder_37 : decode cX10_findOrder 37 = .ok (.iload_n 3, 1) := by decide +kernel
theorem dX10_findOrder_38 : decode cX10_findOrder 38 = .ok (.iaload, 1) := by decide +kernel
theorem dX10_findOrder_39 : decode cX10_findOrder 39 = .ok (.iastore, 1) := by decide +kernel
theorem dX10_findOrder_40 : decode cX10_findOrder 40 = .ok (.iload_n 2, 1) := by decide +kernel
theorem dX10_findOrder_41 : decode cX10_findOrder 41 = .ok (.iconst 3, 1) := by decide +kernel
theorem dX10_findOrder_42 : decode cX10_findOrder 42 = .ok (.imul, 1) := by decide +kernel
theorem dX10_findOrder_43 : decode cX10_findOrder 43 = .ok (.istore_n 2, 1) := by decide +kernel
theorem dX10_findOrder_44 : decode cX10_findOrder 44 = .ok (.iinc 3 1, 3) := by decide +kernel
theorem dX10_findOrder_47 : decode cX10_findOrder 47 = .ok (.goto (-27), 3) := by decide +kernel
theorem dX10_findOrder_50 : decode cX10_findOrder 50 = .ok (.iconst 0, 1) := by decide +kernel
theorem dX10_findOrder_51 : decode cX10_findOrder 51 = .ok (.istore_n 3, 1) := by decide +kernel
theorem dX10_findOrder_52 : decode cX10_findOrder 52 = .ok (.iload_n 3, 1) := by decide +kernel
theorem dX10_findOrder_53 : decode cX10_findOrder 53 = .ok (.iload_n 2, 1) := by decide +kernel
theorem dX10_findOrder_54 : decode cX10_findOrder 54 = .ok (.if_icmp .ge 78, 3) := by decide +kernel
theorem dX10_findOrder_57 : decode cX10_findOrder 57 = .ok (.iload_n 3, 1) := by decide +kernel
theorem dX10_findOrder_58 : decode cX10_findOrder 58 = .ok (.istore 4, 2) := by decide +kernel
theorem dX10_findOrder_60 : decode cX10_findOrder 60 = .ok (.aload_n 0, 1) := by decide +kernel
theorem dX10_findOrder_61 : decode cX10_findOrder 61 = .ok (.getfield 9, 3) := by decide +kernel
theorem dX10_findOrder_64 : decode cX10_findOrder 64 = .ok (.iconst 1, 1) := by decide +kernel
theorem dX10_findOrder_65 : decode cX10_findOrder 65 = .ok (.isub, 1) := by decide +kernel
theorem dX10_findOrder_66 : decode cX10_findOrder 66 = .ok (.istore 5, 2) := by decide +kernel
theorem dX10_findOrder_68 : decode cX10_findOrder 68 = .ok (.iload 5, 2) := by decide +kernel
theorem dX10_findOrder_70 : decode cX10_findOrder 70 = .ok (.ifCond .lt 26, 3) := by decide +kernel
theorem dX10_findOrder_73 : decode cX10_findOrder 73 = .ok (.aload_n 0, 1) := by decide +kernel
theorem dX10_findOrder_74 : decode cX10_findOrder 74 = .ok (.getfield 22, 3) := by decide +kernel
theorem dX10_findOrder_77 : decode cX10_findOrder 77 = .ok (.iload 5, 2) := by decide +kernel
theorem dX10_findOrder_79 : decode cX10_findOrder 79 = .ok (.iload 4, 2) := by decide +kernel
theorem dX10_findOrder_81 : decode cX10_findOrder 81 = .ok (.iconst 3, 1) := by decide +kernel
theorem dX10_findOrder_82 : decode cX10_findOrder 82 = .ok (.irem, 1) := by decide +kernel
theorem dX10_findOrder_83 : decode cX10_findOrder 83 = .ok (.iastore, 1) := by decide +kernel
theorem dX10_findOrder_84 : decode cX10_findOrder 84 = .ok (.iload 4, 2) := by decide +kernel
theorem dX10_findOrder_86 : decode cX10_findOrder 86 = .ok (.iconst 3, 1) := by decide +kernel
theorem dX10_findOrder_87 : decode cX10_findOrder 87 = .ok (.idiv, 1) := by decide +kernel
theorem dX10_findOrder_88 : decode cX10_findOrder 88 = .ok (.istore 4, 2) := by decide +kernel
theorem dX10_findOrder_90 : decode cX10_findOrder 90 = .ok (.iinc 5 (-1), 3) := by decide +kernel
theorem dX10_findOrder_93 : decode cX10_findOrder 93 = .ok (.goto (-25), 3) := by decide +kernel
theorem dX10_findOrder_96 : decode cX10_findOrder 96 = .ok (.iconst 0, 1) := by decide +kernel
theorem dX10_findOrder_97 : decode cX10_findOrder 97 = .ok (.istore 5, 2) := by decide +kernel
theorem dX10_findOrder_99 : decode cX10_findOrder 99 = .ok (.iload 5, 2) := by decide +kernel
theorem dX10_findOrder_101 : decode cX10_findOrder 101 = .ok (.iconst 2, 1) := by decide +kernel
theorem dX10_findOrder_102 : decode cX10_findOrder 102 = .ok (.if_icmp .ge 24, 3) := by decide +kernel
theorem dX10_findOrder_105 : decode cX10_findOrder 105 = .ok (.aload_n 0, 1) := by decide +kernel
theorem dX10_findOrder_106 : decode cX10_findOrder 106 = .ok (.iload 5, 2) := by decide +kernel
theorem dX10_findOrder_108 : decode cX10_findOrder 108 = .ok (.putfield 130, 3) := by decide +kernel
theorem dX10_findOrder_111 : decode cX10_findOrder 111 = .ok (.aload_n 0, 1) := by decide +kernel
theorem dX10_findOrder_112 : decode cX10_findOrder 112 = .ok (.invokevirtual 193, 3) := by decide +kernel
theorem dX10_findOrder_115 : decode cX10_findOrder 115 = .ok (.ifCond .eq 5, 3) := by decide +kernel
theorem dX10_findOrder_118 : decode cX10_findOrder 118 = .ok (.iconst 1, 1) := by decide +kernel
theorem dX10_findOrder_119 : decode cX10_findOrder 119 = .ok (.ireturn, 1) := by decide +kernel
theorem dX10_findOrder_120 : decode cX10_findOrder 120 = .ok (.iinc 5 1, 3) := by decide +kernel
theorem dX10_findOrder_123 : decode cX10_findOrder 123 = .ok (.goto (-24), 3) := by decide +kernel
theorem dX10_findOrder_126 : decode cX10_findOrder 126 = .ok (.iinc 3 1, 3) := by decide +kernel
theorem dX10_findOrder_129 : decode cX10_findOrder 129 = .ok (.goto (-77), 3) := by decide +kernel
theorem dX10_findOrder_132 : decode cX10_findOrder 132 = .ok (.aload_n 0, 1) := by decide +kernel
theorem dX10_findOrder_133 : decode cX10_findOrder 133 = .ok (.iload_n 1, 1) := by decide +kernel
theorem dX10_findOrder_134 : decode cX10_findOrder 134 = .ok (.putfield 130, 3) := by decide +kernel
theorem dX10_findOrder_137 : decode cX10_findOrder 137 = .ok (.iconst 0, 1) := by decide +kernel
theorem dX10_findOrder_138 : decode cX10_findOrder 138 = .ok (.istore_n 3, 1) := by decide +kernel
theorem dX10_findOrder_139 : decode cX10_findOrder 139 = .ok (.iload_n 3, 1) := by decide +kernel
theorem dX10_findOrder_140 : decode cX10_findOrder 140 = .ok (.aload_n 0, 1) := by decide +kernel
theorem dX10_findOrder_141 : decode cX10_findOrder 141 = .ok (.getfield 9, 3) := by decide +kernel
theorem dX10_findOrder_144 : decode cX10_findOrder 144 = .ok (.if_icmp .ge 21, 3) := by decide +kernel
theorem dX10_findOrder_147 : decode cX10_findOrder 147 = .ok (.aload_n 0, 1) := by decide +kernel
theorem dX10_findOrder_148 : decode cX10_findOrder 148 = .ok (.getfield 22, 3) := by decide +kernel
theorem dX10_findOrder_151 : decode cX10_findOrder 151 = .ok (.iload_n 3, 1) := by decide +kernel
theorem dX10_findOrder_152 : decode cX10_findOrder 152 = .ok (.aload_n 0, 1) := by decide +kernel
theorem dX10_findOrder_153 : decode cX10_findOrder 153 = .ok (.getfield 91, 3) := by decide +kernel
theorem dX10_findOrder_156 : decode cX10_findOrder 156 = .ok (.iload_n 3, 1) := by decide +kernel
theorem dX10_findOrder_157 : decode cX10_findOrder 157 = .ok (.iaload, 1) := by decide +kernel
theorem dX10_findOrder_158 : decode cX10_findOrder 158 = .ok (.iastore, 1) := by decide +kernel
theorem dX10_findOrder_159 : decode cX10_findOrder 159 = .ok (.iinc 3 1, 3) := by decide +kernel
theorem dX10_findOrder_162 : decode cX10_findOrder 162 = .ok (.goto (-23), 3) := by decide +kernel
theorem dX10_findOrder_165 : decode cX10_findOrder 165 = .ok (.bipush (-6), 2) := by decide +kernel
theorem dX10_findOrder_167 : decode cX10_findOrder 167 = .ok (.ireturn, 1) := by decide +kernel
theorem dX10_reachableLetters_0 : decode cX10_reachableLetters 0 = .ok (.aload_n 0, 1) := by decide +kernel
theorem dX10_reachableLetters_1 : decode cX10_reachableLetters 1 = .ok (.iload_n 1, 1) := by decide +kernel
theorem dX10_reachableLetters_2 : decode cX10_reachableLetters 2 = .ok (.invokevirtual 140, 3) := by decide +kernel
theorem dX10_reachableLetters_5 : decode cX10_reachableLetters 5 = .ok (.ifCond .ne 6, 3) := by decide +kernel
theorem dX10_reachableLetters_8 : decode cX10_reachableLetters 8 = .ok (.bipush (-2), 2) := by decide +kernel
theorem dX10_reachableLetters_10 : decode cX10_reachableLetters 10 = .ok (.ireturn, 1) := by decide +kernel
theorem dX10_reachableLetters_11 : decode cX10_reachableLetters 11 = .ok (.iconst 0, 1) := by decide +kernel
theorem dX10_reachableLetters_12 : decode cX10_reachableLetters 12 = .ok (.istore_n 2, 1) := by decide +kernel
theorem dX10_reachableLetters_13 : decode cX10_reachableLetters 13 = .ok (.iconst 1, 1) := by decide +kernel
theorem dX10_reachableLetters_14 : decode cX10_reachableLetters 14 = .ok (.istore_n 3, 1) := by decide +kernel
theorem dX10_reachableLetters_15 : decode cX10_reachableLetters 15 = .ok (.iload_n 3, 1) := by decide +kernel
theorem dX10_reachableLetters_16 : decode cX10_reachableLetters 16 = .ok (.ifCond .eq 156, 3) := by decide +kernel
theorem dX10_reachableLetters_19 : decode cX10_reachableLetters 19 = .ok (.iload_n 2, 1) := by decide +kernel
theorem dX10_reachableLetters_20 : decode cX10_reachableLetters 20 = .ok (.istore 4, 2) := by decide +kernel
theorem dX10_reachableLetters_22 : decode cX10_reachableLetters 22 = .ok (.iconst 0, 1) := by decide +kernel
theorem dX10_reachableLetters_23 : decode cX10_reachableLetters 23 = .ok (.istore 5, 2) := by decide +kernel
theorem dX10_reachableLetters_25 : decode cX10_reachableLetters 25 = .ok (.iload 5, 2) := by decide +kernel
theorem dX10_reachableLetters_27 : decode cX10_reachableLetters 27 = .ok (.aload_n 0, 1) := by decide +kernel
theorem dX10_reachableLetters_28 : decode cX10_reachableLetters 28 = .ok (.getfield 119, 3) := by decide +kernel
theorem dX10_reachableLetters_31 : decode cX10_reachableLetters 31 = .ok (.if_icmp .ge 126, 3) := by decide +kernel
theorem dX10_reachableLetters_34 : decode cX10_reachableLetters 34 = .ok (.aload_n 0, 1) := by decide +kernel
theorem dX10_reachableLetters_35 : decode cX10_reachableLetters 35 = .ok (.iload 5, 2) := by decide +kernel
theorem dX10_reachableLetters_37 : decode cX10_reachableLetters 37 = .ok (.iconst 0, 1) := by decide +kernel
theorem dX10_reachableLetters_38 : decode cX10_reachableLetters 38 = .ok (.iload_n 1, 1) := by decide +kernel
theorem dX10_reachableLetters_39 : decode cX10_reachableLetters 39 = .ok (.invokevirtual 155, 3) := by decide +kernel
theorem dX10_reachableLetters_42 : decode cX10_reachableLetters 42 = .ok (.ifCond .le 7, 3) := by decide +kernel
theorem dX10_reachableLetters_45 : decode cX10_reachableLetters 45 = .ok (.iconst 1, 1) := by decide +kernel
theorem dX10_reachableLetters_46 : decode cX10_reachableLetters 46 = .ok (.goto 4, 3) := by decide +kernel
theorem dX10_reachableLetters_49 : decode cX10_reachableLetters 49 = .ok (.iconst 0, 1) := by decide +kernel
theorem dX10_reachableLetters_50 : decode cX10_reachableLetters 50 = .ok (.istore 6, 2) := by decide +kernel
theorem dX10_reachableLetters_52 : decode cX10_reachableLetters 52 = .ok (.iconst 0, 1) := by decide +kernel
theorem dX10_reachableLetters_53 : decode cX10_reachableLetters 53 = .ok (.istore 7, 2) := by decide +kernel
theorem dX10_reachableLetters_55 : decode cX10_reachableLetters 55 = .ok (.iload 7, 2) := by decide +kernel
theorem dX10_reachableLetters_57 : decode cX10_reachableLetters 57 = .ok (.aload_n 0, 1) := by decide +kernel
theorem dX10_reachableLetters_58 : decode cX10_reachableLetters 58 = .ok (.getfield 9, 3) := by decide +kernel
theorem dX10_reachableLetters_61 : decode cX10_reachableLetters 61 = .ok (.if_icmp .ge 44, 3) := by decide +kernel
theorem dX10_reachableLetters_64 : decode cX10_reachableLetters 64 = .ok (.iload 6, 2) := by decide +kernel
theorem dX10_reachableLetters_66 : decode cX10_reachableLetters 66 = .ok (.ifCond .ne 26, 3) := by decide +kernel
theorem dX10_reachableLetters_69 : decode cX10_reachableLetters 69 = .ok (.iload 4, 2) := by decide +kernel
theorem dX10_reachableLetters_71 : decode cX10_reachableLetters 71 = .ok (.iload 7, 2) := by decide +kernel
theorem dX10_reachableLetters_73 : decode cX10_reachableLetters 73 = .ok (.ishr, 1) := by decide +kernel
theorem dX10_reachableLetters_74 : decode cX10_reachableLetters 74 = .ok (.iconst 1, 1) := by decide +kernel
theorem dX10_reachableLetters_75 : decode cX10_reachableLetters 75 = .ok (.iand, 1) := by decide +kernel
theorem dX10_reachableLetters_76 : decode cX10_reachableLetters 76 = .ok (.iconst 1, 1) := by decide +kernel
theorem dX10_reachableLetters_77 : decode cX10_reachableLetters 77 = .ok (.if_icmp .ne 19, 3) := by decide +kernel
theorem dX10_reachableLetters_80 : decode cX10_reachableLetters 80 = .ok (.aload_n 0, 1) := by decide +kernel
theorem dX10_reachableLetters_81 : decode cX10_reachableLetters 81 = .ok (.iload 5, 2) := by decide +kernel
theorem dX10_reachableLetters_83 : decode cX10_reachableLetters 83 = .ok (.iconst 0, 1) := by decide +kernel
theorem dX10_reachableLetters_84 : decode cX10_reachableLetters 84 = .ok (.iload 7, 2) := by decide +kernel
theorem dX10_reachableLetters_86 : decode cX10_reachableLetters 86 = .ok (.invokevirtual 155, 3) := by decide +kernel
theorem dX10_reachableLetters_89 : decode cX10_reachableLetters 89 = .ok (.ifCond .le 7, 3) := by decide +kernel
theorem dX10_reachableLetters_92 : decode cX10_reachableLetters 92 = .ok (.iconst 1, 1) := by decide +kernel
theorem dX10_reachableLetters_93 : decode cX10_reachableLetters 93 = .ok (.goto 4, 3) := by decide +kernel
theorem dX10_reachableLetters_96 : decode cX10_reachableLetters 96 = .ok (.iconst 0, 1) := by decide +kernel
theorem dX10_reachableLetters_97 : decode cX10_reachableLetters 97 = .ok (.istore 6, 2) := by decide +kernel
theorem dX10_reachableLetters_99 : decode cX10_reachableLetters 99 = .ok (.iinc 7 1, 3) := by decide +kernel
theorem dX10_reachableLetters_102 : decode cX10_reachableLetters 102 = .ok (.goto (-47), 3) := by decide +kernel
theorem dX10_reachableLetters_105 : decode cX10_reachableLetters 105 = .ok (.iconst 0, 1) := by decide +kernel
theorem dX10_reachableLetters_106 : decode cX10_reachableLetters 106 = .ok (.istore 7, 2) := by decide +kernel
theorem dX10_reachableLetters_108 : decode cX10_reachableLetters 108 = .ok (.iload 7, 2) := by decide +kernel
theorem dX10_reachableLetters_110 : decode cX10_reachableLetters 110 = .ok (.aload_n 0, 1) := by decide +kernel
theorem dX10_reachableLetters_111 : decode cX10_reachableLetters 111 = .ok (.getfield 9, 3) := by decide +kernel
theorem dX10_reachableLetters_114 : decode cX10_reachableLetters 114 = .ok (.if_icmp .ge 37, 3) := by decide +kernel
theorem dX10_reachableLetters_117 : decode cX10_reachableLetters 117 = .ok (.iload 6, 2) := by decide +kernel
theorem dX10_reachableLetters_119 : decode cX10_reachableLetters 119 = .ok (.ifCond .eq 32, 3) := by decide +kernel
theorem dX10_reachableLetters_122 : decode cX10_reachableLetters 122 = .ok (.iload_n 2, 1) := by decide +kernel
theorem dX10_reachableLetters_123 : decode cX10_reachableLetters 123 = .ok (.aload_n 0, 1) := by decide +kernel
theorem dX10_reachableLetters_124 : decode cX10_reachableLetters 124 = .ok (.iload 5, 2) := by decide +kernel
theorem dX10_reachableLetters_126 : decode cX10_reachableLetters 126 = .ok (.iconst 1, 1) := by decide +kernel
theorem dX10_reachableLetters_127 : decode cX10_reachableLetters 127 = .ok (.iload 7, 2) := by decide +kernel
theorem dX10_reachableLetters_129 : decode cX10_reachableLetters 129 = .ok (.invokevirtual 155, 3) := by decide +kernel
theorem dX10_reachableLetters_132 : decode cX10_reachableLetters 132 = .ok (.ifCond .le 10, 3) := by decide +kernel
theorem dX10_reachableLetters_135 : decode cX10_reachableLetters 135 = .ok (.iconst 1, 1) := by decide +kernel
theorem dX10_reachableLetters_136 : decode cX10_reachableLetters 136 = .ok (.iload 7, 2) := by decide +kernel
theorem dX10_reachableLetters_138 : decode cX10_reachableLetters 138 = .ok (.ishl, 1) := by decide +kernel
theorem dX10_reachableLetters_139 : decode cX10_reachableLetters 139 = .ok (.goto 4, 3) := by decide +kernel
theorem dX10_reachableLetters_142 : decode cX10_reachableLetters 142 = .ok (.iconst 0, 1) := by decide +kernel
theorem dX10_reachableLetters_143 : decode cX10_reachableLetters 143 = .ok (.ior, 1) := by decide +kernel
theorem dX10_reachableLetters_144 : decode cX10_reachableLetters 144 = .ok (.istore_n 2, 1) := by decide +kernel
theorem dX10_reachableLetters_145 : decode cX10_reachableLetters 145 = .ok (.iinc 7 1, 3) := by decide +kernel
theorem dX10_reachableLetters_148 : decode cX10_reachableLetters 148 = .ok (.goto (-40), 3) := by decide +kernel
theorem dX10_reachableLetters_151 : decode cX10_reachableLetters 151 = .ok (.iinc 5 1, 3) := by decide +kernel
theorem dX10_reachableLetters_154 : decode cX10_reachableLetters 154 = .ok (.goto (-129), 3) := by decide +kernel
theorem dX10_reachableLetters_157 : decode cX10_reachableLetters 157 = .ok (.iload_n 2, 1) := by decide +kernel
theorem dX10_reachableLetters_158 : decode cX10_reachableLetters 158 = .ok (.iload 4, 2) := by decide +kernel
theorem dX10_reachableLetters_160 : decode cX10_reachableLetters 160 = .ok (.if_icmp .eq 7, 3) := by decide +kernel
theorem dX10_reachableLetters_163 : decode cX10_reachableLetters 163 = .ok (.iconst 1, 1) := by decide +kernel
theorem dX10_reachableLetters_164 : decode cX10_reachableLetters 164 = .ok (.goto 4, 3) := by decide +kernel
theorem dX10_reachableLetters_167 : decode cX10_reachableLetters 167 = .ok (.iconst 0, 1) := by decide +kernel
theorem dX10_reachableLetters_168 : decode cX10_reachableLetters 168 = .ok (.istore_n 3, 1) := by decide +kernel
theorem dX10_reachableLetters_169 : decode cX10_reachableLetters 169 = .ok (.goto (-154), 3) := by decide +kernel
theorem dX10_reachableLetters_172 : decode cX10_reachableLetters 172 = .ok (.iload_n 2, 1) := by decide +kernel
theorem dX10_reachableLetters_173 : decode cX10_reachableLetters 173 = .ok (.ireturn, 1) := by decide +kernel
theorem dX10_setString_0 : decode cX10_setString 0 = .ok (.aload_n 0, 1) := by decide +kernel
theorem dX10_setString_1 : decode cX10_setString 1 = .ok (.invokevirtual 177, 3) := by decide +kernel
theorem dX10_setString_4 : decode cX10_setString 4 = .ok (.istore_n 1, 1) := by decide +kernel
theorem dX10_setString_5 : decode cX10_setString 5 = .ok (.iload_n 1, 1) := by decide +kernel
theorem dX10_setString_6 : decode cX10_setString 6 = .ok (.iconst (-1), 1) := by decide +kernel
theorem dX10_setString_7 : decode cX10_setString 7 = .ok (.if_icmp .ne 6, 3) := by decide +kernel
theorem dX10_setString_10 : decode cX10_setString 10 = .ok (.bipush (-5), 2) := by decide +kernel
theorem dX10_setString_12 : decode cX10_setString 12 = .ok (.ireturn, 1) := by decide +kernel
theorem dX10_setString_13 : decode cX10_setString 13 = .ok (.iconst 0, 1) := by decide +kernel
theorem dX10_setString_14 : decode cX10_setString 14 = .ok (.istore_n 2, 1) := by decide +kernel
theorem dX10_setString_15 : decode cX10_setString 15 = .ok (.iload_n 2, 1) := by decide +kernel
theorem dX10_setString_16 : decode cX10_setString 16 = .ok (.iload_n 1, 1) := by decide +kernel
theorem dX10_setString_17 : decode cX10_setString 17 = .ok (.if_icmp .ge 24, 3) := by decide +kernel
theorem dX10_setString_20 : decode cX10_setString 20 = .ok (.aload_n 0, 1) := by decide +kernel
theorem dX10_setString_21 : decode cX10_setString 21 = .ok (.getfield 35, 3) := by decide +kernel
theorem dX10_setString_24 : decode cX10_setString 24 = .ok (.iload_n 2, 1) := by decide +kernel
theorem dX10_setString_25 : decode cX10_setString 25 = .ok (.aload_n 0, 1) := by decide +kernel
theorem dX10_setString_26 : decode cX10_setString 26 = .ok (.getfield 32, 3) := by decide +kernel
theorem dX10_setString_29 : decode cX10_setString 29 = .ok (.iload_n 2, 1) := by decide +kernel
theorem dX10_setString_30 : decode cX10_setString 30 = .ok (.iaload, 1) := by decide +kernel
theorem dX10_setString_31 : decode cX10_setString 31 = .ok (.bipush 97, 2) := by decide +kernel
theorem dX10_setString_33 : decode cX10_setString 33 = .ok (.isub, 1) := by decide +kernel
theorem dX10_setString_34 : decode cX10_setString 34 = .ok (.iastore, 1) := by decide +kernel
theorem dX10_setString_35 : decode cX10_setString 35 = .ok (.iinc 2 1, 3) := by decide +kernel
theorem dX10_setString_38 : decode cX10_setString 38 = .ok (.goto (-23), 3) := by decide +kernel
theorem dX10_setString_41 : decode cX10_setString 41 = .ok (.aload_n 0, 1) := by decide +kernel
theorem dX10_setString_42 : decode cX10_setString 42 = .ok (.iload_n 1, 1) := by decide +kernel
theorem dX10_setString_43 : decode cX10_setString 43 = .ok (.putfield 124, 3) := by decide +kernel
theorem dX10_setString_46 : decode cX10_setString 46 = .ok (.aload_n 0, 1) := by decide +kernel
theorem dX10_setString_47 : decode cX10_setString 47 = .ok (.getfield 124, 3) := by decide +kernel
theorem dX10_setString_50 : decode cX10_setString 50 = .ok (.ireturn, 1) := by decide +kernel
theorem dX10_stringLength_0 : decode cX10_stringLength 0 = .ok (.aload_n 0, 1) := by decide +kernel
theorem dX10_stringLength_1 : decode cX10_stringLength 1 = .ok (.getfield 124, 3) := by decide +kernel
theorem dX10_stringLength_4 : decode cX10_stringLength 4 = .ok (.ireturn, 1) := by decide +kernel
theorem dX10_stringLetter_0 : decode cX10_stringLetter 0 = .ok (.iload_n 1, 1) := by decide +kernel
theorem dX10_stringLetter_1 : decode cX10_stringLetter 1 = .ok (.i2l, 1) := by decide +kernel
theorem dX10_stringLetter_2 : decode cX10_stringLetter 2 = .ok (.lconst 0, 1) := by decide +kernel
theorem dX10_stringLetter_3 : decode cX10_stringLetter 3 = .ok (.aload_n 0, 1) := by decide +kernel
theorem dX10_stringLetter_4 : decode cX10_stringLetter 4 = .ok (.getfield 124, 3) := by decide +kernel
theorem dX10_stringLetter_7 : decode cX10_stringLetter 7 = .ok (.iconst 1, 1) := by decide +kernel
theorem dX10_stringLetter_8 : decode cX10_stringLetter 8 = .ok (.isub, 1) := by decide +kernel
theorem dX10_stringLetter_9 : decode cX10_stringLetter 9 = .ok (.i2l, 1) := by decide +kernel
theorem dX10_stringLetter_10 : decode cX10_stringLetter 10 = .ok (.invokestatic 115, 3) := by decide +kernel
theorem dX10_stringLetter_13 : decode cX10_stringLetter 13 = .ok (.ifCond .eq 12, 3) := by decide +kernel
theorem dX10_stringLetter_16 : decode cX10_stringLetter 16 = .ok (.aload_n 0, 1) := by decide +kernel
theorem dX10_stringLetter_17 : decode cX10_stringLetter 17 = .ok (.getfield 35, 3) := by decide +kernel
theorem dX10_stringLetter_20 : decode cX10_stringLetter 20 = .ok (.iload_n 1, 1) := by decide +kernel
theorem dX10_stringLetter_21 : decode cX10_stringLetter 21 = .ok (.iaload, 1) := by decide +kernel
theorem dX10_stringLetter_22 : decode cX10_stringLetter 22 = .ok (.goto 5, 3) := by decide +kernel
theorem dX10_stringLetter_25 : decode cX10_stringLetter 25 = .ok (.bipush (-6), 2) := by decide +kernel
theorem dX10_stringLetter_27 : decode cX10_stringLetter 27 = .ok (.ireturn, 1) := by decide +kernel
theorem dX10_stringWeight_0 : decode cX10_stringWeight 0 = .ok (.iconst 0, 1) := by decide +kernel
theorem dX10_stringWeight_1 : decode cX10_stringWeight 1 = .ok (.istore_n 1, 1) := by decide +kernel
theorem dX10_stringWeight_2 : decode cX10_stringWeight 2 = .ok (.iconst 0, 1) := by decide +kernel
theorem dX10_stringWeight_3 : decode cX10_stringWeight 3 = .ok (.istore_n 2, 1) := by decide +kernel
theorem dX10_stringWeight_4 : decode cX10_stringWeight 4 = .ok (.iload_n 2, 1) := by decide +kernel
theorem dX10_stringWeight_5 : decode cX10_stringWeight 5 = .ok (.aload_n 0, 1) := by decide +kernel
theorem dX10_stringWeight_6 : decode cX10_stringWeight 6 = .ok (.getfield 124, 3) := by decide +kernel
theorem dX10_stringWeight_9 : decode cX10_stringWeight 9 = .ok (.if_icmp .ge 23, 3) := by decide +kernel
theorem dX10_stringWeight_12 : decode cX10_stringWeight 12 = .ok (.iload_n 1, 1) := by decide +kernel
theorem dX10_stringWeight_13 : decode cX10_stringWeight 13 = .ok (.aload_n 0, 1) := by decide +kernel
theorem dX10_stringWeight_14 : decode cX10_stringWeight 14 = .ok (.getfield 22, 3) := by decide +kernel
theorem dX10_stringWeight_17 : decode cX10_stringWeight 17 = .ok (.aload_n 0, 1) := by decide +kernel
theorem dX10_stringWeight_18 : decode cX10_stringWeight 18 = .ok (.getfield 35, 3) := by decide +kernel
theorem dX10_stringWeight_21 : decode cX10_stringWeight 21 = .ok (.iload_n 2, 1) := by decide +kernel
theorem dX10_stringWeight_22 : decode cX10_stringWeight 22 = .ok (.iaload, 1) := by decide +kernel
theorem dX10_stringWeight_23 : decode cX10_stringWeight 23 = .ok (.iaload, 1) := by decide +kernel
theorem dX10_stringWeight_24 : decode cX10_stringWeight 24 = .ok (.iadd, 1) := by decide +kernel
theorem dX10_stringWeight_25 : decode cX10_stringWeight 25 = .ok (.istore_n 1, 1) := by decide +kernel
theorem dX10_stringWeight_26 : decode cX10_stringWeight 26 = .ok (.iinc 2 1, 3) := by decide +kernel
theorem dX10_stringWeight_29 : decode cX10_stringWeight 29 = .ok (.goto (-25), 3) := by decide +kernel
theorem dX10_stringWeight_32 : decode cX10_stringWeight 32 = .ok (.iload_n 1, 1) := by decide +kernel
theorem dX10_stringWeight_33 : decode cX10_stringWeight 33 = .ok (.ireturn, 1) := by decide +kernel
theorem dX10_sizeOf_0 : decode cX10_sizeOf 0 = .ok (.iconst 0, 1) := by decide +kernel
theorem dX10_sizeOf_1 : decode cX10_sizeOf 1 = .ok (.istore_n 2, 1) := by decide +kernel
theorem dX10_sizeOf_2 : decode cX10_sizeOf 2 = .ok (.lload_n 0, 1) := by decide +kernel
theorem dX10_sizeOf_3 : decode cX10_sizeOf 3 = .ok (.lstore_n 3, 1) := by decide +kernel
theorem dX10_sizeOf_4 : decode cX10_sizeOf 4 = .ok (.lload_n 3, 1) := by decide +kernel
theorem dX10_sizeOf_5 : decode cX10_sizeOf 5 = .ok (.lconst 0, 1) := by decide +kernel
theorem dX10_sizeOf_6 : decode cX10_sizeOf 6 = .ok (.lcmp, 1) := by decide +kernel
theorem dX10_sizeOf_7 : decode cX10_sizeOf 7 = .ok (.ifCond .le 13, 3) := by decide +kernel
theorem dX10_sizeOf_10 : decode cX10_sizeOf 10 = .ok (.iinc 2 1, 3) := by decide +kernel
theorem dX10_sizeOf_13 : decode cX10_sizeOf 13 = .ok (.lload_n 3, 1) := by decide +kernel
theorem dX10_sizeOf_14 : decode cX10_sizeOf 14 = .ok (.iconst 3, 1) := by decide +kernel
theorem dX10_sizeOf_15 : decode cX10_sizeOf 15 = .ok (.lshr, 1) := by decide +kernel
theorem dX10_sizeOf_16 : decode cX10_sizeOf 16 = .ok (.lstore_n 3, 1) := by decide +kernel
theorem dX10_sizeOf_17 : decode cX10_sizeOf 17 = .ok (.goto (-13), 3) := by decide +kernel
theorem dX10_sizeOf_20 : decode cX10_sizeOf 20 = .ok (.iload_n 2, 1) := by decide +kernel
theorem dX10_sizeOf_21 : decode cX10_sizeOf 21 = .ok (.ireturn, 1) := by decide +kernel
theorem dX10_letterOf_0 : decode cX10_letterOf 0 = .ok (.lload_n 0, 1) := by decide +kernel
theorem dX10_letterOf_1 : decode cX10_letterOf 1 = .ok (.iconst 3, 1) := by decide +kernel
theorem dX10_letterOf_2 : decode cX10_letterOf 2 = .ok (.iload_n 2, 1) := by decide +kernel
theorem dX10_letterOf_3 : decode cX10_letterOf 3 = .ok (.iconst 1, 1) := by decide +kernel
theorem dX10_letterOf_4 : decode cX10_letterOf 4 = .ok (.isub, 1) := by decide +kernel
theorem dX10_letterOf_5 : decode cX10_letterOf 5 = .ok (.iload_n 3, 1) := by decide +kernel
theorem dX10_letterOf_6 : decode cX10_letterOf 6 = .ok (.isub, 1) := by decide +kernel
theorem dX10_letterOf_7 : decode cX10_letterOf 7 = .ok (.imul, 1) := by decide +kernel
theorem dX10_letterOf_8 : decode cX10_letterOf 8 = .ok (.lshr, 1) := by decide +kernel
theorem dX10_letterOf_9 : decode cX10_letterOf 9 = .ok (.ldc2_w 196, 3) := by decide +kernel
theorem dX10_letterOf_12 : decode cX10_letterOf 12 = .ok (.land, 1) := by decide +kernel
theorem dX10_letterOf_13 : decode cX10_letterOf 13 = .ok (.l2i, 1) := by decide +kernel
theorem dX10_letterOf_14 : decode cX10_letterOf 14 = .ok (.iconst 1, 1) := by decide +kernel
theorem dX10_letterOf_15 : decode cX10_letterOf 15 = .ok (.isub, 1) := by decide +kernel
theorem dX10_letterOf_16 : decode cX10_letterOf 16 = .ok (.ireturn, 1) := by decide +kernel
theorem dX10_with_0 : decode cX10_with 0 = .ok (.ldc2_w 198, 3) := by decide +kernel
theorem dX10_with_3 : decode cX10_with 3 = .ok (.lload_n 0, 1) := by decide +kernel
theorem dX10_with_4 : decode cX10_with 4 = .ok (.lmul, 1) := by decide +kernel
theorem dX10_with_5 : decode cX10_with 5 = .ok (.iload_n 2, 1) := by decide +kernel
theorem dX10_with_6 : decode cX10_with 6 = .ok (.i2l, 1) := by decide +kernel
theorem dX10_with_7 : decode cX10_with 7 = .ok (.ladd, 1) := by decide +kernel
theorem dX10_with_8 : decode cX10_with 8 = .ok (.lconst 1, 1) := by decide +kernel
theorem dX10_with_9 : decode cX10_with 9 = .ok (.ladd, 1) := by decide +kernel
theorem dX10_with_10 : decode cX10_with 10 = .ok (.lreturn, 1) := by decide +kernel
theorem dX10_stands_0 : decode cX10_stands 0 = .ok (.aload_n 0, 1) := by decide +kernel
theorem dX10_stands_1 : decode cX10_stands 1 = .ok (.getfield 15, 3) := by decide +kernel
theorem dX10_stands_4 : decode cX10_stands 4 = .ok (.iconst 2, 1) := by decide +kernel
theorem dX10_stands_5 : decode cX10_stands 5 = .ok (.iload 4, 2) := by decide +kernel
theorem dX10_stands_7 : decode cX10_stands 7 = .ok (.imul, 1) := by decide +kernel
theorem dX10_stands_8 : decode cX10_stands 8 = .ok (.iaload, 1) := by decide +kernel
theorem dX10_stands_9 : decode cX10_stands 9 = .ok (.istore 6, 2) := by decide +kernel
theorem dX10_stands_11 : decode cX10_stands 11 = .ok (.iload 5, 2) := by decide +kernel
theorem dX10_stands_13 : decode cX10_stands 13 = .ok (.i2l, 1) := by decide +kernel
theorem dX10_stands_14 : decode cX10_stands 14 = .ok (.lconst 0, 1) := by decide +kernel
theorem dX10_stands_15 : decode cX10_stands 15 = .ok (.iload_n 3, 1) := by decide +kernel
theorem dX10_stands_16 : decode cX10_stands 16 = .ok (.iload 6, 2) := by decide +kernel
theorem dX10_stands_18 : decode cX10_stands 18 = .ok (.isub, 1) := by decide +kernel
theorem dX10_stands_19 : decode cX10_stands 19 = .ok (.i2l, 1) := by decide +kernel
theorem dX10_stands_20 : decode cX10_stands 20 = .ok (.invokestatic 115, 3) := by decide +kernel
theorem dX10_stands_23 : decode cX10_stands 23 = .ok (.istore 7, 2) := by decide +kernel
theorem dX10_stands_25 : decode cX10_stands 25 = .ok (.iconst 0, 1) := by decide +kernel
theorem dX10_stands_26 : decode cX10_stands 26 = .ok (.istore 8, 2) := by decide +kernel
theorem dX10_stands_28 : decode cX10_stands 28 = .ok (.iload 8, 2) := by decide +kernel
theorem dX10_stands_30 : decode cX10_stands 30 = .ok (.iload 6, 2) := by decide +kernel
theorem dX10_stands_32 : decode cX10_stands 32 = .ok (.if_icmp .ge 47, 3) := by decide +kernel
theorem dX10_stands_35 : decode cX10_stands 35 = .ok (.iload 7, 2) := by decide +kernel
theorem dX10_stands_37 : decode cX10_stands 37 = .ok (.ifCond .eq 42, 3) := by decide +kernel
theorem dX10_stands_40 : decode cX10_stands 40 = .ok (.lload_n 1, 1) := by decide +kernel
theorem dX10_stands_41 : decode cX10_stands 41 = .ok (.iload_n 3, 1) := by decide +kernel
theorem dX10_stands_42 : decode cX10_stands 42 = .ok (.iload 5, 2) := by decide +kernel
theorem dX10_stands_44 : decode cX10_stands 44 = .ok (.iload 8, 2) := by decide +kernel
theorem dX10_stands_46 : decode cX10_stands 46 = .ok (.iadd, 1) := by decide +kernel
theorem dX10_stands_47 : decode cX10_stands 47 = .ok (.invokestatic 200, 3) := by decide +kernel
theorem dX10_stands_50 : decode cX10_stands 50 = .ok (.aload_n 0, 1) := by decide +kernel
theorem dX10_stands_51 : decode cX10_stands 51 = .ok (.getfield 19, 3) := by decide +kernel
theorem dX10_stands_54 : decode cX10_stands 54 = .ok (.bipush 12, 2) := by decide +kernel
theorem dX10_stands_56 : decode cX10_stands 56 = .ok (.iload 4, 2) := by decide +kernel
theorem dX10_stands_58 : decode cX10_stands 58 = .ok (.imul, 1) := by decide +kernel
theorem dX10_stands_59 : decode cX10_stands 59 = .ok (.iload 8, 2) := by decide +kernel
theorem dX10_stands_61 : decode cX10_stands 61 = .ok (.iadd, 1) := by decide +kernel
theorem dX10_stands_62 : decode cX10_stands 62 = .ok (.iaload, 1) := by decide +kernel
theorem dX10_stands_63 : decode cX10_stands 63 = .ok (.if_icmp .ne 7, 3) := by decide +kernel
theorem dX10_stands_66 : decode cX10_stands 66 = .ok (.iconst 1, 1) := by decide +kernel
theorem dX10_stands_67 : decode cX10_stands 67 = .ok (.goto 4, 3) := by decide +kernel
theorem dX10_stands_70 : decode cX10_stands 70 = .ok (.iconst 0, 1) := by decide +kernel
theorem dX10_stands_71 : decode cX10_stands 71 = .ok (.istore 7, 2) := by decide +kernel
theorem dX10_stands_73 : decode cX10_stands 73 = .ok (.iinc 8 1, 3) := by decide +kernel
theorem dX10_stands_76 : decode cX10_stands 76 = .ok (.goto (-48), 3) := by decide +kernel
theorem dX10_stands_79 : decode cX10_stands 79 = .ok (.iload 7, 2) := by decide +kernel
theorem dX10_stands_81 : decode cX10_stands 81 = .ok (.ireturn, 1) := by decide +kernel
theorem dX10_stepped_0 : decode cX10_stepped 0 = .ok (.lload_n 1, 1) := by decide +kernel
theorem dX10_stepped_1 : decode cX10_stepped 1 = .ok (.invokestatic 204, 3) := by decide +kernel
theorem dX10_stepped_4 : decode cX10_stepped 4 = .ok (.istore 5, 2) := by decide +kernel
theorem dX10_stepped_6 : decode cX10_stepped 6 = .ok (.aload_n 0, 1) := by decide +kernel
theorem dX10_stepped_7 : decode cX10_stepped 7 = .ok (.getfield 15, 3) := by decide +kernel
theorem dX10_stepped_10 : decode cX10_stepped 10 = .ok (.iconst 2, 1) := by decide +kernel
theorem dX10_stepped_11 : decode cX10_stepped 11 = .ok (.iload_n 3, 1) := by decide +kernel
theorem dX10_stepped_12 : decode cX10_stepped 12 = .ok (.imul, 1) := by decide +kernel
theorem dX10_stepped_13 : decode cX10_stepped 13 = .ok (.iaload, 1) := by decide +kernel
theorem dX10_stepped_14 : decode cX10_stepped 14 = .ok (.istore 6, 2) := by decide +kernel
theorem dX10_stepped_16 : decode cX10_stepped 16 = .ok (.aload_n 0, 1) := by decide +kernel
theorem dX10_stepped_17 : decode cX10_stepped 17 = .ok (.getfield 15, 3) := by decide +kernel
theorem dX10_stepped_20 : decode cX10_stepped 20 = .ok (.iconst 2, 1) := by decide +kernel
theorem dX10_stepped_21 : decode cX10_stepped 21 = .ok (.iload_n 3, 1) := by decide +kernel
theorem dX10_stepped_22 : decode cX10_stepped 22 = .ok (.imul, 1) := by decide +kernel
theorem dX10_stepped_23 : decode cX10_stepped 23 = .ok (.iconst 1, 1) := by decide +kernel
theorem dX10_stepped_24 : decode cX10_stepped 24 = .ok (.iadd, 1) := by decide +kernel
theorem dX10_stepped_25 : decode cX10_stepped 25 = .ok (.iaload, 1) := by decide +kernel
theorem dX10_stepped_26 : decode cX10_stepped 26 = .ok (.istore 7, 2) := by decide +kernel
theorem dX10_stepped_28 : decode cX10_stepped 28 = .ok (.aload_n 0, 1) := by decide +kernel
theorem dX10_stepped_29 : decode cX10_stepped 29 = .ok (.lload_n 1, 1) := by decide +kernel
theorem dX10_stepped_30 : decode cX10_stepped 30 = .ok (.iload 5, 2) := by decide +kernel
theorem dX10_stepped_32 : decode cX10_stepped 32 = .ok (.iload_n 3, 1) := by decide +kernel
theorem dX10_stepped_33 : decode cX10_stepped 33 = .ok (.iload 4, 2) := by decide +kernel
theorem dX10_stepped_35 : decode cX10_stepped 35 = .ok (.invokevirtual 208, 3) := by decide +kernel
theorem dX10_stepped_38 : decode cX10_stepped 38 = .ok (.ifCond .eq 16, 3) := by decide +kernel
theorem dX10_stepped_41 : decode cX10_stepped 41 = .ok (.iload 5, 2) := by decide +kernel
theorem dX10_stepped_43 : decode cX10_stepped 43 = .ok (.iload 6, 2) := by decide +kernel
theorem dX10_stepped_45 : decode cX10_stepped 45 = .ok (.isub, 1) := by decide +kernel
theorem dX10_stepped_46 : decode cX10_stepped 46 = .ok (.iload 7, 2) := by decide +kernel
theorem dX10_stepped_48 : decode cX10_stepped 48 = .ok (.iadd, 1) := by decide +kernel
theorem dX10_stepped_49 : decode cX10_stepped 49 = .ok (.bipush 12, 2) := by decide +kernel
theorem dX10_stepped_51 : decode cX10_stepped 51 = .ok (.if_icmp .le 7, 3) := by decide +kernel
theorem dX10_stepped_54 : decode cX10_stepped 54 = .ok (.ldc2_w 212, 3) := by decide +kernel
theorem dX10_stepped_57 : decode cX10_stepped 57 = .ok (.lreturn, 1) := by decide +kernel
theorem dX10_stepped_58 : decode cX10_stepped 58 = .ok (.lconst 0, 1) := by decide +kernel
theorem dX10_stepped_59 : decode cX10_stepped 59 = .ok (.lstore 8, 2) := by decide +kernel
theorem dX10_stepped_61 : decode cX10_stepped 61 = .ok (.iconst 0, 1) := by decide +kernel
theorem dX10_stepped_62 : decode cX10_stepped 62 = .ok (.istore 10, 2) := by decide +kernel
theorem dX10_stepped_64 : decode cX10_stepped 64 = .ok (.iload 10, 2) := by decide +kernel
theorem dX10_stepped_66 : decode cX10_stepped 66 = .ok (.iload 4, 2) := by decide +kernel
theorem dX10_stepped_68 : decode cX10_stepped 68 = .ok (.if_icmp .ge 24, 3) := by decide +kernel
theorem dX10_stepped_71 : decode cX10_stepped 71 = .ok (.lload 8, 2) := by decide +kernel
theorem dX10_stepped_73 : decode cX10_stepped 73 = .ok (.lload_n 1, 1) := by decide +kernel
theorem dX10_stepped_74 : decode cX10_stepped 74 = .ok (.iload 5, 2) := by decide +kernel
theorem dX10_stepped_76 : decode cX10_stepped 76 = .ok (.iload 10, 2) := by decide +kernel
theorem dX10_stepped_78 : decode cX10_stepped 78 = .ok (.invokestatic 200, 3) := by decide +kernel
theorem dX10_stepped_81 : decode cX10_stepped 81 = .ok (.invokestatic 214, 3) := by decide +kernel
theorem dX10_stepped_84 : decode cX10_stepped 84 = .ok (.lstore 8, 2) := by decide +kernel
theorem dX10_stepped_86 : decode cX10_stepped 86 = .ok (.iinc 10 1, 3) := by decide +kernel
theorem dX10_stepped_89 : decode cX10_stepped 89 = .ok (.goto (-25), 3) := by decide +kernel
theorem dX10_stepped_92 : decode cX10_stepped 92 = .ok (.iconst 0, 1) := by decide +kernel
theorem dX10_stepped_93 : decode cX10_stepped 93 = .ok (.istore 10, 2) := by decide +kernel
theorem dX10_stepped_95 : decode cX10_stepped 95 = .ok (.iload 10, 2) := by decide +kernel
theorem dX10_stepped_97 : decode cX10_stepped 97 = .ok (.iload 7, 2) := by decide +kernel
theorem dX10_stepped_99 : decode cX10_stepped 99 = .ok (.if_icmp .ge 31, 3) := by decide +kernel
theorem dX10_stepped_102 : decode cX10_stepped 102 = .ok (.lload 8, 2) := by decide +kernel
theorem dX10_stepped_104 : decode cX10_stepped 104 = .ok (.aload_n 0, 1) := by decide +kernel
theorem dX10_stepped_105 : decode cX10_stepped 105 = .ok (.getfield 19, 3) := by decide +kernel
theorem dX10_stepped_108 : decode cX10_stepped 108 = .ok (.bipush 12, 2) := by decide +kernel
theorem dX10_stepped_110 : decode cX10_stepped 110 = .ok (.iload_n 3, 1) := by decide +kernel
theorem dX10_stepped_111 : decode cX10_stepped 111 = .ok (.imul, 1) := by decide +kernel
theorem dX10_stepped_112 : decode cX10_stepped 112 = .ok (.bipush 6, 2) := by decide +kernel
theorem dX10_stepped_114 : decode cX10_stepped 114 = .ok (.iadd, 1) := by decide +kernel
theorem dX10_stepped_115 : decode cX10_stepped 115 = .ok (.iload 10, 2) := by decide +kernel
theorem dX10_stepped_117 : decode cX10_stepped 117 = .ok (.iadd, 1) := by decide +kernel
theorem dX10_stepped_118 : decode cX10_stepped 118 = .ok (.iaload, 1) := by decide +kernel
theorem dX10_stepped_119 : decode cX10_stepped 119 = .ok (.invokestatic 214, 3) := by decide +kernel
theorem dX10_stepped_122 : decode cX10_stepped 122 = .ok (.lstore 8, 2) := by decide +kernel
theorem dX10_stepped_124 : decode cX10_stepped 124 = .ok (.iinc 10 1, 3) := by decide +kernel
theorem dX10_stepped_127 : decode cX10_stepped 127 = .ok (.goto (-32), 3) := by decide +kernel
theorem dX10_stepped_130 : decode cX10_stepped 130 = .ok (.iload 4, 2) := by decide +kernel
theorem dX10_stepped_132 : decode cX10_stepped 132 = .ok (.iload 6, 2) := by decide +kernel
theorem dX10_stepped_134 : decode cX10_stepped 134 = .ok (.iadd, 1) := by decide +kernel
theorem dX10_stepped_135 : decode cX10_stepped 135 = .ok (.istore 10, 2) := by decide +kernel
theorem dX10_stepped_137 : decode cX10_stepped 137 = .ok (.iload 10, 2) := by decide +kernel
theorem dX10_stepped_139 : decode cX10_stepped 139 = .ok (.iload 5, 2) := by decide +kernel
theorem dX10_stepped_141 : decode cX10_stepped 141 = .ok (.if_icmp .ge 24, 3) := by decide +kernel
theorem dX10_stepped_144 : decode cX10_stepped 144 = .ok (.lload 8, 2) := by decide +kernel
theorem dX10_stepped_146 : decode cX10_stepped 146 = .ok (.lload_n 1, 1) := by decide +kernel
theorem dX10_stepped_147 : decode cX10_stepped 147 = .ok (.iload 5, 2) := by decide +kernel
theorem dX10_stepped_149 : decode cX10_stepped 149 = .ok (.iload 10, 2) := by decide +kernel
theorem dX10_stepped_151 : decode cX10_stepped 151 = .ok (.invokestatic 200, 3) := by decide +kernel
theorem dX10_stepped_154 : decode cX10_stepped 154 = .ok (.invokestatic 214, 3) := by decide +kernel
theorem dX10_stepped_157 : decode cX10_stepped 157 = .ok (.lstore 8, 2) := by decide +kernel
theorem dX10_stepped_159 : decode cX10_stepped 159 = .ok (.iinc 10 1, 3) := by decide +kernel
theorem dX10_stepped_162 : decode cX10_stepped 162 = .ok (.goto (-25), 3) := by decide +kernel
theorem dX10_stepped_165 : decode cX10_stepped 165 = .ok (.lload 8, 2) := by decide +kernel
theorem dX10_stepped_167 : decode cX10_stepped 167 = .ok (.lreturn, 1) := by decide +kernel
theorem dX10_current_0 : decode cX10_current 0 = .ok (.lconst 0, 1) := by decide +kernel
theorem dX10_current_1 : decode cX10_current 1 = .ok (.lstore_n 1, 1) := by decide +kernel
theorem dX10_current_2 : decode cX10_current 2 = .ok (.iconst 0, 1) := by decide +kernel
theorem dX10_current_3 : decode cX10_current 3 = .ok (.istore_n 3, 1) := by decide +kernel
theorem dX10_current_4 : decode cX10_current 4 = .ok (.iload_n 3, 1) := by decide +kernel
theorem dX10_current_5 : decode cX10_current 5 = .ok (.aload_n 0, 1) := by decide +kernel
theorem dX10_current_6 : decode cX10_current 6 = .ok (.getfield 124, 3) := by decide +kernel
theorem dX10_current_9 : decode cX10_current 9 = .ok (.if_icmp .ge 20, 3) := by decide +kernel
theorem dX10_current_12 : decode cX10_current 12 = .ok (.lload_n 1, 1) := by decide +kernel
theorem dX10_current_13 : decode cX10_current 13 = .ok (.aload_n 0, 1) := by decide +kernel
theorem dX10_current_14 : decode cX10_current 14 = .ok (.getfield 35, 3) := by decide +kernel
theorem dX10_current_17 : decode cX10_current 17 = .ok (.iload_n 3, 1) := by decide +kernel
theorem dX10_current_18 : decode cX10_current 18 = .ok (.iaload, 1) := by decide +kernel
theorem dX10_current_19 : decode cX10_current 19 = .ok (.invokestatic 214, 3) := by decide +kernel
theorem dX10_current_22 : decode cX10_current 22 = .ok (.lstore_n 1, 1) := by decide +kernel
theorem dX10_current_23 : decode cX10_current 23 = .ok (.iinc 3 1, 3) := by decide +kernel
theorem dX10_current_26 : decode cX10_current 26 = .ok (.goto (-22), 3) := by decide +kernel
theorem dX10_current_29 : decode cX10_current 29 = .ok (.lload_n 1, 1) := by decide +kernel
theorem dX10_current_30 : decode cX10_current 30 = .ok (.lreturn, 1) := by decide +kernel
theorem dX10_becomes_0 : decode cX10_becomes 0 = .ok (.aload_n 0, 1) := by decide +kernel
theorem dX10_becomes_1 : decode cX10_becomes 1 = .ok (.lload_n 1, 1) := by decide +kernel
theorem dX10_becomes_2 : decode cX10_becomes 2 = .ok (.invokestatic 204, 3) := by decide +kernel
theorem dX10_becomes_5 : decode cX10_becomes 5 = .ok (.putfield 124, 3) := by decide +kernel
theorem dX10_becomes_8 : decode cX10_becomes 8 = .ok (.iconst 0, 1) := by decide +kernel
theorem dX10_becomes_9 : decode cX10_becomes 9 = .ok (.istore_n 3, 1) := by decide +kernel
theorem dX10_becomes_10 : decode cX10_becomes 10 = .ok (.iload_n 3, 1) := by decide +kernel
theorem dX10_becomes_11 : decode cX10_becomes 11 = .ok (.aload_n 0, 1) := by decide +kernel
theorem dX10_becomes_12 : decode cX10_becomes 12 = .ok (.getfield 124, 3) := by decide +kernel
theorem dX10_becomes_15 : decode cX10_becomes 15 = .ok (.if_icmp .ge 24, 3) := by decide +kernel
theorem dX10_becomes_18 : decode cX10_becomes 18 = .ok (.aload_n 0, 1) := by decide +kernel
theorem dX10_becomes_19 : decode cX10_becomes 19 = .ok (.getfield 35, 3) := by decide +kernel
theorem dX10_becomes_22 : decode cX10_becomes 22 = .ok (.iload_n 3, 1) := by decide +kernel
theorem dX10_becomes_23 : decode cX10_becomes 23 = .ok (.lload_n 1, 1) := by decide +kernel
theorem dX10_becomes_24 : decode cX10_becomes 24 = .ok (.aload_n 0, 1) := by decide +kernel
theorem dX10_becomes_25 : decode cX10_becomes 25 = .ok (.getfield 124, 3) := by decide +kernel
theorem dX10_becomes_28 : decode cX10_becomes 28 = .ok (.iload_n 3, 1) := by decide +kernel
theorem dX10_becomes_29 : decode cX10_becomes 29 = .ok (.invokestatic 200, 3) := by decide +kernel
theorem dX10_becomes_32 : decode cX10_becomes 32 = .ok (.iastore, 1) := by decide +kernel
theorem dX10_becomes_33 : decode cX10_becomes 33 = .ok (.iinc 3 1, 3) := by decide +kernel
theorem dX10_becomes_36 : decode cX10_becomes 36 = .ok (.goto (-26), 3) := by decide +kernel
theorem dX10_becomes_39 : decode cX10_becomes 39 = .ok (.return_, 1) := by decide +kernel
theorem dX10_rewrite_0 : decode cX10_rewrite 0 = .ok (.aload_n 0, 1) := by decide +kernel
theorem dX10_rewrite_1 : decode cX10_rewrite 1 = .ok (.iload_n 1, 1) := by decide +kernel
theorem dX10_rewrite_2 : decode cX10_rewrite 2 = .ok (.invokevirtual 152, 3) := by decide +kernel
theorem dX10_rewrite_5 : decode cX10_rewrite 5 = .ok (.ifCond .ne 6, 3) := by decide +kernel
theorem dX10_rewrite_8 : decode cX10_rewrite 8 = .ok (.bipush (-3), 2) := by decide +kernel
theorem dX10_rewrite_10 : decode cX10_rewrite 10 = .ok (.ireturn, 1) := by decide +kernel
theorem dX10_rewrite_11 : decode cX10_rewrite 11 = .ok (.aload_n 0, 1) := by decide +kernel
theorem dX10_rewrite_12 : decode cX10_rewrite 12 = .ok (.aload_n 0, 1) := by decide +kernel
theorem dX10_rewrite_13 : decode cX10_rewrite 13 = .ok (.invokevirtual 218, 3) := by decide +kernel
theorem dX10_rewrite_16 : decode cX10_rewrite 16 = .ok (.iload_n 1, 1) := by decide +kernel
theorem dX10_rewrite_17 : decode cX10_rewrite 17 = .ok (.iload_n 2, 1) := by decide +kernel
theorem dX10_rewrite_18 : decode cX10_rewrite 18 = .ok (.invokevirtual 222, 3) := by decide +kernel
theorem dX10_rewrite_21 : decode cX10_rewrite 21 = .ok (.lstore_n 3, 1) := by decide +kernel
theorem dX10_rewrite_22 : decode cX10_rewrite 22 = .ok (.lload_n 3, 1) := by decide +kernel
theorem dX10_rewrite_23 : decode cX10_rewrite 23 = .ok (.ldc2_w 212, 3) := by decide +kernel
theorem dX10_rewrite_26 : decode cX10_rewrite 26 = .ok (.lcmp, 1) := by decide +kernel
theorem dX10_rewrite_27 : decode cX10_rewrite 27 = .ok (.ifCond .ne 6, 3) := by decide +kernel
theorem dX10_rewrite_30 : decode cX10_rewrite 30 = .ok (.bipush (-9), 2) := by decide +kernel
theorem dX10_rewrite_32 : decode cX10_rewrite 32 = .ok (.ireturn, 1) := by decide +kernel
theorem dX10_rewrite_33 : decode cX10_rewrite 33 = .ok (.aload_n 0, 1) := by decide +kernel
theorem dX10_rewrite_34 : decode cX10_rewrite 34 = .ok (.lload_n 3, 1) := by decide +kernel
theorem dX10_rewrite_35 : decode cX10_rewrite 35 = .ok (.invokevirtual 226, 3) := by decide +kernel
theorem dX10_rewrite_38 : decode cX10_rewrite 38 = .ok (.aload_n 0, 1) := by decide +kernel
theorem dX10_rewrite_39 : decode cX10_rewrite 39 = .ok (.getfield 124, 3) := by decide +kernel
theorem dX10_rewrite_42 : decode cX10_rewrite 42 = .ok (.ireturn, 1) := by decide +kernel
theorem dX10_steps_0 : decode cX10_steps 0 = .ok (.aload_n 0, 1) := by decide +kernel
theorem dX10_steps_1 : decode cX10_steps 1 = .ok (.invokevirtual 218, 3) := by decide +kernel
theorem dX10_steps_4 : decode cX10_steps 4 = .ok (.lstore_n 1, 1) := by decide +kernel
theorem dX10_steps_5 : decode cX10_steps 5 = .ok (.iconst 0, 1) := by decide +kernel
theorem dX10_steps_6 : decode cX10_steps 6 = .ok (.istore_n 3, 1) := by decide +kernel
theorem dX10_steps_7 : decode cX10_steps 7 = .ok (.iload_n 3, 1) := by decide +kernel
theorem dX10_steps_8 : decode cX10_steps 8 = .ok (.aload_n 0, 1) := by decide +kernel
theorem dX10_steps_9 : decode cX10_steps 9 = .ok (.getfield 124, 3) := by decide +kernel
theorem dX10_steps_12 : decode cX10_steps 12 = .ok (.if_icmp .ge 54, 3) := by decide +kernel
theorem dX10_steps_15 : decode cX10_steps 15 = .ok (.iconst 0, 1) := by decide +kernel
theorem dX10_steps_16 : decode cX10_steps 16 = .ok (.istore 4, 2) := by decide +kernel
theorem dX10_steps_18 : decode cX10_steps 18 = .ok (.iload 4, 2) := by decide +kernel
theorem dX10_steps_20 : decode cX10_steps 20 = .ok (.aload_n 0, 1) := by decide +kernel
theorem dX10_steps_21 : decode cX10_steps 21 = .ok (.getfield 119, 3) := by decide +kernel
theorem dX10_steps_24 : decode cX10_steps 24 = .ok (.if_icmp .ge 36, 3) := by decide +kernel
theorem dX10_steps_27 : decode cX10_steps 27 = .ok (.aload_n 0, 1) := by decide +kernel
theorem dX10_steps_28 : decode cX10_steps 28 = .ok (.lload_n 1, 1) := by decide +kernel
theorem dX10_steps_29 : decode cX10_steps 29 = .ok (.iload 4, 2) := by decide +kernel
theorem dX10_steps_31 : decode cX10_steps 31 = .ok (.iload_n 3, 1) := by decide +kernel
theorem dX10_steps_32 : decode cX10_steps 32 = .ok (.invokevirtual 222, 3) := by decide +kernel
theorem dX10_steps_35 : decode cX10_steps 35 = .ok (.lstore 5, 2) := by decide +kernel
theorem dX10_steps_37 : decode cX10_steps 37 = .ok (.lload 5, 2) := by decide +kernel
theorem dX10_steps_39 : decode cX10_steps 39 = .ok (.ldc2_w 212, 3) := by decide +kernel
theorem dX10_steps_42 : decode cX10_steps 42 = .ok (.lcmp, 1) := by decide +kernel
theorem dX10_steps_43 : decode cX10_steps 43 = .ok (.ifCond .eq 11, 3) := by decide +kernel
theorem dX10_steps_46 : decode cX10_steps 46 = .ok (.aload_n 0, 1) := by decide +kernel
theorem dX10_steps_47 : decode cX10_steps 47 = .ok (.lload 5, 2) := by decide +kernel
theorem dX10_steps_49 : decode cX10_steps 49 = .ok (.invokevirtual 226, 3) := by decide +kernel
theorem dX10_steps_52 : decode cX10_steps 52 = .ok (.iconst 1, 1) := by decide +kernel
theorem dX10_steps_53 : decode cX10_steps 53 = .ok (.ireturn, 1) := by decide +kernel
theorem dX10_steps_54 : decode cX10_steps 54 = .ok (.iinc 4 1, 3) := by decide +kernel
theorem dX10_steps_57 : decode cX10_steps 57 = .ok (.goto (-39), 3) := by decide +kernel
theorem dX10_steps_60 : decode cX10_steps 60 = .ok (.iinc 3 1, 3) := by decide +kernel
theorem dX10_steps_63 : decode cX10_steps 63 = .ok (.goto (-56), 3) := by decide +kernel
theorem dX10_steps_66 : decode cX10_steps 66 = .ok (.iconst 0, 1) := by decide +kernel
theorem dX10_steps_67 : decode cX10_steps 67 = .ok (.ireturn, 1) := by decide +kernel
theorem dX10_normalize_0 : decode cX10_normalize 0 = .ok (.iload_n 1, 1) := by decide +kernel
theorem dX10_normalize_1 : decode cX10_normalize 1 = .ok (.i2l, 1) := by decide +kernel
theorem dX10_normalize_2 : decode cX10_normalize 2 = .ok (.lconst 0, 1) := by decide +kernel
theorem dX10_normalize_3 : decode cX10_normalize 3 = .ok (.ldc2_w 230, 3) := by decide +kernel
theorem dX10_normalize_6 : decode cX10_normalize 6 = .ok (.invokestatic 115, 3) := by decide +kernel
theorem dX10_normalize_9 : decode cX10_normalize 9 = .ok (.ifCond .ne 5, 3) := by decide +kernel
theorem dX10_normalize_12 : decode cX10_normalize 12 = .ok (.iconst (-1), 1) := by decide +kernel
theorem dX10_normalize_13 : decode cX10_normalize 13 = .ok (.ireturn, 1) := by decide +kernel
theorem dX10_normalize_14 : decode cX10_normalize 14 = .ok (.iconst 0, 1) := by decide +kernel
theorem dX10_normalize_15 : decode cX10_normalize 15 = .ok (.istore_n 2, 1) := by decide +kernel
theorem dX10_normalize_16 : decode cX10_normalize 16 = .ok (.iload_n 2, 1) := by decide +kernel
theorem dX10_normalize_17 : decode cX10_normalize 17 = .ok (.iload_n 1, 1) := by decide +kernel
theorem dX10_normalize_18 : decode cX10_normalize 18 = .ok (.if_icmp .ge 16, 3) := by decide +kernel
theorem dX10_normalize_21 : decode cX10_normalize 21 = .ok (.aload_n 0, 1) := by decide +kernel
theorem dX10_normalize_22 : decode cX10_normalize 22 = .ok (.invokevirtual 232, 3) := by decide +kernel
theorem dX10_normalize_25 : decode cX10_normalize 25 = .ok (.ifCond .eq 9, 3) := by decide +kernel
theorem dX10_normalize_28 : decode cX10_normalize 28 = .ok (.iinc 2 1, 3) := by decide +kernel
theorem dX10_normalize_31 : decode cX10_normalize 31 = .ok (.goto (-15), 3) := by decide +kernel
theorem dX10_normalize_34 : decode cX10_normalize 34 = .ok (.iload_n 2, 1) := by decide +kernel
theorem dX10_normalize_35 : decode cX10_normalize 35 = .ok (.ireturn, 1) := by decide +kernel
theorem dX10_placeOf_0 : decode cX10_placeOf 0 = .ok (.iconst 0, 1) := by decide +kernel
theorem dX10_placeOf_1 : decode cX10_placeOf 1 = .ok (.istore_n 3, 1) := by decide +kernel
theorem dX10_placeOf_2 : decode cX10_placeOf 2 = .ok (.iload_n 3, 1) := by decide +kernel
theorem dX10_placeOf_3 : decode cX10_placeOf 3 = .ok (.aload_n 0, 1) := by decide +kernel
theorem dX10_placeOf_4 : decode cX10_placeOf 4 = .ok (.getfield 235, 3) := by decide +kernel
theorem dX10_placeOf_7 : decode cX10_placeOf 7 = .ok (.if_icmp .ge 20, 3) := by decide +kernel
theorem dX10_placeOf_10 : decode cX10_placeOf 10 = .ok (.aload_n 0, 1) := by decide +kernel
theorem dX10_placeOf_11 : decode cX10_placeOf 11 = .ok (.getfield 94, 3) := by decide +kernel
theorem dX10_placeOf_14 : decode cX10_placeOf 14 = .ok (.iload_n 3, 1) := by decide +kernel
theorem dX10_placeOf_15 : decode cX10_placeOf 15 = .ok (.laload, 1) := by decide +kernel
theorem dX10_placeOf_16 : decode cX10_placeOf 16 = .ok (.lload_n 1, 1) := by decide +kernel
theorem dX10_placeOf_17 : decode cX10_placeOf 17 = .ok (.lcmp, 1) := by decide +kernel
theorem dX10_placeOf_18 : decode cX10_placeOf 18 = .ok (.ifCond .eq 9, 3) := by decide +kernel
theorem dX10_placeOf_21 : decode cX10_placeOf 21 = .ok (.iinc 3 1, 3) := by decide +kernel
theorem dX10_placeOf_24 : decode cX10_placeOf 24 = .ok (.goto (-22), 3) := by decide +kernel
theorem dX10_placeOf_27 : decode cX10_placeOf 27 = .ok (.iload_n 3, 1) := by decide +kernel
theorem dX10_placeOf_28 : decode cX10_placeOf 28 = .ok (.ireturn, 1) := by decide +kernel
theorem dX10_longestDerivation_0 : decode cX10_longestDerivation 0 = .ok (.aload_n 0, 1) := by decide +kernel
theorem dX10_longestDerivation_1 : decode cX10_longestDerivation 1 = .ok (.getfield 94, 3) := by decide +kernel
theorem dX10_longestDerivation_4 : decode cX10_longestDerivation 4 = .ok (.iconst 0, 1) := by decide +kernel
theorem dX10_longestDerivation_5 : decode cX10_longestDerivation 5 = .ok (.aload_n 0, 1) := by decide +kernel
theorem dX10_longestDerivation_6 : decode cX10_longestDerivation 6 = .ok (.invokevirtual 218, 3) := by decide +kernel
theorem dX10_longestDerivation_9 : decode cX10_longestDerivation 9 = .ok (.lastore, 1) := by decide +kernel
theorem dX10_longestDerivation_10 : decode cX10_longestDerivation 10 = .ok (.aload_n 0, 1) := by decide +kernel
theorem dX10_longestDerivation_11 : decode cX10_longestDerivation 11 = .ok (.iconst 1, 1) := by decide +kernel
theorem dX10_longestDerivation_12 : decode cX10_longestDerivation 12 = .ok (.putfield 235, 3) := by decide +kernel
theorem dX10_longestDerivation_15 : decode cX10_longestDerivation 15 = .ok (.iconst 0, 1) := by decide +kernel
theorem dX10_longestDerivation_16 : decode cX10_longestDerivation 16 = .ok (.istore_n 1, 1) := by decide +kernel
theorem dX10_longestDerivation_17 : decode cX10_longestDerivation 17 = .ok (.iload_n 1, 1) := by decide +kernel
theorem dX10_longestDerivation_18 : decode cX10_longestDerivation 18 = .ok (.aload_n 0, 1) := by decide +kernel
theorem dX10_longestDerivation_19 : decode cX10_longestDerivation 19 = .ok (.getfield 235, 3) := by decide +kernel
theorem dX10_longestDerivation_22 : decode cX10_longestDerivation 22 = .ok (.if_icmp .ge 163, 3) := by decide +kernel
theorem dX10_longestDerivation_25 : decode cX10_longestDerivation 25 = .ok (.aload_n 0, 1) := by decide +kernel
theorem dX10_longestDerivation_26 : decode cX10_longestDerivation 26 = .ok (.getfield 94, 3) := by decide +kernel
theorem dX10_longestDerivation_29 : decode cX10_longestDerivation 29 = .ok (.iload_n 1, 1) := by decide +kernel
theorem dX10_longestDerivation_30 : decode cX10_longestDerivation 30 = .ok (.laload, 1) := by decide +kernel
theorem dX10_longestDerivation_31 : decode cX10_longestDerivation 31 = .ok (.invokestatic 204, 3) := by decide +kernel
theorem dX10_longestDerivation_34 : decode cX10_longestDerivation 34 = .ok (.istore_n 2, 1) := by decide +kernel
theorem dX10_longestDerivation_35 : decode cX10_longestDerivation 35 = .ok (.aload_n 0, 1) := by decide +kernel
theorem dX10_longestDerivation_36 : decode cX10_longestDerivation 36 = .ok (.getfield 112, 3) := by decide +kernel
theorem dX10_longestDerivation_39 : decode cX10_longestDerivation 39 = .ok (.iload_n 1, 1) := by decide +kernel
theorem dX10_longestDerivation_40 : decode cX10_longestDerivation 40 = .ok (.iconst 0, 1) := by decide +kernel
theorem dX10_longestDerivation_41 : decode cX10_longestDerivation 41 = .ok (.iastore, 1) := by decide +kernel
theorem dX10_longestDerivation_42 : decode cX10_longestDerivation 42 = .ok (.iconst 0, 1) := by decide +kernel
theorem dX10_longestDerivation_43 : decode cX10_longestDerivation 43 = .ok (.istore_n 3, 1) := by decide +kernel
theorem dX10_longestDerivation_44 : decode cX10_longestDerivation 44 = .ok (.iload_n 3, 1) := by decide +kernel
theorem dX10_longestDerivation_45 : decode cX10_longestDerivation 45 = .ok (.iload_n 2, 1) := by decide +kernel
theorem dX10_longestDerivation_46 : decode cX10_longestDerivation 46 = .ok (.if_icmp .ge 133, 3) := by decide +kernel
theorem dX10_longestDerivation_49 : decode cX10_longestDerivation 49 = .ok (.iconst 0, 1) := by decide +kernel
theorem dX10_longestDerivation_50 : decode cX10_longestDerivation 50 = .ok (.istore 4, 2) := by decide +kernel
theorem dX10_longestDerivation_52 : decode cX10_longestDerivation 52 = .ok (.iload 4, 2) := by decide +kernel
theorem dX10_longestDerivation_54 : decode cX10_longestDerivation 54 = .ok (.aload_n 0, 1) := by decide +kernel
theorem dX10_longestDerivation_55 : decode cX10_longestDerivation 55 = .ok (.getfield 119, 3) := by decide +kernel
theorem dX10_longestDerivation_58 : decode cX10_longestDerivation 58 = .ok (.if_icmp .ge 115, 3) := by decide +kernel
theorem dX10_longestDerivation_61 : decode cX10_longestDerivation 61 = .ok (.aload_n 0, 1) := by decide +kernel
theorem dX10_longestDerivation_62 : decode cX10_longestDerivation 62 = .ok (.aload_n 0, 1) := by decide +kernel
theorem dX10_longestDerivation_63 : decode cX10_longestDerivation 63 = .ok (.getfield 94, 3) := by decide +kernel
theorem dX10_longestDerivation_66 : decode cX10_longestDerivation 66 = .ok (.iload_n 1, 1) := by decide +kernel
theorem dX10_longestDerivation_67 : decode cX10_longestDerivation 67 = .ok (.laload, 1) := by decide +kernel
theorem dX10_longestDerivation_68 : decode cX10_longestDerivation 68 = .ok (.iload 4, 2) := by decide +kernel
theorem dX10_longestDerivation_70 : decode cX10_longestDerivation 70 = .ok (.iload_n 3, 1) := by decide +kernel
theorem dX10_longestDerivation_71 : decode cX10_longestDerivation 71 = .ok (.invokevirtual 222, 3) := by decide +kernel
theorem dX10_longestDerivation_74 : decode cX10_longestDerivation 74 = .ok (.lstore 5, 2) := by decide +kernel
theorem dX10_longestDerivation_76 : decode cX10_longestDerivation 76 = .ok (.lload 5, 2) := by decide +kernel
theorem dX10_longestDerivation_78 : decode cX10_longestDerivation 78 = .ok (.ldc2_w 212, 3) := by decide +kernel
theorem dX10_longestDerivation_81 : decode cX10_longestDerivation 81 = .ok (.lcmp, 1) := by decide +kernel
theorem dX10_longestDerivation_82 : decode cX10_longestDerivation 82 = .ok (.ifCond .eq 85, 3) := by decide +kernel
theorem dX10_longestDerivation_85 : decode cX10_longestDerivation 85 = .ok (.aload_n 0, 1) := by decide +kernel
theorem dX10_longestDerivation_86 : decode cX10_longestDerivation 86 = .ok (.lload 5, 2) := by decide +kernel
theorem dX10_longestDerivation_88 : decode cX10_longestDerivation 88 = .ok (.invokevirtual 238, 3) := by decide +kernel
theorem dX10_longestDerivation_91 : decode cX10_longestDerivation 91 = .ok (.istore 7, 2) := by decide +kernel
theorem dX10_longestDerivation_93 : decode cX10_longestDerivation 93 = .ok (.iload 7, 2) := by decide +kernel
theorem dX10_longestDerivation_95 : decode cX10_longestDerivation 95 = .ok (.sipush 200, 3) := by decide +kernel
theorem dX10_longestDerivation_98 : decode cX10_longestDerivation 98 = .ok (.if_icmp .ne 6, 3) := by decide +kernel
theorem dX10_longestDerivation_101 : decode cX10_longestDerivation 101 = .ok (.bipush (-7), 2) := by decide +kernel
theorem dX10_longestDerivation_103 : decode cX10_longestDerivation 103 = .ok (.ireturn, 1) := by decide +kernel
theorem dX10_longestDerivation_104 : decode cX10_longestDerivation 104 = .ok (.aload_n 0, 1) := by decide +kernel
theorem dX10_longestDerivation_105 : decode cX10_longestDerivation 105 = .ok (.getfield 94, 3) := by decide +kernel
theorem dX10_longestDerivation_108 : decode cX10_longestDerivation 108 = .ok (.iload 7, 2) := by decide +kernel
theorem dX10_longestDerivation_110 : decode cX10_longestDerivation 110 = .ok (.lload 5, 2) := by decide +kernel
theorem dX10_longestDerivation_112 : decode cX10_longestDerivation 112 = .ok (.lastore, 1) := by decide +kernel
theorem dX10_longestDerivation_113 : decode cX10_longestDerivation 113 = .ok (.aload_n 0, 1) := by decide +kernel
theorem dX10_longestDerivation_114 : decode cX10_longestDerivation 114 = .ok (.iload 7, 2) := by decide +kernel
theorem dX10_longestDerivation_116 : decode cX10_longestDerivation 116 = .ok (.aload_n 0, 1) := by decide +kernel
theorem dX10_longestDerivation_117 : decode cX10_longestDerivation 117 = .ok (.getfield 235, 3) := by decide +kernel
theorem dX10_longestDerivation_120 : decode cX10_longestDerivation 120 = .ok (.if_icmp .ne 12, 3) := by decide +kernel
theorem dX10_longestDerivation_123 : decode cX10_longestDerivation 123 = .ok (.aload_n 0, 1) := by decide +kernel
theorem dX10_longestDerivation_124 : decode cX10_longestDerivation 124 = .ok (.getfield 235, 3) := by decide +kernel
theorem dX10_longestDerivation_127 : decode cX10_longestDerivation 127 = .ok (.iconst 1, 1) := by decide +kernel
theorem dX10_longestDerivation_128 : decode cX10_longestDerivation 128 = .ok (.iadd, 1) := by decide +kernel
theorem dX10_longestDerivation_129 : decode cX10_longestDerivation 129 = .ok (.goto 7, 3) := by decide +kernel
theorem dX10_longestDerivation_132 : decode cX10_longestDerivation 132 = .ok (.aload_n 0, 1) := by decide +kernel
theorem dX10_longestDerivation_133 : decode cX10_longestDerivation 133 = .ok (.getfield 235, 3) := by decide +kernel
theorem dX10_longestDerivation_136 : decode cX10_longestDerivation 136 = .ok (.putfield 235, 3) := by decide +kernel
theorem dX10_longestDerivation_139 : decode cX10_longestDerivation 139 = .ok (.aload_n 0, 1) := by decide +kernel
theorem dX10_longestDerivation_140 : decode cX10_longestDerivation 140 = .ok (.getfield 109, 3) := by decide +kernel
theorem dX10_longestDerivation_143 : decode cX10_longestDerivation 143 = .ok (.bipush 96, 2) := by decide +kernel
theorem dX10_longestDerivation_145 : decode cX10_longestDerivation 145 = .ok (.iload_n 1, 1) := by decide +kernel
theorem dX10_longestDerivation_146 : decode cX10_longestDerivation 146 = .ok (.imul, 1) := by decide +kernel
theorem dX10_longestDerivation_147 : decode cX10_longestDerivation 147 = .ok (.aload_n 0, 1) := by decide +kernel
theorem dX10_longestDerivation_148 : decode cX10_longestDerivation 148 = .ok (.getfield 112, 3) := by decide +kernel
theorem dX10_longestDerivation_151 : decode cX10_longestDerivation 151 = .ok (.iload_n 1, 1) := by decide +kernel
theorem dX10_longestDerivation_152 : decode cX10_longestDerivation 152 = .ok (.iaload, 1) := by decide +kernel
theorem dX10_longestDerivation_153 : decode cX10_longestDerivation 153 = .ok (.iadd, 1) := by decide +kernel
theorem dX10_longestDerivation_154 : decode cX10_longestDerivation 154 = .ok (.iload 7, 2) := by decide +kernel
theorem dX10_longestDerivation_156 : decode cX10_longestDerivation 156 = .ok (.iastore, 1) := by decide +kernel
theorem dX10_longestDerivation_157 : decode cX10_longestDerivation 157 = .ok (.aload_n 0, 1) := by decide +kernel
theorem dX10_longestDerivation_158 : decode cX10_longestDerivation 158 = .ok (.getfield 112, 3) := by decide +kernel
theorem dX10_longestDerivation_161 : decode cX10_longestDerivation 161 = .ok (.iload_n 1, 1) := by decide +kernel
theorem dX10_longestDerivation_162 : decode cX10_longestDerivation 162 = .ok (.dup2, 1) := by decide +kernel
theorem dX10_longestDerivation_163 : decode cX10_longestDerivation 163 = .ok (.iaload, 1) := by decide +kernel
theorem dX10_longestDerivation_164 : decode cX10_longestDerivation 164 = .ok (.iconst 1, 1) := by decide +kernel
theorem dX10_longestDerivation_165 : decode cX10_longestDerivation 165 = .ok (.iadd, 1) := by decide +kernel
theorem dX10_longestDerivation_166 : decode cX10_longestDerivation 166 = .ok (.iastore, 1) := by decide +kernel
theorem dX10_longestDerivation_167 : decode cX10_longestDerivation 167 = .ok (.iinc 4 1, 3) := by decide +kernel
theorem dX10_longestDerivation_170 : decode cX10_longestDerivation 170 = .ok (.goto (-118), 3) := by decide +kernel
theorem dX10_longestDerivation_173 : decode cX10_longestDerivation 173 = .ok (.iinc 3 1, 3) := by decide +kernel
theorem dX10_longestDerivation_176 : decode cX10_longestDerivation 176 = .ok (.goto (-132), 3) := by decide +kernel
theorem dX10_longestDerivation_179 : decode cX10_longestDerivation 179 = .ok (.iinc 1 1, 3) := by decide +kernel
theorem dX10_longestDerivation_182 : decode cX10_longestDerivation 182 = .ok (.goto (-165), 3) := by decide +kernel
theorem dX10_longestDerivation_185 : decode cX10_longestDerivation 185 = .ok (.aload_n 0, 1) := by decide +kernel
theorem dX10_longestDerivation_186 : decode cX10_longestDerivation 186 = .ok (.invokevirtual 241, 3) := by decide +kernel
theorem dX10_longestDerivation_189 : decode cX10_longestDerivation 189 = .ok (.ireturn, 1) := by decide +kernel
theorem dX10_deepestOf_0 : decode cX10_deepestOf 0 = .ok (.iconst 0, 1) := by decide +kernel
theorem dX10_deepestOf_1 : decode cX10_deepestOf 1 = .ok (.istore_n 1, 1) := by decide +kernel
theorem dX10_deepestOf_2 : decode cX10_deepestOf 2 = .ok (.iload_n 1, 1) := by decide +kernel
theorem dX10_deepestOf_3 : decode cX10_deepestOf 3 = .ok (.aload_n 0, 1) := by decide +kernel
theorem dX10_deepestOf_4 : decode cX10_deepestOf 4 = .ok (.getfield 235, 3) := by decide +kernel
theorem dX10_deepestOf_7 : decode cX10_deepestOf 7 = .ok (.if_icmp .ge 16, 3) := by decide +kernel
theorem dX10_deepestOf_10 : decode cX10_deepestOf 10 = .ok (.aload_n 0, 1) := by decide +kernel
theorem dX10_deepestOf_11 : decode cX10_deepestOf 11 = .ok (.getfield 106, 3) := by decide +kernel
theorem dX10_deepestOf_14 : decode cX10_deepestOf 14 = .ok (.iload_n 1, 1) := by decide +kernel
theorem dX10_deepestOf_15 : decode cX10_deepestOf 15 = .ok (.iconst 0, 1) := by decide +kernel
theorem dX10_deepestOf_16 : decode cX10_deepestOf 16 = .ok (.iastore, 1) := by decide +kernel
theorem dX10_deepestOf_17 : decode cX10_deepestOf 17 = .ok (.iinc 1 1, 3) := by decide +kernel
theorem dX10_deepestOf_20 : decode cX10_deepestOf 20 = .ok (.goto (-18), 3) := by decide +kernel
theorem dX10_deepestOf_23 : decode cX10_deepestOf 23 = .ok (.iconst 1, 1) := by decide +kernel
theorem dX10_deepestOf_24 : decode cX10_deepestOf 24 = .ok (.istore_n 1, 1) := by decide +kernel
theorem dX10_deepestOf_25 : decode cX10_deepestOf 25 = .ok (.iload_n 1, 1) := by decide +kernel
theorem dX10_deepestOf_26 : decode cX10_deepestOf 26 = .ok (.ifCond .eq 128, 3) := by decide +kernel
theorem dX10_deepestOf_29 : decode cX10_deepestOf 29 = .ok (.iconst 0, 1) := by decide +kernel
theorem dX10_deepestOf_30 : decode cX10_deepestOf 30 = .ok (.istore_n 1, 1) := by decide +kernel
theorem dX10_deepestOf_31 : decode cX10_deepestOf 31 = .ok (.aload_n 0, 1) := by decide +kernel
theorem dX10_deepestOf_32 : decode cX10_deepestOf 32 = .ok (.getfield 235, 3) := by decide +kernel
theorem dX10_deepestOf_35 : decode cX10_deepestOf 35 = .ok (.iconst 1, 1) := by decide +kernel
theorem dX10_deepestOf_36 : decode cX10_deepestOf 36 = .ok (.isub, 1) := by decide +kernel
theorem dX10_deepestOf_37 : decode cX10_deepestOf 37 = .ok (.istore_n 2, 1) := by decide +kernel
theorem dX10_deepestOf_38 : decode cX10_deepestOf 38 = .ok (.iload_n 2, 1) := by decide +kernel
theorem dX10_deepestOf_39 : decode cX10_deepestOf 39 = .ok (.ifCond .lt 112, 3) := by decide +kernel
theorem dX10_deepestOf_42 : decode cX10_deepestOf 42 = .ok (.iconst 0, 1) := by decide +kernel
theorem dX10_deepestOf_43 : decode cX10_deepestOf 43 = .ok (.istore_n 3, 1) := by decide +kernel
theorem dX10_deepestOf_44 : decode cX10_deepestOf 44 = .ok (.iload_n 3, 1) := by decide +kernel
theorem dX10_deepestOf_45 : decode cX10_deepestOf 45 = .ok (.aload_n 0, 1) := by decide +kernel
theorem dX10_deepestOf_46 : decode cX10_deepestOf 46 = .ok (.getfield 112, 3) := by decide +kernel
theorem dX10_deepestOf_49 : decode cX10_deepestOf 49 = .ok (.iload_n 2, 1) := by decide +kernel
theorem dX10_deepestOf_50 : decode cX10_deepestOf 50 = .ok (.iaload, 1) := by decide +kernel
theorem dX10_deepestOf_51 : decode cX10_deepestOf 51 = .ok (.if_icmp .ge 78, 3) := by decide +kernel
theorem dX10_deepestOf_54 : decode cX10_deepestOf 54 = .ok (.aload_n 0, 1) := by decide +kernel
theorem dX10_deepestOf_55 : decode cX10_deepestOf 55 = .ok (.getfield 106, 3) := by decide +kernel
theorem dX10_deepestOf_58 : decode cX10_deepestOf 58 = .ok (.aload_n 0, 1) := by decide +kernel
theorem dX10_deepestOf_59 : decode cX10_deepestOf 59 = .ok (.getfield 109, 3) := by decide +kernel
theorem dX10_deepestOf_62 : decode cX10_deepestOf 62 = .ok (.bipush 96, 2) := by decide +kernel
theorem dX10_deepestOf_64 : decode cX10_deepestOf 64 = .ok (.iload_n 2, 1) := by decide +kernel
theorem dX10_deepestOf_65 : decode cX10_deepestOf 65 = .ok (.imul, 1) := by decide +kernel
theorem dX10_deepestOf_66 : decode cX10_deepestOf 66 = .ok (.iload_n 3, 1) := by decide +kernel
theorem dX10_deepestOf_67 : decode cX10_deepestOf 67 = .ok (.iadd, 1) := by decide +kernel
theorem dX10_deepestOf_68 : decode cX10_deepestOf 68 = .ok (.iaload, 1) := by decide +kernel
theorem dX10_deepestOf_69 : decode cX10_deepestOf 69 = .ok (.iaload, 1) := by decide +kernel
theorem dX10_deepestOf_70 : decode cX10_deepestOf 70 = .ok (.iconst 1, 1) := by decide +kernel
theorem dX10_deepestOf_71 : decode cX10_deepestOf 71 = .ok (.iadd, 1) := by decide +kernel
theorem dX10_deepestOf_72 : decode cX10_deepestOf 72 = .ok (.istore 4, 2) := by decide +kernel
theorem dX10_deepestOf_74 : decode cX10_deepestOf 74 = .ok (.iload_n 1, 1) := by decide +kernel
theorem dX10_deepestOf_75 : decode cX10_deepestOf 75 = .ok (.ifCond .ne 14, 3) := by decide +kernel
theorem dX10_deepestOf_78 : decode cX10_deepestOf 78 = .ok (.iload 4, 2) := by decide +kernel
theorem dX10_deepestOf_80 : decode cX10_deepestOf 80 = .ok (.aload_n 0, 1) := by decide +kernel
theorem dX10_deepestOf_81 : decode cX10_deepestOf 81 = .ok (.getfield 106, 3) := by decide +kernel
theorem dX10_deepestOf_84 : decode cX10_deepestOf 84 = .ok (.iload_n 2, 1) := by decide +kernel
theorem dX10_deepestOf_85 : decode cX10_deepestOf 85 = .ok (.iaload, 1) := by decide +kernel
theorem dX10_deepestOf_86 : decode cX10_deepestOf 86 = .ok (.if_icmp .le 7, 3) := by decide +kernel
theorem dX10_deepestOf_89 : decode cX10_deepestOf 89 = .ok (.iconst 1, 1) := by decide +kernel
theorem dX10_deepestOf_90 : decode cX10_deepestOf 90 = .ok (.goto 4, 3) := by decide +kernel
theorem dX10_deepestOf_93 : decode cX10_deepestOf 93 = .ok (.iconst 0, 1) := by decide +kernel
theorem dX10_deepestOf_94 : decode cX10_deepestOf 94 = .ok (.istore_n 1, 1) := by decide +kernel
theorem dX10_deepestOf_95 : decode cX10_deepestOf 95 = .ok (.aload_n 0, 1) := by decide +kernel
theorem dX10_deepestOf_96 : decode cX10_deepestOf 96 = .ok (.getfield 106, 3) := by decide +kernel
theorem dX10_deepestOf_99 : decode cX10_deepestOf 99 = .ok (.iload_n 2, 1) := by decide +kernel
theorem dX10_deepestOf_100 : decode cX10_deepestOf 100 = .ok (.iload 4, 2) := by decide +kernel
theorem dX10_deepestOf_102 : decode cX10_deepestOf 102 = .ok (.aload_n 0, 1) := by decide +kernel
theorem dX10_deepestOf_103 : decode cX10_deepestOf 103 = .ok (.getfield 106, 3) := by decide +kernel
theorem dX10_deepestOf_106 : decode cX10_deepestOf 106 = .ok (.iload_n 2, 1) := by decide +kernel
theorem dX10_deepestOf_107 : decode cX10_deepestOf 107 = .ok (.iaload, 1) := by decide +kernel
theorem dX10_deepestOf_108 : decode cX10_deepestOf 108 = .ok (.if_icmp .le 8, 3) := by decide +kernel
theorem dX10_deepestOf_111 : decode cX10_deepestOf 111 = .ok (.iload 4, 2) := by decide +kernel
theorem dX10_deepestOf_113 : decode cX10_deepestOf 113 = .ok (.goto 9, 3) := by decide +kernel
theorem dX10_deepestOf_116 : decode cX10_deepestOf 116 = .ok (.aload_n 0, 1) := by decide +kernel
theorem dX10_deepestOf_117 : decode cX10_deepestOf 117 = .ok (.getfield 106, 3) := by decide +kernel
theorem dX10_deepestOf_120 : decode cX10_deepestOf 120 = .ok (.iload_n 2, 1) := by decide +kernel
theorem dX10_deepestOf_121 : decode cX10_deepestOf 121 = .ok (.iaload, 1) := by decide +kernel
theorem dX10_deepestOf_122 : decode cX10_deepestOf 122 = .ok (.iastore, 1) := by decide +kernel
theorem dX10_deepestOf_123 : decode cX10_deepestOf 123 = .ok (.iinc 3 1, 3) := by decide +kernel
theorem dX10_deepestOf_126 : decode cX10_deepestOf 126 = .ok (.goto (-82), 3) := by decide +kernel
theorem dX10_deepestOf_129 : decode cX10_deepestOf 129 = .ok (.aload_n 0, 1) := by decide +kernel
theorem dX10_deepestOf_130 : decode cX10_deepestOf 130 = .ok (.getfield 106, 3) := by decide +kernel
theorem dX10_deepestOf_133 : decode cX10_deepestOf 133 = .ok (.iload_n 2, 1) := by decide +kernel
theorem dX10_deepestOf_134 : decode cX10_deepestOf 134 = .ok (.iaload, 1) := by decide +kernel
theorem dX10_deepestOf_135 : decode cX10_deepestOf 135 = .ok (.aload_n 0, 1) := by decide +kernel
theorem dX10_deepestOf_136 : decode cX10_deepestOf 136 = .ok (.getfield 235, 3) := by decide +kernel
theorem dX10_deepestOf_139 : decode cX10_deepestOf 139 = .ok (.if_icmp .lt 6, 3) := by decide +kernel
theorem dX10_deepestOf_142 : decode cX10_deepestOf 142 = .ok (.bipush (-6), 2) := by decide +kernel
theorem dX10_deepestOf_144 : decode cX10_deepestOf 144 = .ok (.ireturn, 1) := by decide +kernel
theorem dX10_deepestOf_145 : decode cX10_deepestOf 145 = .ok (.iinc 2 (-1), 3) := by decide +kernel
theorem dX10_deepestOf_148 : decode cX10_deepestOf 148 = .ok (.goto (-110), 3) := by decide +kernel
theorem dX10_deepestOf_151 : decode cX10_deepestOf 151 = .ok (.goto (-126), 3) := by decide +kernel
theorem dX10_deepestOf_154 : decode cX10_deepestOf 154 = .ok (.aload_n 0, 1) := by decide +kernel
theorem dX10_deepestOf_155 : decode cX10_deepestOf 155 = .ok (.getfield 106, 3) := by decide +kernel
theorem dX10_deepestOf_158 : decode cX10_deepestOf 158 = .ok (.iconst 0, 1) := by decide +kernel
theorem dX10_deepestOf_159 : decode cX10_deepestOf 159 = .ok (.iaload, 1) := by decide +kernel
theorem dX10_deepestOf_160 : decode cX10_deepestOf 160 = .ok (.ireturn, 1) := by decide +kernel
theorem dX10_contains_0 : decode cX10_contains 0 = .ok (.lload_n 1, 1) := by decide +kernel
theorem dX10_contains_1 : decode cX10_contains 1 = .ok (.invokestatic 204, 3) := by decide +kernel
theorem dX10_contains_4 : decode cX10_contains 4 = .ok (.istore 4, 2) := by decide +kernel
theorem dX10_contains_6 : decode cX10_contains 6 = .ok (.iconst 0, 1) := by decide +kernel
theorem dX10_contains_7 : decode cX10_contains 7 = .ok (.istore 5, 2) := by decide +kernel
theorem dX10_contains_9 : decode cX10_contains 9 = .ok (.iconst 0, 1) := by decide +kernel
theorem dX10_contains_10 : decode cX10_contains 10 = .ok (.istore 6, 2) := by decide +kernel
theorem dX10_contains_12 : decode cX10_contains 12 = .ok (.iload 6, 2) := by decide +kernel
theorem dX10_contains_14 : decode cX10_contains 14 = .ok (.iload 4, 2) := by decide +kernel
theorem dX10_contains_16 : decode cX10_contains 16 = .ok (.if_icmp .ge 34, 3) := by decide +kernel
theorem dX10_contains_19 : decode cX10_contains 19 = .ok (.iload 5, 2) := by decide +kernel
theorem dX10_contains_21 : decode cX10_contains 21 = .ok (.ifCond .ne 16, 3) := by decide +kernel
theorem dX10_contains_24 : decode cX10_contains 24 = .ok (.aload_n 0, 1) := by decide +kernel
theorem dX10_contains_25 : decode cX10_contains 25 = .ok (.lload_n 1, 1) := by decide +kernel
theorem dX10_contains_26 : decode cX10_contains 26 = .ok (.iload 4, 2) := by decide +kernel
theorem dX10_contains_28 : decode cX10_contains 28 = .ok (.iload_n 3, 1) := by decide +kernel
theorem dX10_contains_29 : decode cX10_contains 29 = .ok (.iload 6, 2) := by decide +kernel
theorem dX10_contains_31 : decode cX10_contains 31 = .ok (.invokevirtual 208, 3) := by decide +kernel
theorem dX10_contains_34 : decode cX10_contains 34 = .ok (.ifCond .eq 7, 3) := by decide +kernel
theorem dX10_contains_37 : decode cX10_contains 37 = .ok (.iconst 1, 1) := by decide +kernel
theorem dX10_contains_38 : decode cX10_contains 38 = .ok (.goto 4, 3) := by decide +kernel
theorem dX10_contains_41 : decode cX10_contains 41 = .ok (.iconst 0, 1) := by decide +kernel
theorem dX10_contains_42 : decode cX10_contains 42 = .ok (.istore 5, 2) := by decide +kernel
theorem dX10_contains_44 : decode cX10_contains 44 = .ok (.iinc 6 1, 3) := by decide +kernel
theorem dX10_contains_47 : decode cX10_contains 47 = .ok (.goto (-35), 3) := by decide +kernel
theorem dX10_contains_50 : decode cX10_contains 50 = .ok (.iload 5, 2) := by decide +kernel
theorem dX10_contains_52 : decode cX10_contains 52 = .ok (.ireturn, 1) := by decide +kernel
theorem dX10_findLoop_0 : decode cX10_findLoop 0 = .ok (.aload_n 0, 1) := by decide +kernel
theorem dX10_findLoop_1 : decode cX10_findLoop 1 = .ok (.iload_n 1, 1) := by decide +kernel
theorem dX10_findLoop_2 : decode cX10_findLoop 2 = .ok (.invokevirtual 152, 3) := by decide +kernel
theorem dX10_findLoop_5 : decode cX10_findLoop 5 = .ok (.ifCond .ne 6, 3) := by decide +kernel
theorem dX10_findLoop_8 : decode cX10_findLoop 8 = .ok (.bipush (-3), 2) := by decide +kernel
theorem dX10_findLoop_10 : decode cX10_findLoop 10 = .ok (.ireturn, 1) := by decide +kernel
theorem dX10_findLoop_11 : decode cX10_findLoop 11 = .ok (.aload_n 0, 1) := by decide +kernel
theorem dX10_findLoop_12 : decode cX10_findLoop 12 = .ok (.getfield 94, 3) := by decide +kernel
theorem dX10_findLoop_15 : decode cX10_findLoop 15 = .ok (.iconst 0, 1) := by decide +kernel
theorem dX10_findLoop_16 : decode cX10_findLoop 16 = .ok (.lconst 0, 1) := by decide +kernel
theorem dX10_findLoop_17 : decode cX10_findLoop 17 = .ok (.lastore, 1) := by decide +kernel
theorem dX10_findLoop_18 : decode cX10_findLoop 18 = .ok (.iconst 0, 1) := by decide +kernel
theorem dX10_findLoop_19 : decode cX10_findLoop 19 = .ok (.istore_n 2, 1) := by decide +kernel
theorem dX10_findLoop_20 : decode cX10_findLoop 20 = .ok (.iload_n 2, 1) := by decide +kernel
theorem dX10_findLoop_21 : decode cX10_findLoop 21 = .ok (.aload_n 0, 1) := by decide +kernel
theorem dX10_findLoop_22 : decode cX10_findLoop 22 = .ok (.getfield 15, 3) := by decide +kernel
theorem dX10_findLoop_25 : decode cX10_findLoop 25 = .ok (.iconst 2, 1) := by decide +kernel
theorem dX10_findLoop_26 : decode cX10_findLoop 26 = .ok (.iload_n 1, 1) := by decide +kernel
theorem dX10_findLoop_27 : decode cX10_findLoop 27 = .ok (.imul, 1) := by decide +kernel
theorem dX10_findLoop_28 : decode cX10_findLoop 28 = .ok (.iaload, 1) := by decide +kernel
theorem dX10_findLoop_29 : decode cX10_findLoop 29 = .ok (.if_icmp .ge 35, 3) := by decide +kernel
theorem dX10_findLoop_32 : decode cX10_findLoop 32 = .ok (.aload_n 0, 1) := by decide +kernel
theorem dX10_findLoop_33 : decode cX10_findLoop 33 = .ok (.getfield 94, 3) := by decide +kernel
theorem dX10_findLoop_36 : decode cX10_findLoop 36 = .ok (.iconst 0, 1) := by decide +kernel
theorem dX10_findLoop_37 : decode cX10_findLoop 37 = .ok (.aload_n 0, 1) := by decide +kernel
theorem dX10_findLoop_38 : decode cX10_findLoop 38 = .ok (.getfield 94, 3) := by decide +kernel
theorem dX10_findLoop_41 : decode cX10_findLoop 41 = .ok (.iconst 0, 1) := by decide +kernel
theorem dX10_findLoop_42 : decode cX10_findLoop 42 = .ok (.laload, 1) := by decide +kernel
theorem dX10_findLoop_43 : decode cX10_findLoop 43 = .ok (.aload_n 0, 1) := by decide +kernel
theorem dX10_findLoop_44 : decode cX10_findLoop 44 = .ok (.getfield 19, 3) := by decide +kernel
theorem dX10_findLoop_47 : decode cX10_findLoop 47 = .ok (.bipush 12, 2) := by decide +kernel
theorem dX10_findLoop_49 : decode cX10_findLoop 49 = .ok (.iload_n 1, 1) := by decide +kernel
theorem dX10_findLoop_50 : decode cX10_findLoop 50 = .ok (.imul, 1) := by decide +kernel
theorem dX10_findLoop_51 : decode cX10_findLoop 51 = .ok (.iload_n 2, 1) := by decide +kernel
theorem dX10_findLoop_52 : decode cX10_findLoop 52 = .ok (.iadd, 1) := by decide +kernel
theorem dX10_findLoop_53 : decode cX10_findLoop 53 = .ok (.iaload, 1) := by decide +kernel
theorem dX10_findLoop_54 : decode cX10_findLoop 54 = .ok (.invokestatic 214, 3) := by decide +kernel
theorem dX10_findLoop_57 : decode cX10_findLoop 57 = .ok (.lastore, 1) := by decide +kernel
theorem dX10_findLoop_58 : decode cX10_findLoop 58 = .ok (.iinc 2 1, 3) := by decide +kernel
theorem dX10_findLoop_61 : decode cX10_findLoop 61 = .ok (.goto (-41), 3) := by decide +kernel
theorem dX10_findLoop_64 : decode cX10_findLoop 64 = .ok (.aload_n 0, 1) := by decide +kernel
theorem dX10_findLoop_65 : decode cX10_findLoop 65 = .ok (.iconst 1, 1) := by decide +kernel
theorem dX10_findLoop_66 : decode cX10_findLoop 66 = .ok (.putfield 235, 3) := by decide +kernel
theorem dX10_findLoop_69 : decode cX10_findLoop 69 = .ok (.iconst 0, 1) := by decide +kernel
theorem dX10_findLoop_70 : decode cX10_findLoop 70 = .ok (.istore_n 2, 1) := by decide +kernel
theorem dX10_findLoop_71 : decode cX10_findLoop 71 = .ok (.iload_n 2, 1) := by decide +kernel
theorem dX10_findLoop_72 : decode cX10_findLoop 72 = .ok (.aload_n 0, 1) := by decide +kernel
theorem dX10_findLoop_73 : decode cX10_findLoop 73 = .ok (.getfield 235, 3) := by decide +kernel
theorem dX10_findLoop_76 : decode cX10_findLoop 76 = .ok (.if_icmp .ge 183, 3) := by decide +kernel
theorem dX10_findLoop_79 : decode cX10_findLoop 79 = .ok (.aload_n 0, 1) := by decide +kernel
theorem dX10_findLoop_80 : decode cX10_findLoop 80 = .ok (.getfield 94, 3) := by decide +kernel
theorem dX10_findLoop_83 : decode cX10_findLoop 83 = .ok (.iload_n 2, 1) := by decide +kernel
theorem dX10_findLoop_84 : decode cX10_findLoop 84 = .ok (.laload, 1) := by decide +kernel
theorem dX10_findLoop_85 : decode cX10_findLoop 85 = .ok (.invokestatic 204, 3) := by decide +kernel
theorem dX10_findLoop_88 : decode cX10_findLoop 88 = .ok (.istore_n 3, 1) := by decide +kernel
theorem dX10_findLoop_89 : decode cX10_findLoop 89 = .ok (.iconst 0, 1) := by decide +kernel
theorem dX10_findLoop_90 : decode cX10_findLoop 90 = .ok (.istore 4, 2) := by decide +kernel
theorem dX10_findLoop_92 : decode cX10_findLoop 92 = .ok (.iload 4, 2) := by decide +kernel
theorem dX10_findLoop_94 : decode cX10_findLoop 94 = .ok (.iload_n 3, 1) := by decide +kernel
theorem dX10_findLoop_95 : decode cX10_findLoop 95 = .ok (.if_icmp .ge 158, 3) := by decide +kernel
theorem dX10_findLoop_98 : decode cX10_findLoop 98 = .ok (.iconst 0, 1) := by decide +kernel
theorem dX10_findLoop_99 : decode cX10_findLoop 99 = .ok (.istore 5, 2) := by decide +kernel
theorem dX10_findLoop_101 : decode cX10_findLoop 101 = .ok (.iload 5, 2) := by decide +kernel
theorem dX10_findLoop_103 : decode cX10_findLoop 103 = .ok (.aload_n 0, 1) := by decide +kernel
theorem dX10_findLoop_104 : decode cX10_findLoop 104 = .ok (.getfield 119, 3) := by decide +kernel
theorem dX10_findLoop_107 : decode cX10_findLoop 107 = .ok (.if_icmp .ge 140, 3) := by decide +kernel
theorem dX10_findLoop_110 : decode cX10_findLoop 110 = .ok (.aload_n 0, 1) := by decide +kernel
theorem dX10_findLoop_111 : decode cX10_findLoop 111 = .ok (.aload_n 0, 1) := by decide +kernel
theorem dX10_findLoop_112 : decode cX10_findLoop 112 = .ok (.getfield 94, 3) := by decide +kernel
theorem dX10_findLoop_115 : decode cX10_findLoop 115 = .ok (.iload_n 2, 1) := by decide +kernel
theorem dX10_findLoop_116 : decode cX10_findLoop 116 = .ok (.laload, 1) := by decide +kernel
theorem dX10_findLoop_117 : decode cX10_findLoop 117 = .ok (.iload 5, 2) := by decide +kernel
theorem dX10_findLoop_119 : decode cX10_findLoop 119 = .ok (.iload 4, 2) := by decide +kernel
theorem dX10_findLoop_121 : decode cX10_findLoop 121 = .ok (.invokevirtual 222, 3) := by decide +kernel
theorem dX10_findLoop_124 : decode cX10_findLoop 124 = .ok (.lstore 6, 2) := by decide +kernel
theorem dX10_findLoop_126 : decode cX10_findLoop 126 = .ok (.lload 6, 2) := by decide +kernel
theorem dX10_findLoop_128 : decode cX10_findLoop 128 = .ok (.ldc2_w 212, 3) := by decide +kernel
theorem dX10_findLoop_131 : decode cX10_findLoop 131 = .ok (.lcmp, 1) := by decide +kernel
theorem dX10_findLoop_132 : decode cX10_findLoop 132 = .ok (.ifCond .eq 23, 3) := by decide +kernel
theorem dX10_findLoop_135 : decode cX10_findLoop 135 = .ok (.aload_n 0, 1) := by decide +kernel
theorem dX10_findLoop_136 : decode cX10_findLoop 136 = .ok (.lload 6, 2) := by decide +kernel
theorem dX10_findLoop_138 : decode cX10_findLoop 138 = .ok (.iload_n 1, 1) := by decide +kernel
theorem dX10_findLoop_139 : decode cX10_findLoop 139 = .ok (.invokevirtual 244, 3) := by decide +kernel
theorem dX10_findLoop_142 : decode cX10_findLoop 142 = .ok (.ifCond .eq 13, 3) := by decide +kernel
theorem dX10_findLoop_145 : decode cX10_findLoop 145 = .ok (.aload_n 0, 1) := by decide +kernel
theorem dX10_findLoop_146 : decode cX10_findLoop 146 = .ok (.iload_n 2, 1) := by decide +kernel
theorem dX10_findLoop_147 : decode cX10_findLoop 147 = .ok (.iload 5, 2) := by decide +kernel
theorem dX10_findLoop_149 : decode cX10_findLoop 149 = .ok (.iload 4, 2) := by decide +kernel
theorem dX10_findLoop_151 : decode cX10_findLoop 151 = .ok (.invokevirtual 248, 3) := by decide +kernel
theorem dX10_findLoop_154 : decode cX10_findLoop 154 = .ok (.ireturn, 1) := by decide +kernel
theorem dX10_findLoop_155 : decode cX10_findLoop 155 = .ok (.lload 6, 2) := by decide +kernel
theorem dX10_findLoop_157 : decode cX10_findLoop 157 = .ok (.ldc2_w 212, 3) := by decide +kernel
theorem dX10_findLoop_160 : decode cX10_findLoop 160 = .ok (.lcmp, 1) := by decide +kernel
theorem dX10_findLoop_161 : decode cX10_findLoop 161 = .ok (.ifCond .ne 7, 3) := by decide +kernel
theorem dX10_findLoop_164 : decode cX10_findLoop 164 = .ok (.iconst (-1), 1) := by decide +kernel
theorem dX10_findLoop_165 : decode cX10_findLoop 165 = .ok (.goto 9, 3) := by decide +kernel
theorem dX10_findLoop_168 : decode cX10_findLoop 168 = .ok (.aload_n 0, 1) := by decide +kernel
theorem dX10_findLoop_169 : decode cX10_findLoop 169 = .ok (.lload 6, 2) := by decide +kernel
theorem dX10_findLoop_171 : decode cX10_findLoop 171 = .ok (.invokevirtual 238, 3) := by decide +kernel
theorem dX10_findLoop_174 : decode cX10_findLoop 174 = .ok (.istore 8, 2) := by decide +kernel
theorem dX10_findLoop_176 : decode cX10_findLoop 176 = .ok (.iload 8, 2) := by decide +kernel
theorem dX10_findLoop_178 : decode cX10_findLoop 178 = .ok (.sipush 200, 3) := by decide +kernel
theorem dX10_findLoop_181 : decode cX10_findLoop 181 = .ok (.if_icmp .ne 6, 3) := by decide +kernel
theorem dX10_findLoop_184 : decode cX10_findLoop 184 = .ok (.bipush (-7), 2) := by decide +kernel
theorem dX10_findLoop_186 : decode cX10_findLoop 186 = .ok (.ireturn, 1) := by decide +kernel
theorem dX10_findLoop_187 : decode cX10_findLoop 187 = .ok (.iload 8, 2) := by decide +kernel
theorem dX10_findLoop_189 : decode cX10_findLoop 189 = .ok (.aload_n 0, 1) := by decide +kernel
theorem dX10_findLoop_190 : decode cX10_findLoop 190 = .ok (.getfield 235, 3) := by decide +kernel
theorem dX10_findLoop_193 : decode cX10_findLoop 193 = .ok (.if_icmp .ne 48, 3) := by decide +kernel
theorem dX10_findLoop_196 : decode cX10_findLoop 196 = .ok (.aload_n 0, 1) := by decide +kernel
theorem dX10_findLoop_197 : decode cX10_findLoop 197 = .ok (.getfield 94, 3) := by decide +kernel
theorem dX10_findLoop_200 : decode cX10_findLoop 200 = .ok (.iload 8, 2) := by decide +kernel
theorem dX10_findLoop_202 : decode cX10_findLoop 202 = .ok (.lload 6, 2) := by decide +kernel
theorem dX10_findLoop_204 : decode cX10_findLoop 204 = .ok (.lastore, 1) := by decide +kernel
theorem dX10_findLoop_205 : decode cX10_findLoop 205 = .ok (.aload_n 0, 1) := by decide +kernel
theorem dX10_findLoop_206 : decode cX10_findLoop 206 = .ok (.getfield 97, 3) := by decide +kernel
theorem dX10_findLoop_209 : decode cX10_findLoop 209 = .ok (.iload 8, 2) := by decide +kernel
theorem dX10_findLoop_211 : decode cX10_findLoop 211 = .ok (.iload_n 2, 1) := by decide +kernel
theorem dX10_findLoop_212 : decode cX10_findLoop 212 = .ok (.iastore, 1) := by decide +kernel
theorem dX10_findLoop_213 : decode cX10_findLoop 213 = .ok (.aload_n 0, 1) := by decide +kernel
theorem dX10_findLoop_214 : decode cX10_findLoop 214 = .ok (.getfield 100, 3) := by decide +kernel
theorem dX10_findLoop_217 : decode cX10_findLoop 217 = .ok (.iload 8, 2) := by decide +kernel
theorem dX10_findLoop_219 : decode cX10_findLoop 219 = .ok (.iload 5, 2) := by decide +kernel
theorem dX10_findLoop_221 : decode cX10_findLoop 221 = .ok (.iastore, 1) := by decide +kernel
theorem dX10_findLoop_222 : decode cX10_findLoop 222 = .ok (.aload_n 0, 1) := by decide +kernel
theorem dX10_findLoop_223 : decode cX10_findLoop 223 = .ok (.getfield 103, 3) := by decide +kernel
theorem dX10_findLoop_226 : decode cX10_findLoop 226 = .ok (.iload 8, 2) := by decide +kernel
theorem dX10_findLoop_228 : decode cX10_findLoop 228 = .ok (.iload 4, 2) := by decide +kernel
theorem dX10_findLoop_230 : decode cX10_findLoop 230 = .ok (.iastore, 1) := by decide +kernel
theorem dX10_findLoop_231 : decode cX10_findLoop 231 = .ok (.aload_n 0, 1) := by decide +kernel
theorem dX10_findLoop_232 : decode cX10_findLoop 232 = .ok (.dup, 1) := by decide +kernel
theorem dX10_findLoop_233 : decode cX10_findLoop 233 = .ok (.getfield 235, 3) := by decide +kernel
theorem dX10_findLoop_236 : decode cX10_findLoop 236 = .ok (.iconst 1, 1) := by decide +kernel
theorem dX10_findLoop_237 : decode cX10_findLoop 237 = .ok (.iadd, 1) := by decide +kernel
theorem dX10_findLoop_238 : decode cX10_findLoop 238 = .ok (.putfield 235, 3) := by decide +kernel
theorem dX10_findLoop_241 : decode cX10_findLoop 241 = .ok (.iinc 5 1, 3) := by decide +kernel
theorem dX10_findLoop_244 : decode cX10_findLoop 244 = .ok (.goto (-143), 3) := by decide +kernel
theorem dX10_findLoop_247 : decode cX10_findLoop 247 = .ok (.iinc 4 1, 3) := by decide +kernel
theorem dX10_findLoop_250 : decode cX10_findLoop 250 = .ok (.goto (-158), 3) := by decide +kernel
theorem dX10_findLoop_253 : decode cX10_findLoop 253 = .ok (.iinc 2 1, 3) := by decide +kernel
theorem dX10_findLoop_256 : decode cX10_findLoop 256 = .ok (.goto (-185), 3) := by decide +kernel
theorem dX10_findLoop_259 : decode cX10_findLoop 259 = .ok (.bipush (-6), 2) := by decide +kernel
theorem dX10_findLoop_261 : decode cX10_findLoop 261 = .ok (.ireturn, 1) := by decide +kernel
theorem dX10_loops_0 : decode cX10_loops 0 = .ok (.aload_n 0, 1) := by decide +kernel
theorem dX10_loops_1 : decode cX10_loops 1 = .ok (.iconst 1, 1) := by decide +kernel
theorem dX10_loops_2 : decode cX10_loops 2 = .ok (.putfield 127, 3) := by decide +kernel
theorem dX10_loops_5 : decode cX10_loops 5 = .ok (.iload_n 1, 1) := by decide +kernel
theorem dX10_loops_6 : decode cX10_loops 6 = .ok (.istore 4, 2) := by decide +kernel
theorem dX10_loops_8 : decode cX10_loops 8 = .ok (.iload 4, 2) := by decide +kernel
theorem dX10_loops_10 : decode cX10_loops 10 = .ok (.ifCond .eq 25, 3) := by decide +kernel
theorem dX10_loops_13 : decode cX10_loops 13 = .ok (.aload_n 0, 1) := by decide +kernel
theorem dX10_loops_14 : decode cX10_loops 14 = .ok (.dup, 1) := by decide +kernel
theorem dX10_loops_15 : decode cX10_loops 15 = .ok (.getfield 127, 3) := by decide +kernel
theorem dX10_loops_18 : decode cX10_loops 18 = .ok (.iconst 1, 1) := by decide +kernel
theorem dX10_loops_19 : decode cX10_loops 19 = .ok (.iadd, 1) := by decide +kernel
theorem dX10_loops_20 : decode cX10_loops 20 = .ok (.putfield 127, 3) := by decide +kernel
theorem dX10_loops_23 : decode cX10_loops 23 = .ok (.aload_n 0, 1) := by decide +kernel
theorem dX10_loops_24 : decode cX10_loops 24 = .ok (.getfield 97, 3) := by decide +kernel
theorem dX10_loops_27 : decode cX10_loops 27 = .ok (.iload 4, 2) := by decide +kernel
theorem dX10_loops_29 : decode cX10_loops 29 = .ok (.iaload, 1) := by decide +kernel
theorem dX10_loops_30 : decode cX10_loops 30 = .ok (.istore 4, 2) := by decide +kernel
theorem dX10_loops_32 : decode cX10_loops 32 = .ok (.goto (-24), 3) := by decide +kernel
theorem dX10_loops_35 : decode cX10_loops 35 = .ok (.aload_n 0, 1) := by decide +kernel
theorem dX10_loops_36 : decode cX10_loops 36 = .ok (.getfield 38, 3) := by decide +kernel
theorem dX10_loops_39 : decode cX10_loops 39 = .ok (.aload_n 0, 1) := by decide +kernel
theorem dX10_loops_40 : decode cX10_loops 40 = .ok (.getfield 127, 3) := by decide +kernel
theorem dX10_loops_43 : decode cX10_loops 43 = .ok (.iconst 1, 1) := by decide +kernel
theorem dX10_loops_44 : decode cX10_loops 44 = .ok (.isub, 1) := by decide +kernel
theorem dX10_loops_45 : decode cX10_loops 45 = .ok (.iload_n 2, 1) := by decide +kernel
theorem dX10_loops_46 : decode cX10_loops 46 = .ok (.iastore, 1) := by decide +kernel
theorem dX10_loops_47 : decode cX10_loops 47 = .ok (.aload_n 0, 1) := by decide +kernel
theorem dX10_loops_48 : decode cX10_loops 48 = .ok (.getfield 41, 3) := by decide +kernel
theorem dX10_loops_51 : decode cX10_loops 51 = .ok (.aload_n 0, 1) := by decide +kernel
theorem dX10_loops_52 : decode cX10_loops 52 = .ok (.getfield 127, 3) := by decide +kernel
theorem dX10_loops_55 : decode cX10_loops 55 = .ok (.iconst 1, 1) := by decide +kernel
theorem dX10_loops_56 : decode cX10_loops 56 = .ok (.isub, 1) := by decide +kernel
theorem dX10_loops_57 : decode cX10_loops 57 = .ok (.iload_n 3, 1) := by decide +kernel
theorem dX10_loops_58 : decode cX10_loops 58 = .ok (.iastore, 1) := by decide +kernel
theorem dX10_loops_59 : decode cX10_loops 59 = .ok (.aload_n 0, 1) := by decide +kernel
theorem dX10_loops_60 : decode cX10_loops 60 = .ok (.getfield 127, 3) := by decide +kernel
theorem dX10_loops_63 : decode cX10_loops 63 = .ok (.iconst 2, 1) := by decide +kernel
theorem dX10_loops_64 : decode cX10_loops 64 = .ok (.isub, 1) := by decide +kernel
theorem dX10_loops_65 : decode cX10_loops 65 = .ok (.istore 4, 2) := by decide +kernel
theorem dX10_loops_67 : decode cX10_loops 67 = .ok (.iload_n 1, 1) := by decide +kernel
theorem dX10_loops_68 : decode cX10_loops 68 = .ok (.istore 5, 2) := by decide +kernel
theorem dX10_loops_70 : decode cX10_loops 70 = .ok (.iload 5, 2) := by decide +kernel
theorem dX10_loops_72 : decode cX10_loops 72 = .ok (.ifCond .eq 46, 3) := by decide +kernel
theorem dX10_loops_75 : decode cX10_loops 75 = .ok (.aload_n 0, 1) := by decide +kernel
theorem dX10_loops_76 : decode cX10_loops 76 = .ok (.getfield 38, 3) := by decide +kernel
theorem dX10_loops_79 : decode cX10_loops 79 = .ok (.iload 4, 2) := by decide +kernel
theorem dX10_loops_81 : decode cX10_loops 81 = .ok (.aload_n 0, 1) := by decide +kernel
theorem dX10_loops_82 : decode cX10_loops 82 = .ok (.getfield 100, 3) := by decide +kernel
theorem dX10_loops_85 : decode cX10_loops 85 = .ok (.iload 5, 2) := by decide +kernel
theorem dX10_loops_87 : decode cX10_loops 87 = .ok (.iaload, 1) := by decide +kernel
theorem dX10_loops_88 : decode cX10_loops 88 = .ok (.iastore, 1) := by decide +kernel
theorem dX10_loops_89 : decode cX10_loops 89 = .ok (.aload_n 0, 1) := by decide +kernel
theorem dX10_loops_90 : decode cX10_loops 90 = .ok (.getfield 41, 3) := by decide +kernel
theorem dX10_loops_93 : decode cX10_loops 93 = .ok (.iload 4, 2) := by decide +kernel
theorem dX10_loops_95 : decode cX10_loops 95 = .ok (.aload_n 0, 1) := by decide +kernel
theorem dX10_loops_96 : decode cX10_loops 96 = .ok (.getfield 103, 3) := by decide +kernel
theorem dX10_loops_99 : decode cX10_loops 99 = .ok (.iload 5, 2) := by decide +kernel
theorem dX10_loops_101 : decode cX10_loops 101 = .ok (.iaload, 1) := by decide +kernel
theorem dX10_loops_102 : decode cX10_loops 102 = .ok (.iastore, 1) := by decide +kernel
theorem dX10_loops_103 : decode cX10_loops 103 = .ok (.iinc 4 (-1), 3) := by decide +kernel
theorem dX10_loops_106 : decode cX10_loops 106 = .ok (.aload_n 0, 1) := by decide +kernel
theorem dX10_loops_107 : decode cX10_loops 107 = .ok (.getfield 97, 3) := by decide +kernel
theorem dX10_loops_110 : decode cX10_loops 110 = .ok (.iload 5, 2) := by decide +kernel
theorem dX10_loops_112 : decode cX10_loops 112 = .ok (.iaload, 1) := by decide +kernel
theorem dX10_loops_113 : decode cX10_loops 113 = .ok (.istore 5, 2) := by decide +kernel
theorem dX10_loops_115 : decode cX10_loops 115 = .ok (.goto (-45), 3) := by decide +kernel
theorem dX10_loops_118 : decode cX10_loops 118 = .ok (.aload_n 0, 1) := by decide +kernel
theorem dX10_loops_119 : decode cX10_loops 119 = .ok (.getfield 127, 3) := by decide +kernel
theorem dX10_loops_122 : decode cX10_loops 122 = .ok (.ireturn, 1) := by decide +kernel
theorem dX10_loopStep_0 : decode cX10_loopStep 0 = .ok (.iload_n 2, 1) := by decide +kernel
theorem dX10_loopStep_1 : decode cX10_loopStep 1 = .ok (.i2l, 1) := by decide +kernel
theorem dX10_loopStep_2 : decode cX10_loopStep 2 = .ok (.lconst 0, 1) := by decide +kernel
theorem dX10_loopStep_3 : decode cX10_loopStep 3 = .ok (.lconst 1, 1) := by decide +kernel
theorem dX10_loopStep_4 : decode cX10_loopStep 4 = .ok (.invokestatic 115, 3) := by decide +kernel
theorem dX10_loopStep_7 : decode cX10_loopStep 7 = .ok (.ifCond .ne 5, 3) := by decide +kernel
theorem dX10_loopStep_10 : decode cX10_loopStep 10 = .ok (.iconst (-1), 1) := by decide +kernel
theorem dX10_loopStep_11 : decode cX10_loopStep 11 = .ok (.ireturn, 1) := by decide +kernel
theorem dX10_loopStep_12 : decode cX10_loopStep 12 = .ok (.iload_n 1, 1) := by decide +kernel
theorem dX10_loopStep_13 : decode cX10_loopStep 13 = .ok (.i2l, 1) := by decide +kernel
theorem dX10_loopStep_14 : decode cX10_loopStep 14 = .ok (.lconst 0, 1) := by decide +kernel
theorem dX10_loopStep_15 : decode cX10_loopStep 15 = .ok (.aload_n 0, 1) := by decide +kernel
theorem dX10_loopStep_16 : decode cX10_loopStep 16 = .ok (.getfield 127, 3) := by decide +kernel
theorem dX10_loopStep_19 : decode cX10_loopStep 19 = .ok (.iconst 1, 1) := by decide +kernel
theorem dX10_loopStep_20 : decode cX10_loopStep 20 = .ok (.isub, 1) := by decide +kernel
theorem dX10_loopStep_21 : decode cX10_loopStep 21 = .ok (.i2l, 1) := by decide +kernel
theorem dX10_loopStep_22 : decode cX10_loopStep 22 = .ok (.invokestatic 115, 3) := by decide +kernel
theorem dX10_loopStep_25 : decode cX10_loopStep 25 = .ok (.ifCond .eq 25, 3) := by decide +kernel
theorem dX10_loopStep_28 : decode cX10_loopStep 28 = .ok (.iload_n 2, 1) := by decide +kernel
theorem dX10_loopStep_29 : decode cX10_loopStep 29 = .ok (.ifCond .ne 12, 3) := by decide +kernel
theorem dX10_loopStep_32 : decode cX10_loopStep 32 = .ok (.aload_n 0, 1) := by decide +kernel
theorem dX10_loopStep_33 : decode cX10_loopStep 33 = .ok (.getfield 38, 3) := by decide +kernel
theorem dX10_loopStep_36 : decode cX10_loopStep 36 = .ok (.iload_n 1, 1) := by decide +kernel
theorem dX10_loopStep_37 : decode cX10_loopStep 37 = .ok (.iaload, 1) := by decide +kernel
theorem dX10_loopStep_38 : decode cX10_loopStep 38 = .ok (.goto 14, 3) := by decide +kernel
theorem dX10_loopStep_41 : decode cX10_loopStep 41 = .ok (.aload_n 0, 1) := by decide +kernel
theorem dX10_loopStep_42 : decode cX10_loopStep 42 = .ok (.getfield 41, 3) := by decide +kernel
theorem dX10_loopStep_45 : decode cX10_loopStep 45 = .ok (.iload_n 1, 1) := by decide +kernel
theorem dX10_loopStep_46 : decode cX10_loopStep 46 = .ok (.iaload, 1) := by decide +kernel
theorem dX10_loopStep_47 : decode cX10_loopStep 47 = .ok (.goto 5, 3) := by decide +kernel
theorem dX10_loopStep_50 : decode cX10_loopStep 50 = .ok (.bipush (-6), 2) := by decide +kernel
theorem dX10_loopStep_52 : decode cX10_loopStep 52 = .ok (.ireturn, 1) := by decide +kernel
theorem dX10_marginOf_0 : decode cX10_marginOf 0 = .ok (.fconst 0, 1) := by decide +kernel
theorem dX10_marginOf_1 : decode cX10_marginOf 1 = .ok (.fstore_n 2, 1) := by decide +kernel
theorem dX10_marginOf_2 : decode cX10_marginOf 2 = .ok (.iconst 0, 1) := by decide +kernel
theorem dX10_marginOf_3 : decode cX10_marginOf 3 = .ok (.istore_n 3, 1) := by decide +kernel
theorem dX10_marginOf_4 : decode cX10_marginOf 4 = .ok (.iload_n 3, 1) := by decide +kernel
theorem dX10_marginOf_5 : decode cX10_marginOf 5 = .ok (.aload_n 0, 1) := by decide +kernel
theorem dX10_marginOf_6 : decode cX10_marginOf 6 = .ok (.getfield 9, 3) := by decide +kernel
theorem dX10_marginOf_9 : decode cX10_marginOf 9 = .ok (.if_icmp .ge 26, 3) := by decide +kernel
theorem dX10_marginOf_12 : decode cX10_marginOf 12 = .ok (.fload_n 2, 1) := by decide +kernel
theorem dX10_marginOf_13 : decode cX10_marginOf 13 = .ok (.aload_n 0, 1) := by decide +kernel
theorem dX10_marginOf_14 : decode cX10_marginOf 14 = .ok (.iload_n 1, 1) := by decide +kernel
theorem dX10_marginOf_15 : decode cX10_marginOf 15 = .ok (.iload_n 3, 1) := by decide +kernel
theorem dX10_marginOf_16 : decode cX10_marginOf 16 = .ok (.invokevirtual 159, 3) := by decide +kernel
theorem dX10_marginOf_19 : decode cX10_marginOf 19 = .ok (.i2f, 1) := by decide +kernel
theorem dX10_marginOf_20 : decode cX10_marginOf 20 = .ok (.aload_n 0, 1) := by decide +kernel
theorem dX10_marginOf_21 : decode cX10_marginOf 21 = .ok (.getfield 28, 3) := by decide +kernel
theorem dX10_marginOf_24 : decode cX10_marginOf 24 = .ok (.iload_n 3, 1) := by decide +kernel
theorem dX10_marginOf_25 : decode cX10_marginOf 25 = .ok (.faload, 1) := by decide +kernel
theorem dX10_marginOf_26 : decode cX10_marginOf 26 = .ok (.fmul, 1) := by decide +kernel
theorem dX10_marginOf_27 : decode cX10_marginOf 27 = .ok (.fadd, 1) := by decide +kernel
theorem dX10_marginOf_28 : decode cX10_marginOf 28 = .ok (.fstore_n 2, 1) := by decide +kernel
theorem dX10_marginOf_29 : decode cX10_marginOf 29 = .ok (.iinc 3 1, 3) := by decide +kernel
theorem dX10_marginOf_32 : decode cX10_marginOf 32 = .ok (.goto (-28), 3) := by decide +kernel
theorem dX10_marginOf_35 : decode cX10_marginOf 35 = .ok (.fload_n 2, 1) := by decide +kernel
theorem dX10_marginOf_36 : decode cX10_marginOf 36 = .ok (.freturn, 1) := by decide +kernel
theorem dX10_improve_0 : decode cX10_improve 0 = .ok (.iload_n 1, 1) := by decide +kernel
theorem dX10_improve_1 : decode cX10_improve 1 = .ok (.i2l, 1) := by decide +kernel
theorem dX10_improve_2 : decode cX10_improve 2 = .ok (.lconst 1, 1) := by decide +kernel
theorem dX10_improve_3 : decode cX10_improve 3 = .ok (.ldc2_w 251, 3) := by decide +kernel
theorem dX10_improve_6 : decode cX10_improve 6 = .ok (.invokestatic 115, 3) := by decide +kernel
theorem dX10_improve_9 : decode cX10_improve 9 = .ok (.ifCond .ne 5, 3) := by decide +kernel
theorem dX10_improve_12 : decode cX10_improve 12 = .ok (.iconst (-1), 1) := by decide +kernel
theorem dX10_improve_13 : decode cX10_improve 13 = .ok (.ireturn, 1) := by decide +kernel
theorem dX10_improve_14 : decode cX10_improve 14 = .ok (.iconst 0, 1) := by decide +kernel
theorem dX10_improve_15 : decode cX10_improve 15 = .ok (.istore_n 2, 1) := by decide +kernel
theorem dX10_improve_16 : decode cX10_improve 16 = .ok (.iload_n 2, 1) := by decide +kernel
theorem dX10_improve_17 : decode cX10_improve 17 = .ok (.iload_n 1, 1) := by decide +kernel
theorem dX10_improve_18 : decode cX10_improve 18 = .ok (.if_icmp .ge 97, 3) := by decide +kernel
theorem dX10_improve_21 : decode cX10_improve 21 = .ok (.iconst 0, 1) := by decide +kernel
theorem dX10_improve_22 : decode cX10_improve 22 = .ok (.istore_n 3, 1) := by decide +kernel
theorem dX10_improve_23 : decode cX10_improve 23 = .ok (.iload_n 3, 1) := by decide +kernel
theorem dX10_improve_24 : decode cX10_improve 24 = .ok (.aload_n 0, 1) := by decide +kernel
theorem dX10_improve_25 : decode cX10_improve 25 = .ok (.getfield 119, 3) := by decide +kernel
theorem dX10_improve_28 : decode cX10_improve 28 = .ok (.if_icmp .ge 81, 3) := by decide +kernel
theorem dX10_improve_31 : decode cX10_improve 31 = .ok (.aload_n 0, 1) := by decide +kernel
theorem dX10_improve_32 : decode cX10_improve 32 = .ok (.iload_n 3, 1) := by decide +kernel
theorem dX10_improve_33 : decode cX10_improve 33 = .ok (.invokevirtual 253, 3) := by decide +kernel
theorem dX10_improve_36 : decode cX10_improve 36 = .ok (.ldc_w 257, 3) := by decide +kernel
theorem dX10_improve_39 : decode cX10_improve 39 = .ok (.fcmp .g, 1) := by decide +kernel
theorem dX10_improve_40 : decode cX10_improve 40 = .ok (.ifCond .ge 63, 3) := by decide +kernel
theorem dX10_improve_43 : decode cX10_improve 43 = .ok (.iconst 0, 1) := by decide +kernel
theorem dX10_improve_44 : decode cX10_improve 44 = .ok (.istore 4, 2) := by decide +kernel
theorem dX10_improve_46 : decode cX10_improve 46 = .ok (.iload 4, 2) := by decide +kernel
theorem dX10_improve_48 : decode cX10_improve 48 = .ok (.aload_n 0, 1) := by decide +kernel
theorem dX10_improve_49 : decode cX10_improve 49 = .ok (.getfield 9, 3) := by decide +kernel
theorem dX10_improve_52 : decode cX10_improve 52 = .ok (.if_icmp .ge 51, 3) := by decide +kernel
theorem dX10_improve_55 : decode cX10_improve 55 = .ok (.aload_n 0, 1) := by decide +kernel
theorem dX10_improve_56 : decode cX10_improve 56 = .ok (.getfield 28, 3) := by decide +kernel
theorem dX10_improve_59 : decode cX10_improve 59 = .ok (.iload 4, 2) := by decide +kernel
theorem dX10_improve_61 : decode cX10_improve 61 = .ok (.faload, 1) := by decide +kernel
theorem dX10_improve_62 : decode cX10_improve 62 = .ok (.aload_n 0, 1) := by decide +kernel
theorem dX10_improve_63 : decode cX10_improve 63 = .ok (.iload_n 3, 1) := by decide +kernel
theorem dX10_improve_64 : decode cX10_improve 64 = .ok (.iload 4, 2) := by decide +kernel
theorem dX10_improve_66 : decode cX10_improve 66 = .ok (.invokevirtual 159, 3) := by decide +kernel
theorem dX10_improve_69 : decode cX10_improve 69 = .ok (.i2f, 1) := by decide +kernel
theorem dX10_improve_70 : decode cX10_improve 70 = .ok (.ldc_w 258, 3) := by decide +kernel
theorem dX10_improve_73 : decode cX10_improve 73 = .ok (.fmul, 1) := by decide +kernel
theorem dX10_improve_74 : decode cX10_improve 74 = .ok (.fadd, 1) := by decide +kernel
theorem dX10_improve_75 : decode cX10_improve 75 = .ok (.fstore 5, 2) := by decide +kernel
theorem dX10_improve_77 : decode cX10_improve 77 = .ok (.aload_n 0, 1) := by decide +kernel
theorem dX10_improve_78 : decode cX10_improve 78 = .ok (.getfield 28, 3) := by decide +kernel
theorem dX10_improve_81 : decode cX10_improve 81 = .ok (.iload 4, 2) := by decide +kernel
theorem dX10_improve_83 : decode cX10_improve 83 = .ok (.fload 5, 2) := by decide +kernel
theorem dX10_improve_85 : decode cX10_improve 85 = .ok (.fconst 0, 1) := by decide +kernel
theorem dX10_improve_86 : decode cX10_improve 86 = .ok (.fcmp .g, 1) := by decide +kernel
theorem dX10_improve_87 : decode cX10_improve 87 = .ok (.ifCond .ge 7, 3) := by decide +kernel
theorem dX10_improve_90 : decode cX10_improve 90 = .ok (.fconst 0, 1) := by decide +kernel
theorem dX10_improve_91 : decode cX10_improve 91 = .ok (.goto 5, 3) := by decide +kernel
theorem dX10_improve_94 : decode cX10_improve 94 = .ok (.fload 5, 2) := by decide +kernel
theorem dX10_improve_96 : decode cX10_improve 96 = .ok (.fastore, 1) := by decide +kernel
theorem dX10_improve_97 : decode cX10_improve 97 = .ok (.iinc 4 1, 3) := by decide +kernel
theorem dX10_improve_100 : decode cX10_improve 100 = .ok (.goto (-54), 3) := by decide +kernel
theorem dX10_improve_103 : decode cX10_improve 103 = .ok (.iinc 3 1, 3) := by decide +kernel
theorem dX10_improve_106 : decode cX10_improve 106 = .ok (.goto (-83), 3) := by decide +kernel
theorem dX10_improve_109 : decode cX10_improve 109 = .ok (.iinc 2 1, 3) := by decide +kernel
theorem dX10_improve_112 : decode cX10_improve 112 = .ok (.goto (-96), 3) := by decide +kernel
theorem dX10_improve_115 : decode cX10_improve 115 = .ok (.iconst 0, 1) := by decide +kernel
theorem dX10_improve_116 : decode cX10_improve 116 = .ok (.istore_n 2, 1) := by decide +kernel
theorem dX10_improve_117 : decode cX10_improve 117 = .ok (.iconst 0, 1) := by decide +kernel
theorem dX10_improve_118 : decode cX10_improve 118 = .ok (.istore_n 3, 1) := by decide +kernel
theorem dX10_improve_119 : decode cX10_improve 119 = .ok (.iload_n 3, 1) := by decide +kernel
theorem dX10_improve_120 : decode cX10_improve 120 = .ok (.aload_n 0, 1) := by decide +kernel
theorem dX10_improve_121 : decode cX10_improve 121 = .ok (.getfield 119, 3) := by decide +kernel
theorem dX10_improve_124 : decode cX10_improve 124 = .ok (.if_icmp .ge 29, 3) := by decide +kernel
theorem dX10_improve_127 : decode cX10_improve 127 = .ok (.iload_n 2, 1) := by decide +kernel
