theorem dX0_init_0 : decode cX0_init 0 = .ok (.aload_n 0, 1) := by decide +kernel
theorem dX0_init_1 : decode cX0_init 1 = .ok (.invokespecial 3, 3) := by decide +kernel
theorem dX0_init_4 : decode cX0_init 4 = .ok (.aload_n 0, 1) := by decide +kernel
theorem dX0_init_5 : decode cX0_init 5 = .ok (.iconst 0, 1) := by decide +kernel
theorem dX0_init_6 : decode cX0_init 6 = .ok (.putfield 9, 3) := by decide +kernel
theorem dX0_init_9 : decode cX0_init 9 = .ok (.aload_n 0, 1) := by decide +kernel
theorem dX0_init_10 : decode cX0_init 10 = .ok (.sipush 200, 3) := by decide +kernel
theorem dX0_init_13 : decode cX0_init 13 = .ok (.newarray .long, 2) := by decide +kernel
theorem dX0_init_15 : decode cX0_init 15 = .ok (.putfield 15, 3) := by decide +kernel
theorem dX0_init_18 : decode cX0_init 18 = .ok (.aload_n 0, 1) := by decide +kernel
theorem dX0_init_19 : decode cX0_init 19 = .ok (.sipush 512, 3) := by decide +kernel
theorem dX0_init_22 : decode cX0_init 22 = .ok (.newarray .int, 2) := by decide +kernel
theorem dX0_init_24 : decode cX0_init 24 = .ok (.putfield 19, 3) := by decide +kernel
theorem dX0_init_27 : decode cX0_init 27 = .ok (.aload_n 0, 1) := by decide +kernel
theorem dX0_init_28 : decode cX0_init 28 = .ok (.sipush 200, 3) := by decide +kernel
theorem dX0_init_31 : decode cX0_init 31 = .ok (.newarray .int, 2) := by decide +kernel
theorem dX0_init_33 : decode cX0_init 33 = .ok (.putfield 23, 3) := by decide +kernel
theorem dX0_init_36 : decode cX0_init 36 = .ok (.aload_n 0, 1) := by decide +kernel
theorem dX0_init_37 : decode cX0_init 37 = .ok (.sipush 200, 3) := by decide +kernel
theorem dX0_init_40 : decode cX0_init 40 = .ok (.newarray .int, 2) := by decide +kernel
theorem dX0_init_42 : decode cX0_init 42 = .ok (.putfield 26, 3) := by decide +kernel
theorem dX0_init_45 : decode cX0_init 45 = .ok (.aload_n 0, 1) := by decide +kernel
theorem dX0_init_46 : decode cX0_init 46 = .ok (.sipush 200, 3) := by decide +kernel
theorem dX0_init_49 : decode cX0_init 49 = .ok (.newarray .int, 2) := by decide +kernel
theorem dX0_init_51 : decode cX0_init 51 = .ok (.putfield 29, 3) := by decide +kernel
theorem dX0_init_54 : decode cX0_init 54 = .ok (.aload_n 0, 1) := by decide +kernel
theorem dX0_init_55 : decode cX0_init 55 = .ok (.sipush 200, 3) := by decide +kernel
theorem dX0_init_58 : decode cX0_init 58 = .ok (.newarray .int, 2) := by decide +kernel
theorem dX0_init_60 : decode cX0_init 60 = .ok (.putfield 32, 3) := by decide +kernel
theorem dX0_init_63 : decode cX0_init 63 = .ok (.aload_n 0, 1) := by decide +kernel
theorem dX0_init_64 : decode cX0_init 64 = .ok (.sipush 200, 3) := by decide +kernel
theorem dX0_init_67 : decode cX0_init 67 = .ok (.newarray .int, 2) := by decide +kernel
theorem dX0_init_69 : decode cX0_init 69 = .ok (.putfield 35, 3) := by decide +kernel
theorem dX0_init_72 : decode cX0_init 72 = .ok (.aload_n 0, 1) := by decide +kernel
theorem dX0_init_73 : decode cX0_init 73 = .ok (.sipush 200, 3) := by decide +kernel
theorem dX0_init_76 : decode cX0_init 76 = .ok (.newarray .int, 2) := by decide +kernel
theorem dX0_init_78 : decode cX0_init 78 = .ok (.putfield 38, 3) := by decide +kernel
theorem dX0_init_81 : decode cX0_init 81 = .ok (.aload_n 0, 1) := by decide +kernel
theorem dX0_init_82 : decode cX0_init 82 = .ok (.iconst 0, 1) := by decide +kernel
theorem dX0_init_83 : decode cX0_init 83 = .ok (.putfield 41, 3) := by decide +kernel
theorem dX0_init_86 : decode cX0_init 86 = .ok (.return_, 1) := by decide +kernel
theorem dX0_start_0 : decode cX0_start 0 = .ok (.aload_n 0, 1) := by decide +kernel
theorem dX0_start_1 : decode cX0_start 1 = .ok (.iconst 0, 1) := by decide +kernel
theorem dX0_start_2 : decode cX0_start 2 = .ok (.putfield 9, 3) := by decide +kernel
theorem dX0_start_5 : decode cX0_start 5 = .ok (.aload_n 0, 1) := by decide +kernel
theorem dX0_start_6 : decode cX0_start 6 = .ok (.getfield 19, 3) := by decide +kernel
theorem dX0_start_9 : decode cX0_start 9 = .ok (.iconst 0, 1) := by decide +kernel
theorem dX0_start_10 : decode cX0_start 10 = .ok (.invokestatic 44, 3) := by decide +kernel
theorem dX0_start_13 : decode cX0_start 13 = .ok (.aload_n 0, 1) := by decide +kernel
theorem dX0_start_14 : decode cX0_start 14 = .ok (.lload_n 1, 1) := by decide +kernel
theorem dX0_start_15 : decode cX0_start 15 = .ok (.invokevirtual 50, 3) := by decide +kernel
theorem dX0_start_18 : decode cX0_start 18 = .ok (.pop, 1) := by decide +kernel
theorem dX0_start_19 : decode cX0_start 19 = .ok (.return_, 1) := by decide +kernel
theorem dX0_placeOf_0 : decode cX0_placeOf 0 = .ok (.lload_n 1, 1) := by decide +kernel
theorem dX0_placeOf_1 : decode cX0_placeOf 1 = .ok (.ldc2_w 54, 3) := by decide +kernel
theorem dX0_placeOf_4 : decode cX0_placeOf 4 = .ok (.lmul, 1) := by decide +kernel
theorem dX0_placeOf_5 : decode cX0_placeOf 5 = .ok (.bipush 55, 2) := by decide +kernel
theorem dX0_placeOf_7 : decode cX0_placeOf 7 = .ok (.lushr, 1) := by decide +kernel
theorem dX0_placeOf_8 : decode cX0_placeOf 8 = .ok (.l2i, 1) := by decide +kernel
theorem dX0_placeOf_9 : decode cX0_placeOf 9 = .ok (.istore_n 3, 1) := by decide +kernel
theorem dX0_placeOf_10 : decode cX0_placeOf 10 = .ok (.iconst 0, 1) := by decide +kernel
theorem dX0_placeOf_11 : decode cX0_placeOf 11 = .ok (.istore 4, 2) := by decide +kernel
theorem dX0_placeOf_13 : decode cX0_placeOf 13 = .ok (.iload 4, 2) := by decide +kernel
theorem dX0_placeOf_15 : decode cX0_placeOf 15 = .ok (.sipush 512, 3) := by decide +kernel
theorem dX0_placeOf_18 : decode cX0_placeOf 18 = .ok (.if_icmp .ge 58, 3) := by decide +kernel
theorem dX0_placeOf_21 : decode cX0_placeOf 21 = .ok (.iload_n 3, 1) := by decide +kernel
theorem dX0_placeOf_22 : decode cX0_placeOf 22 = .ok (.iload 4, 2) := by decide +kernel
theorem dX0_placeOf_24 : decode cX0_placeOf 24 = .ok (.iadd, 1) := by decide +kernel
theorem dX0_placeOf_25 : decode cX0_placeOf 25 = .ok (.sipush 511, 3) := by decide +kernel
theorem dX0_placeOf_28 : decode cX0_placeOf 28 = .ok (.iand, 1) := by decide +kernel
theorem dX0_placeOf_29 : decode cX0_placeOf 29 = .ok (.istore 5, 2) := by decide +kernel
theorem dX0_placeOf_31 : decode cX0_placeOf 31 = .ok (.aload_n 0, 1) := by decide +kernel
theorem dX0_placeOf_32 : decode cX0_placeOf 32 = .ok (.getfield 19, 3) := by decide +kernel
theorem dX0_placeOf_35 : decode cX0_placeOf 35 = .ok (.iload 5, 2) := by decide +kernel
theorem dX0_placeOf_37 : decode cX0_placeOf 37 = .ok (.iaload, 1) := by decide +kernel
theorem dX0_placeOf_38 : decode cX0_placeOf 38 = .ok (.iconst 1, 1) := by decide +kernel
theorem dX0_placeOf_39 : decode cX0_placeOf 39 = .ok (.isub, 1) := by decide +kernel
theorem dX0_placeOf_40 : decode cX0_placeOf 40 = .ok (.istore 6, 2) := by decide +kernel
theorem dX0_placeOf_42 : decode cX0_placeOf 42 = .ok (.iload 6, 2) := by decide +kernel
theorem dX0_placeOf_44 : decode cX0_placeOf 44 = .ok (.ifCond .lt 23, 3) := by decide +kernel
theorem dX0_placeOf_47 : decode cX0_placeOf 47 = .ok (.iload 6, 2) := by decide +kernel
theorem dX0_placeOf_49 : decode cX0_placeOf 49 = .ok (.sipush 200, 3) := by decide +kernel
theorem dX0_placeOf_52 : decode cX0_placeOf 52 = .ok (.if_icmp .ge 15, 3) := by decide +kernel
theorem dX0_placeOf_55 : decode cX0_placeOf 55 = .ok (.aload_n 0, 1) := by decide +kernel
theorem dX0_placeOf_56 : decode cX0_placeOf 56 = .ok (.getfield 15, 3) := by decide +kernel
theorem dX0_placeOf_59 : decode cX0_placeOf 59 = .ok (.iload 6, 2) := by decide +kernel
theorem dX0_placeOf_61 : decode cX0_placeOf 61 = .ok (.laload, 1) := by decide +kernel
theorem dX0_placeOf_62 : decode cX0_placeOf 62 = .ok (.lload_n 1, 1) := by decide +kernel
theorem dX0_placeOf_63 : decode cX0_placeOf 63 = .ok (.lcmp, 1) := by decide +kernel
theorem dX0_placeOf_64 : decode cX0_placeOf 64 = .ok (.ifCond .ne 6, 3) := by decide +kernel
theorem dX0_placeOf_67 : decode cX0_placeOf 67 = .ok (.iload 5, 2) := by decide +kernel
theorem dX0_placeOf_69 : decode cX0_placeOf 69 = .ok (.ireturn, 1) := by decide +kernel
theorem dX0_placeOf_70 : decode cX0_placeOf 70 = .ok (.iinc 4 1, 3) := by decide +kernel
theorem dX0_placeOf_73 : decode cX0_placeOf 73 = .ok (.goto (-60), 3) := by decide +kernel
theorem dX0_placeOf_76 : decode cX0_placeOf 76 = .ok (.iload_n 3, 1) := by decide +kernel
theorem dX0_placeOf_77 : decode cX0_placeOf 77 = .ok (.ireturn, 1) := by decide +kernel
theorem dX0_numberOf_0 : decode cX0_numberOf 0 = .ok (.aload_n 0, 1) := by decide +kernel
theorem dX0_numberOf_1 : decode cX0_numberOf 1 = .ok (.getfield 19, 3) := by decide +kernel
theorem dX0_numberOf_4 : decode cX0_numberOf 4 = .ok (.aload_n 0, 1) := by decide +kernel
theorem dX0_numberOf_5 : decode cX0_numberOf 5 = .ok (.lload_n 1, 1) := by decide +kernel
theorem dX0_numberOf_6 : decode cX0_numberOf 6 = .ok (.invokevirtual 56, 3) := by decide +kernel
theorem dX0_numberOf_9 : decode cX0_numberOf 9 = .ok (.iaload, 1) := by decide +kernel
theorem dX0_numberOf_10 : decode cX0_numberOf 10 = .ok (.iconst 1, 1) := by decide +kernel
theorem dX0_numberOf_11 : decode cX0_numberOf 11 = .ok (.isub, 1) := by decide +kernel
theorem dX0_numberOf_12 : decode cX0_numberOf 12 = .ok (.ireturn, 1) := by decide +kernel
theorem dX0_add_0 : decode cX0_add 0 = .ok (.aload_n 0, 1) := by decide +kernel
theorem dX0_add_1 : decode cX0_add 1 = .ok (.getfield 9, 3) := by decide +kernel
theorem dX0_add_4 : decode cX0_add 4 = .ok (.sipush 200, 3) := by decide +kernel
theorem dX0_add_7 : decode cX0_add 7 = .ok (.if_icmp .lt 5, 3) := by decide +kernel
theorem dX0_add_10 : decode cX0_add 10 = .ok (.iconst (-1), 1) := by decide +kernel
theorem dX0_add_11 : decode cX0_add 11 = .ok (.ireturn, 1) := by decide +kernel
theorem dX0_add_12 : decode cX0_add 12 = .ok (.aload_n 0, 1) := by decide +kernel
theorem dX0_add_13 : decode cX0_add 13 = .ok (.getfield 9, 3) := by decide +kernel
theorem dX0_add_16 : decode cX0_add 16 = .ok (.istore_n 3, 1) := by decide +kernel
theorem dX0_add_17 : decode cX0_add 17 = .ok (.aload_n 0, 1) := by decide +kernel
theorem dX0_add_18 : decode cX0_add 18 = .ok (.getfield 15, 3) := by decide +kernel
theorem dX0_add_21 : decode cX0_add 21 = .ok (.iload_n 3, 1) := by decide +kernel
theorem dX0_add_22 : decode cX0_add 22 = .ok (.lload_n 1, 1) := by decide +kernel
theorem dX0_add_23 : decode cX0_add 23 = .ok (.lastore, 1) := by decide +kernel
theorem dX0_add_24 : decode cX0_add 24 = .ok (.aload_n 0, 1) := by decide +kernel
theorem dX0_add_25 : decode cX0_add 25 = .ok (.getfield 23, 3) := by decide +kernel
theorem dX0_add_28 : decode cX0_add 28 = .ok (.iload_n 3, 1) := by decide +kernel
theorem dX0_add_29 : decode cX0_add 29 = .ok (.iconst (-1), 1) := by decide +kernel
theorem dX0_add_30 : decode cX0_add 30 = .ok (.iastore, 1) := by decide +kernel
theorem dX0_add_31 : decode cX0_add 31 = .ok (.aload_n 0, 1) := by decide +kernel
theorem dX0_add_32 : decode cX0_add 32 = .ok (.getfield 26, 3) := by decide +kernel
theorem dX0_add_35 : decode cX0_add 35 = .ok (.iload_n 3, 1) := by decide +kernel
theorem dX0_add_36 : decode cX0_add 36 = .ok (.iconst 0, 1) := by decide +kernel
theorem dX0_add_37 : decode cX0_add 37 = .ok (.iastore, 1) := by decide +kernel
theorem dX0_add_38 : decode cX0_add 38 = .ok (.aload_n 0, 1) := by decide +kernel
theorem dX0_add_39 : decode cX0_add 39 = .ok (.getfield 35, 3) := by decide +kernel
theorem dX0_add_42 : decode cX0_add 42 = .ok (.iload_n 3, 1) := by decide +kernel
theorem dX0_add_43 : decode cX0_add 43 = .ok (.iconst 0, 1) := by decide +kernel
theorem dX0_add_44 : decode cX0_add 44 = .ok (.iastore, 1) := by decide +kernel
theorem dX0_add_45 : decode cX0_add 45 = .ok (.aload_n 0, 1) := by decide +kernel
theorem dX0_add_46 : decode cX0_add 46 = .ok (.getfield 19, 3) := by decide +kernel
theorem dX0_add_49 : decode cX0_add 49 = .ok (.aload_n 0, 1) := by decide +kernel
theorem dX0_add_50 : decode cX0_add 50 = .ok (.lload_n 1, 1) := by decide +kernel
theorem dX0_add_51 : decode cX0_add 51 = .ok (.invokevirtual 56, 3) := by decide +kernel
theorem dX0_add_54 : decode cX0_add 54 = .ok (.iload_n 3, 1) := by decide +kernel
theorem dX0_add_55 : decode cX0_add 55 = .ok (.iconst 1, 1) := by decide +kernel
theorem dX0_add_56 : decode cX0_add 56 = .ok (.iadd, 1) := by decide +kernel
theorem dX0_add_57 : decode cX0_add 57 = .ok (.iastore, 1) := by decide +kernel
theorem dX0_add_58 : decode cX0_add 58 = .ok (.aload_n 0, 1) := by decide +kernel
theorem dX0_add_59 : decode cX0_add 59 = .ok (.dup, 1) := by decide +kernel
theorem dX0_add_60 : decode cX0_add 60 = .ok (.getfield 9, 3) := by decide +kernel
theorem dX0_add_63 : decode cX0_add 63 = .ok (.iconst 1, 1) := by decide +kernel
theorem dX0_add_64 : decode cX0_add 64 = .ok (.iadd, 1) := by decide +kernel
theorem dX0_add_65 : decode cX0_add 65 = .ok (.putfield 9, 3) := by decide +kernel
theorem dX0_add_68 : decode cX0_add 68 = .ok (.iload_n 3, 1) := by decide +kernel
theorem dX0_add_69 : decode cX0_add 69 = .ok (.ireturn, 1) := by decide +kernel
theorem dX0_collectAll_0 : decode cX0_collectAll 0 = .ok (.aload_n 0, 1) := by decide +kernel
theorem dX0_collectAll_1 : decode cX0_collectAll 1 = .ok (.aload_n 1, 1) := by decide +kernel
theorem dX0_collectAll_2 : decode cX0_collectAll 2 = .ok (.getfield 59, 3) := by decide +kernel
theorem dX0_collectAll_5 : decode cX0_collectAll 5 = .ok (.invokevirtual 65, 3) := by decide +kernel
theorem dX0_collectAll_8 : decode cX0_collectAll 8 = .ok (.iconst 0, 1) := by decide +kernel
theorem dX0_collectAll_9 : decode cX0_collectAll 9 = .ok (.istore_n 2, 1) := by decide +kernel
theorem dX0_collectAll_10 : decode cX0_collectAll 10 = .ok (.iload_n 2, 1) := by decide +kernel
theorem dX0_collectAll_11 : decode cX0_collectAll 11 = .ok (.aload_n 0, 1) := by decide +kernel
theorem dX0_collectAll_12 : decode cX0_collectAll 12 = .ok (.getfield 9, 3) := by decide +kernel
theorem dX0_collectAll_15 : decode cX0_collectAll 15 = .ok (.if_icmp .ge 32, 3) := by decide +kernel
theorem dX0_collectAll_18 : decode cX0_collectAll 18 = .ok (.iload_n 2, 1) := by decide +kernel
theorem dX0_collectAll_19 : decode cX0_collectAll 19 = .ok (.sipush 200, 3) := by decide +kernel
theorem dX0_collectAll_22 : decode cX0_collectAll 22 = .ok (.if_icmp .ge 25, 3) := by decide +kernel
theorem dX0_collectAll_25 : decode cX0_collectAll 25 = .ok (.aload_n 0, 1) := by decide +kernel
theorem dX0_collectAll_26 : decode cX0_collectAll 26 = .ok (.aload_n 1, 1) := by decide +kernel
theorem dX0_collectAll_27 : decode cX0_collectAll 27 = .ok (.aload_n 0, 1) := by decide +kernel
theorem dX0_collectAll_28 : decode cX0_collectAll 28 = .ok (.getfield 15, 3) := by decide +kernel
theorem dX0_collectAll_31 : decode cX0_collectAll 31 = .ok (.iload_n 2, 1) := by decide +kernel
theorem dX0_collectAll_32 : decode cX0_collectAll 32 = .ok (.laload, 1) := by decide +kernel
theorem dX0_collectAll_33 : decode cX0_collectAll 33 = .ok (.invokevirtual 69, 3) := by decide +kernel
theorem dX0_collectAll_36 : decode cX0_collectAll 36 = .ok (.ifCond .ne 5, 3) := by decide +kernel
theorem dX0_collectAll_39 : decode cX0_collectAll 39 = .ok (.iconst 0, 1) := by decide +kernel
theorem dX0_collectAll_40 : decode cX0_collectAll 40 = .ok (.ireturn, 1) := by decide +kernel
theorem dX0_collectAll_41 : decode cX0_collectAll 41 = .ok (.iinc 2 1, 3) := by decide +kernel
theorem dX0_collectAll_44 : decode cX0_collectAll 44 = .ok (.goto (-34), 3) := by decide +kernel
theorem dX0_collectAll_47 : decode cX0_collectAll 47 = .ok (.iconst 1, 1) := by decide +kernel
theorem dX0_collectAll_48 : decode cX0_collectAll 48 = .ok (.ireturn, 1) := by decide +kernel
theorem dX0_expand_0 : decode cX0_expand 0 = .ok (.iconst 0, 1) := by decide +kernel
theorem dX0_expand_1 : decode cX0_expand 1 = .ok (.istore 4, 2) := by decide +kernel
theorem dX0_expand_3 : decode cX0_expand 3 = .ok (.iload 4, 2) := by decide +kernel
theorem dX0_expand_5 : decode cX0_expand 5 = .ok (.lload_n 2, 1) := by decide +kernel
theorem dX0_expand_6 : decode cX0_expand 6 = .ok (.invokestatic 73, 3) := by decide +kernel
theorem dX0_expand_9 : decode cX0_expand 9 = .ok (.if_icmp .ge 58, 3) := by decide +kernel
theorem dX0_expand_12 : decode cX0_expand 12 = .ok (.iconst 0, 1) := by decide +kernel
theorem dX0_expand_13 : decode cX0_expand 13 = .ok (.istore 5, 2) := by decide +kernel
theorem dX0_expand_15 : decode cX0_expand 15 = .ok (.iload 5, 2) := by decide +kernel
theorem dX0_expand_17 : decode cX0_expand 17 = .ok (.aload_n 1, 1) := by decide +kernel
theorem dX0_expand_18 : decode cX0_expand 18 = .ok (.getfield 78, 3) := by decide +kernel
theorem dX0_expand_21 : decode cX0_expand 21 = .ok (.if_icmp .ge 40, 3) := by decide +kernel
theorem dX0_expand_24 : decode cX0_expand 24 = .ok (.aload_n 1, 1) := by decide +kernel
theorem dX0_expand_25 : decode cX0_expand 25 = .ok (.lload_n 2, 1) := by decide +kernel
theorem dX0_expand_26 : decode cX0_expand 26 = .ok (.iload 5, 2) := by decide +kernel
theorem dX0_expand_28 : decode cX0_expand 28 = .ok (.iload 4, 2) := by decide +kernel
theorem dX0_expand_30 : decode cX0_expand 30 = .ok (.invokevirtual 80, 3) := by decide +kernel
theorem dX0_expand_33 : decode cX0_expand 33 = .ok (.lstore 6, 2) := by decide +kernel
theorem dX0_expand_35 : decode cX0_expand 35 = .ok (.lload 6, 2) := by decide +kernel
theorem dX0_expand_37 : decode cX0_expand 37 = .ok (.ldc2_w 84, 3) := by decide +kernel
theorem dX0_expand_40 : decode cX0_expand 40 = .ok (.lcmp, 1) := by decide +kernel
theorem dX0_expand_41 : decode cX0_expand 41 = .ok (.ifCond .eq 14, 3) := by decide +kernel
theorem dX0_expand_44 : decode cX0_expand 44 = .ok (.aload_n 0, 1) := by decide +kernel
theorem dX0_expand_45 : decode cX0_expand 45 = .ok (.lload 6, 2) := by decide +kernel
theorem dX0_expand_47 : decode cX0_expand 47 = .ok (.invokevirtual 86, 3) := by decide +kernel
theorem dX0_expand_50 : decode cX0_expand 50 = .ok (.ifCond .ne 5, 3) := by decide +kernel
theorem dX0_expand_53 : decode cX0_expand 53 = .ok (.iconst 0, 1) := by decide +kernel
theorem dX0_expand_54 : decode cX0_expand 54 = .ok (.ireturn, 1) := by decide +kernel
theorem dX0_expand_55 : decode cX0_expand 55 = .ok (.iinc 5 1, 3) := by decide +kernel
theorem dX0_expand_58 : decode cX0_expand 58 = .ok (.goto (-43), 3) := by decide +kernel
theorem dX0_expand_61 : decode cX0_expand 61 = .ok (.iinc 4 1, 3) := by decide +kernel
theorem dX0_expand_64 : decode cX0_expand 64 = .ok (.goto (-61), 3) := by decide +kernel
theorem dX0_expand_67 : decode cX0_expand 67 = .ok (.iconst 1, 1) := by decide +kernel
theorem dX0_expand_68 : decode cX0_expand 68 = .ok (.ireturn, 1) := by decide +kernel
theorem dX0_countStepInto_0 : decode cX0_countStepInto 0 = .ok (.aload_n 0, 1) := by decide +kernel
theorem dX0_countStepInto_1 : decode cX0_countStepInto 1 = .ok (.lload_n 1, 1) := by decide +kernel
theorem dX0_countStepInto_2 : decode cX0_countStepInto 2 = .ok (.invokevirtual 90, 3) := by decide +kernel
theorem dX0_countStepInto_5 : decode cX0_countStepInto 5 = .ok (.istore_n 3, 1) := by decide +kernel
theorem dX0_countStepInto_6 : decode cX0_countStepInto 6 = .ok (.iload_n 3, 1) := by decide +kernel
theorem dX0_countStepInto_7 : decode cX0_countStepInto 7 = .ok (.ifCond .ge 9, 3) := by decide +kernel
theorem dX0_countStepInto_10 : decode cX0_countStepInto 10 = .ok (.aload_n 0, 1) := by decide +kernel
theorem dX0_countStepInto_11 : decode cX0_countStepInto 11 = .ok (.lload_n 1, 1) := by decide +kernel
theorem dX0_countStepInto_12 : decode cX0_countStepInto 12 = .ok (.invokevirtual 50, 3) := by decide +kernel
theorem dX0_countStepInto_15 : decode cX0_countStepInto 15 = .ok (.istore_n 3, 1) := by decide +kernel
theorem dX0_countStepInto_16 : decode cX0_countStepInto 16 = .ok (.iload_n 3, 1) := by decide +kernel
theorem dX0_countStepInto_17 : decode cX0_countStepInto 17 = .ok (.ifCond .ge 5, 3) := by decide +kernel
theorem dX0_countStepInto_20 : decode cX0_countStepInto 20 = .ok (.iconst 0, 1) := by decide +kernel
theorem dX0_countStepInto_21 : decode cX0_countStepInto 21 = .ok (.ireturn, 1) := by decide +kernel
theorem dX0_countStepInto_22 : decode cX0_countStepInto 22 = .ok (.aload_n 0, 1) := by decide +kernel
theorem dX0_countStepInto_23 : decode cX0_countStepInto 23 = .ok (.getfield 35, 3) := by decide +kernel
theorem dX0_countStepInto_26 : decode cX0_countStepInto 26 = .ok (.iload_n 3, 1) := by decide +kernel
theorem dX0_countStepInto_27 : decode cX0_countStepInto 27 = .ok (.dup2, 1) := by decide +kernel
theorem dX0_countStepInto_28 : decode cX0_countStepInto 28 = .ok (.iaload, 1) := by decide +kernel
theorem dX0_countStepInto_29 : decode cX0_countStepInto 29 = .ok (.iconst 1, 1) := by decide +kernel
theorem dX0_countStepInto_30 : decode cX0_countStepInto 30 = .ok (.iadd, 1) := by decide +kernel
theorem dX0_countStepInto_31 : decode cX0_countStepInto 31 = .ok (.iastore, 1) := by decide +kernel
theorem dX0_countStepInto_32 : decode cX0_countStepInto 32 = .ok (.iconst 1, 1) := by decide +kernel
theorem dX0_countStepInto_33 : decode cX0_countStepInto 33 = .ok (.ireturn, 1) := by decide +kernel
theorem dX0_longestFromFirst_0 : decode cX0_longestFromFirst 0 = .ok (.aload_n 0, 1) := by decide +kernel
theorem dX0_longestFromFirst_1 : decode cX0_longestFromFirst 1 = .ok (.iconst 0, 1) := by decide +kernel
theorem dX0_longestFromFirst_2 : decode cX0_longestFromFirst 2 = .ok (.putfield 41, 3) := by decide +kernel
theorem dX0_longestFromFirst_5 : decode cX0_longestFromFirst 5 = .ok (.aload_n 0, 1) := by decide +kernel
theorem dX0_longestFromFirst_6 : decode cX0_longestFromFirst 6 = .ok (.getfield 35, 3) := by decide +kernel
theorem dX0_longestFromFirst_9 : decode cX0_longestFromFirst 9 = .ok (.iconst 0, 1) := by decide +kernel
theorem dX0_longestFromFirst_10 : decode cX0_longestFromFirst 10 = .ok (.iaload, 1) := by decide +kernel
theorem dX0_longestFromFirst_11 : decode cX0_longestFromFirst 11 = .ok (.ifCond .ne 15, 3) := by decide +kernel
theorem dX0_longestFromFirst_14 : decode cX0_longestFromFirst 14 = .ok (.aload_n 0, 1) := by decide +kernel
theorem dX0_longestFromFirst_15 : decode cX0_longestFromFirst 15 = .ok (.getfield 38, 3) := by decide +kernel
theorem dX0_longestFromFirst_18 : decode cX0_longestFromFirst 18 = .ok (.iconst 0, 1) := by decide +kernel
theorem dX0_longestFromFirst_19 : decode cX0_longestFromFirst 19 = .ok (.iconst 0, 1) := by decide +kernel
theorem dX0_longestFromFirst_20 : decode cX0_longestFromFirst 20 = .ok (.iastore, 1) := by decide +kernel
theorem dX0_longestFromFirst_21 : decode cX0_longestFromFirst 21 = .ok (.aload_n 0, 1) := by decide +kernel
theorem dX0_longestFromFirst_22 : decode cX0_longestFromFirst 22 = .ok (.iconst 1, 1) := by decide +kernel
theorem dX0_longestFromFirst_23 : decode cX0_longestFromFirst 23 = .ok (.putfield 41, 3) := by decide +kernel
theorem dX0_longestFromFirst_26 : decode cX0_longestFromFirst 26 = .ok (.iconst 0, 1) := by decide +kernel
theorem dX0_longestFromFirst_27 : decode cX0_longestFromFirst 27 = .ok (.istore_n 2, 1) := by decide +kernel
theorem dX0_longestFromFirst_28 : decode cX0_longestFromFirst 28 = .ok (.iconst 0, 1) := by decide +kernel
theorem dX0_longestFromFirst_29 : decode cX0_longestFromFirst 29 = .ok (.istore_n 3, 1) := by decide +kernel
theorem dX0_longestFromFirst_30 : decode cX0_longestFromFirst 30 = .ok (.iload_n 3, 1) := by decide +kernel
theorem dX0_longestFromFirst_31 : decode cX0_longestFromFirst 31 = .ok (.aload_n 0, 1) := by decide +kernel
theorem dX0_longestFromFirst_32 : decode cX0_longestFromFirst 32 = .ok (.getfield 41, 3) := by decide +kernel
theorem dX0_longestFromFirst_35 : decode cX0_longestFromFirst 35 = .ok (.if_icmp .ge 43, 3) := by decide +kernel
theorem dX0_longestFromFirst_38 : decode cX0_longestFromFirst 38 = .ok (.iload_n 3, 1) := by decide +kernel
theorem dX0_longestFromFirst_39 : decode cX0_longestFromFirst 39 = .ok (.sipush 200, 3) := by decide +kernel
theorem dX0_longestFromFirst_42 : decode cX0_longestFromFirst 42 = .ok (.if_icmp .ge 36, 3) := by decide +kernel
theorem dX0_longestFromFirst_45 : decode cX0_longestFromFirst 45 = .ok (.iload_n 2, 1) := by decide +kernel
theorem dX0_longestFromFirst_46 : decode cX0_longestFromFirst 46 = .ok (.aload_n 0, 1) := by decide +kernel
theorem dX0_longestFromFirst_47 : decode cX0_longestFromFirst 47 = .ok (.getfield 26, 3) := by decide +kernel
theorem dX0_longestFromFirst_50 : decode cX0_longestFromFirst 50 = .ok (.aload_n 0, 1) := by decide +kernel
theorem dX0_longestFromFirst_51 : decode cX0_longestFromFirst 51 = .ok (.getfield 38, 3) := by decide +kernel
theorem dX0_longestFromFirst_54 : decode cX0_longestFromFirst 54 = .ok (.iload_n 3, 1) := by decide +kernel
theorem dX0_longestFromFirst_55 : decode cX0_longestFromFirst 55 = .ok (.iaload, 1) := by decide +kernel
theorem dX0_longestFromFirst_56 : decode cX0_longestFromFirst 56 = .ok (.iaload, 1) := by decide +kernel
theorem dX0_longestFromFirst_57 : decode cX0_longestFromFirst 57 = .ok (.invokestatic 93, 3) := by decide +kernel
theorem dX0_longestFromFirst_60 : decode cX0_longestFromFirst 60 = .ok (.istore_n 2, 1) := by decide +kernel
theorem dX0_longestFromFirst_61 : decode cX0_longestFromFirst 61 = .ok (.aload_n 0, 1) := by decide +kernel
theorem dX0_longestFromFirst_62 : decode cX0_longestFromFirst 62 = .ok (.aload_n 1, 1) := by decide +kernel
theorem dX0_longestFromFirst_63 : decode cX0_longestFromFirst 63 = .ok (.aload_n 0, 1) := by decide +kernel
theorem dX0_longestFromFirst_64 : decode cX0_longestFromFirst 64 = .ok (.getfield 38, 3) := by decide +kernel
theorem dX0_longestFromFirst_67 : decode cX0_longestFromFirst 67 = .ok (.iload_n 3, 1) := by decide +kernel
theorem dX0_longestFromFirst_68 : decode cX0_longestFromFirst 68 = .ok (.iaload, 1) := by decide +kernel
theorem dX0_longestFromFirst_69 : decode cX0_longestFromFirst 69 = .ok (.invokevirtual 99, 3) := by decide +kernel
theorem dX0_longestFromFirst_72 : decode cX0_longestFromFirst 72 = .ok (.iinc 3 1, 3) := by decide +kernel
theorem dX0_longestFromFirst_75 : decode cX0_longestFromFirst 75 = .ok (.goto (-45), 3) := by decide +kernel
theorem dX0_longestFromFirst_78 : decode cX0_longestFromFirst 78 = .ok (.aload_n 0, 1) := by decide +kernel
theorem dX0_longestFromFirst_79 : decode cX0_longestFromFirst 79 = .ok (.getfield 41, 3) := by decide +kernel
theorem dX0_longestFromFirst_82 : decode cX0_longestFromFirst 82 = .ok (.aload_n 0, 1) := by decide +kernel
theorem dX0_longestFromFirst_83 : decode cX0_longestFromFirst 83 = .ok (.getfield 9, 3) := by decide +kernel
theorem dX0_longestFromFirst_86 : decode cX0_longestFromFirst 86 = .ok (.if_icmp .ne 7, 3) := by decide +kernel
theorem dX0_longestFromFirst_89 : decode cX0_longestFromFirst 89 = .ok (.iload_n 2, 1) := by decide +kernel
theorem dX0_longestFromFirst_90 : decode cX0_longestFromFirst 90 = .ok (.goto 5, 3) := by decide +kernel
theorem dX0_longestFromFirst_93 : decode cX0_longestFromFirst 93 = .ok (.bipush (-6), 2) := by decide +kernel
theorem dX0_longestFromFirst_95 : decode cX0_longestFromFirst 95 = .ok (.ireturn, 1) := by decide +kernel
theorem dX0_walkFrom_0 : decode cX0_walkFrom 0 = .ok (.aload_n 0, 1) := by decide +kernel
theorem dX0_walkFrom_1 : decode cX0_walkFrom 1 = .ok (.getfield 15, 3) := by decide +kernel
theorem dX0_walkFrom_4 : decode cX0_walkFrom 4 = .ok (.iload_n 2, 1) := by decide +kernel
theorem dX0_walkFrom_5 : decode cX0_walkFrom 5 = .ok (.laload, 1) := by decide +kernel
theorem dX0_walkFrom_6 : decode cX0_walkFrom 6 = .ok (.lstore_n 3, 1) := by decide +kernel
theorem dX0_walkFrom_7 : decode cX0_walkFrom 7 = .ok (.iconst 0, 1) := by decide +kernel
theorem dX0_walkFrom_8 : decode cX0_walkFrom 8 = .ok (.istore 5, 2) := by decide +kernel
theorem dX0_walkFrom_10 : decode cX0_walkFrom 10 = .ok (.iload 5, 2) := by decide +kernel
theorem dX0_walkFrom_12 : decode cX0_walkFrom 12 = .ok (.lload_n 3, 1) := by decide +kernel
theorem dX0_walkFrom_13 : decode cX0_walkFrom 13 = .ok (.invokestatic 73, 3) := by decide +kernel
theorem dX0_walkFrom_16 : decode cX0_walkFrom 16 = .ok (.if_icmp .ge 65, 3) := by decide +kernel
theorem dX0_walkFrom_19 : decode cX0_walkFrom 19 = .ok (.iconst 0, 1) := by decide +kernel
theorem dX0_walkFrom_20 : decode cX0_walkFrom 20 = .ok (.istore 6, 2) := by decide +kernel
theorem dX0_walkFrom_22 : decode cX0_walkFrom 22 = .ok (.iload 6, 2) := by decide +kernel
theorem dX0_walkFrom_24 : decode cX0_walkFrom 24 = .ok (.aload_n 1, 1) := by decide +kernel
theorem dX0_walkFrom_25 : decode cX0_walkFrom 25 = .ok (.getfield 78, 3) := by decide +kernel
theorem dX0_walkFrom_28 : decode cX0_walkFrom 28 = .ok (.if_icmp .ge 47, 3) := by decide +kernel
theorem dX0_walkFrom_31 : decode cX0_walkFrom 31 = .ok (.aload_n 1, 1) := by decide +kernel
theorem dX0_walkFrom_32 : decode cX0_walkFrom 32 = .ok (.lload_n 3, 1) := by decide +kernel
theorem dX0_walkFrom_33 : decode cX0_walkFrom 33 = .ok (.iload 6, 2) := by decide +kernel
theorem dX0_walkFrom_35 : decode cX0_walkFrom 35 = .ok (.iload 5, 2) := by decide +kernel
theorem dX0_walkFrom_37 : decode cX0_walkFrom 37 = .ok (.invokevirtual 80, 3) := by decide +kernel
theorem dX0_walkFrom_40 : decode cX0_walkFrom 40 = .ok (.lstore 7, 2) := by decide +kernel
theorem dX0_walkFrom_42 : decode cX0_walkFrom 42 = .ok (.lload 7, 2) := by decide +kernel
theorem dX0_walkFrom_44 : decode cX0_walkFrom 44 = .ok (.ldc2_w 84, 3) := by decide +kernel
theorem dX0_walkFrom_47 : decode cX0_walkFrom 47 = .ok (.lcmp, 1) := by decide +kernel
theorem dX0_walkFrom_48 : decode cX0_walkFrom 48 = .ok (.ifCond .eq 21, 3) := by decide +kernel
theorem dX0_walkFrom_51 : decode cX0_walkFrom 51 = .ok (.aload_n 0, 1) := by decide +kernel
theorem dX0_walkFrom_52 : decode cX0_walkFrom 52 = .ok (.aload_n 0, 1) := by decide +kernel
theorem dX0_walkFrom_53 : decode cX0_walkFrom 53 = .ok (.lload 7, 2) := by decide +kernel
theorem dX0_walkFrom_55 : decode cX0_walkFrom 55 = .ok (.invokevirtual 90, 3) := by decide +kernel
theorem dX0_walkFrom_58 : decode cX0_walkFrom 58 = .ok (.aload_n 0, 1) := by decide +kernel
theorem dX0_walkFrom_59 : decode cX0_walkFrom 59 = .ok (.getfield 26, 3) := by decide +kernel
theorem dX0_walkFrom_62 : decode cX0_walkFrom 62 = .ok (.iload_n 2, 1) := by decide +kernel
theorem dX0_walkFrom_63 : decode cX0_walkFrom 63 = .ok (.iaload, 1) := by decide +kernel
theorem dX0_walkFrom_64 : decode cX0_walkFrom 64 = .ok (.iconst 1, 1) := by decide +kernel
theorem dX0_walkFrom_65 : decode cX0_walkFrom 65 = .ok (.iadd, 1) := by decide +kernel
theorem dX0_walkFrom_66 : decode cX0_walkFrom 66 = .ok (.invokevirtual 103, 3) := by decide +kernel
theorem dX0_walkFrom_69 : decode cX0_walkFrom 69 = .ok (.iinc 6 1, 3) := by decide +kernel
theorem dX0_walkFrom_72 : decode cX0_walkFrom 72 = .ok (.goto (-50), 3) := by decide +kernel
theorem dX0_walkFrom_75 : decode cX0_walkFrom 75 = .ok (.iinc 5 1, 3) := by decide +kernel
theorem dX0_walkFrom_78 : decode cX0_walkFrom 78 = .ok (.goto (-68), 3) := by decide +kernel
theorem dX0_walkFrom_81 : decode cX0_walkFrom 81 = .ok (.return_, 1) := by decide +kernel
theorem dX0_walkInto_0 : decode cX0_walkInto 0 = .ok (.iload_n 1, 1) := by decide +kernel
theorem dX0_walkInto_1 : decode cX0_walkInto 1 = .ok (.ifCond .lt 11, 3) := by decide +kernel
theorem dX0_walkInto_4 : decode cX0_walkInto 4 = .ok (.iload_n 1, 1) := by decide +kernel
theorem dX0_walkInto_5 : decode cX0_walkInto 5 = .ok (.aload_n 0, 1) := by decide +kernel
theorem dX0_walkInto_6 : decode cX0_walkInto 6 = .ok (.getfield 9, 3) := by decide +kernel
theorem dX0_walkInto_9 : decode cX0_walkInto 9 = .ok (.if_icmp .lt 4, 3) := by decide +kernel
theorem dX0_walkInto_12 : decode cX0_walkInto 12 = .ok (.return_, 1) := by decide +kernel
theorem dX0_walkInto_13 : decode cX0_walkInto 13 = .ok (.aload_n 0, 1) := by decide +kernel
theorem dX0_walkInto_14 : decode cX0_walkInto 14 = .ok (.getfield 26, 3) := by decide +kernel
theorem dX0_walkInto_17 : decode cX0_walkInto 17 = .ok (.iload_n 1, 1) := by decide +kernel
theorem dX0_walkInto_18 : decode cX0_walkInto 18 = .ok (.aload_n 0, 1) := by decide +kernel
theorem dX0_walkInto_19 : decode cX0_walkInto 19 = .ok (.getfield 26, 3) := by decide +kernel
theorem dX0_walkInto_22 : decode cX0_walkInto 22 = .ok (.iload_n 1, 1) := by decide +kernel
theorem dX0_walkInto_23 : decode cX0_walkInto 23 = .ok (.iaload, 1) := by decide +kernel
theorem dX0_walkInto_24 : decode cX0_walkInto 24 = .ok (.iload_n 2, 1) := by decide +kernel
theorem dX0_walkInto_25 : decode cX0_walkInto 25 = .ok (.invokestatic 93, 3) := by decide +kernel
theorem dX0_walkInto_28 : decode cX0_walkInto 28 = .ok (.iastore, 1) := by decide +kernel
theorem dX0_walkInto_29 : decode cX0_walkInto 29 = .ok (.aload_n 0, 1) := by decide +kernel
theorem dX0_walkInto_30 : decode cX0_walkInto 30 = .ok (.getfield 35, 3) := by decide +kernel
theorem dX0_walkInto_33 : decode cX0_walkInto 33 = .ok (.iload_n 1, 1) := by decide +kernel
theorem dX0_walkInto_34 : decode cX0_walkInto 34 = .ok (.dup2, 1) := by decide +kernel
theorem dX0_walkInto_35 : decode cX0_walkInto 35 = .ok (.iaload, 1) := by decide +kernel
theorem dX0_walkInto_36 : decode cX0_walkInto 36 = .ok (.iconst 1, 1) := by decide +kernel
theorem dX0_walkInto_37 : decode cX0_walkInto 37 = .ok (.isub, 1) := by decide +kernel
theorem dX0_walkInto_38 : decode cX0_walkInto 38 = .ok (.iastore, 1) := by decide +kernel
theorem dX0_walkInto_39 : decode cX0_walkInto 39 = .ok (.aload_n 0, 1) := by decide +kernel
theorem dX0_walkInto_40 : decode cX0_walkInto 40 = .ok (.getfield 35, 3) := by decide +kernel
theorem dX0_walkInto_43 : decode cX0_walkInto 43 = .ok (.iload_n 1, 1) := by decide +kernel
theorem dX0_walkInto_44 : decode cX0_walkInto 44 = .ok (.iaload, 1) := by decide +kernel
theorem dX0_walkInto_45 : decode cX0_walkInto 45 = .ok (.ifCond .ne 33, 3) := by decide +kernel
theorem dX0_walkInto_48 : decode cX0_walkInto 48 = .ok (.aload_n 0, 1) := by decide +kernel
theorem dX0_walkInto_49 : decode cX0_walkInto 49 = .ok (.getfield 41, 3) := by decide +kernel
theorem dX0_walkInto_52 : decode cX0_walkInto 52 = .ok (.sipush 200, 3) := by decide +kernel
theorem dX0_walkInto_55 : decode cX0_walkInto 55 = .ok (.if_icmp .ge 23, 3) := by decide +kernel
theorem dX0_walkInto_58 : decode cX0_walkInto 58 = .ok (.aload_n 0, 1) := by decide +kernel
theorem dX0_walkInto_59 : decode cX0_walkInto 59 = .ok (.getfield 38, 3) := by decide +kernel
theorem dX0_walkInto_62 : decode cX0_walkInto 62 = .ok (.aload_n 0, 1) := by decide +kernel
theorem dX0_walkInto_63 : decode cX0_walkInto 63 = .ok (.getfield 41, 3) := by decide +kernel
theorem dX0_walkInto_66 : decode cX0_walkInto 66 = .ok (.iload_n 1, 1) := by decide +kernel
theorem dX0_walkInto_67 : decode cX0_walkInto 67 = .ok (.iastore, 1) := by decide +kernel
theorem dX0_walkInto_68 : decode cX0_walkInto 68 = .ok (.aload_n 0, 1) := by decide +kernel
theorem dX0_walkInto_69 : decode cX0_walkInto 69 = .ok (.dup, 1) := by decide +kernel
theorem dX0_walkInto_70 : decode cX0_walkInto 70 = .ok (.getfield 41, 3) := by decide +kernel
theorem dX0_walkInto_73 : decode cX0_walkInto 73 = .ok (.iconst 1, 1) := by decide +kernel
theorem dX0_walkInto_74 : decode cX0_walkInto 74 = .ok (.iadd, 1) := by decide +kernel
theorem dX0_walkInto_75 : decode cX0_walkInto 75 = .ok (.putfield 41, 3) := by decide +kernel
theorem dX0_walkInto_78 : decode cX0_walkInto 78 = .ok (.return_, 1) := by decide +kernel
theorem dX0_searchLoop_0 : decode cX0_searchLoop 0 = .ok (.aload_n 0, 1) := by decide +kernel
theorem dX0_searchLoop_1 : decode cX0_searchLoop 1 = .ok (.lload_n 2, 1) := by decide +kernel
theorem dX0_searchLoop_2 : decode cX0_searchLoop 2 = .ok (.invokevirtual 65, 3) := by decide +kernel
theorem dX0_searchLoop_5 : decode cX0_searchLoop 5 = .ok (.iconst 0, 1) := by decide +kernel
theorem dX0_searchLoop_6 : decode cX0_searchLoop 6 = .ok (.istore 5, 2) := by decide +kernel
theorem dX0_searchLoop_8 : decode cX0_searchLoop 8 = .ok (.iload 5, 2) := by decide +kernel
theorem dX0_searchLoop_10 : decode cX0_searchLoop 10 = .ok (.aload_n 0, 1) := by decide +kernel
theorem dX0_searchLoop_11 : decode cX0_searchLoop 11 = .ok (.getfield 9, 3) := by decide +kernel
theorem dX0_searchLoop_14 : decode cX0_searchLoop 14 = .ok (.if_icmp .ge 38, 3) := by decide +kernel
theorem dX0_searchLoop_17 : decode cX0_searchLoop 17 = .ok (.iload 5, 2) := by decide +kernel
theorem dX0_searchLoop_19 : decode cX0_searchLoop 19 = .ok (.sipush 200, 3) := by decide +kernel
theorem dX0_searchLoop_22 : decode cX0_searchLoop 22 = .ok (.if_icmp .ge 30, 3) := by decide +kernel
theorem dX0_searchLoop_25 : decode cX0_searchLoop 25 = .ok (.aload_n 0, 1) := by decide +kernel
theorem dX0_searchLoop_26 : decode cX0_searchLoop 26 = .ok (.aload_n 1, 1) := by decide +kernel
theorem dX0_searchLoop_27 : decode cX0_searchLoop 27 = .ok (.iload 5, 2) := by decide +kernel
theorem dX0_searchLoop_29 : decode cX0_searchLoop 29 = .ok (.aload 4, 2) := by decide +kernel
theorem dX0_searchLoop_31 : decode cX0_searchLoop 31 = .ok (.invokevirtual 107, 3) := by decide +kernel
theorem dX0_searchLoop_34 : decode cX0_searchLoop 34 = .ok (.istore 6, 2) := by decide +kernel
theorem dX0_searchLoop_36 : decode cX0_searchLoop 36 = .ok (.iload 6, 2) := by decide +kernel
theorem dX0_searchLoop_38 : decode cX0_searchLoop 38 = .ok (.bipush (-6), 2) := by decide +kernel
theorem dX0_searchLoop_40 : decode cX0_searchLoop 40 = .ok (.if_icmp .eq 6, 3) := by decide +kernel
theorem dX0_searchLoop_43 : decode cX0_searchLoop 43 = .ok (.iload 6, 2) := by decide +kernel
theorem dX0_searchLoop_45 : decode cX0_searchLoop 45 = .ok (.ireturn, 1) := by decide +kernel
theorem dX0_searchLoop_46 : decode cX0_searchLoop 46 = .ok (.iinc 5 1, 3) := by decide +kernel
theorem dX0_searchLoop_49 : decode cX0_searchLoop 49 = .ok (.goto (-41), 3) := by decide +kernel
theorem dX0_searchLoop_52 : decode cX0_searchLoop 52 = .ok (.bipush (-6), 2) := by decide +kernel
theorem dX0_searchLoop_54 : decode cX0_searchLoop 54 = .ok (.ireturn, 1) := by decide +kernel
theorem dX0_expandForLoop_0 : decode cX0_expandForLoop 0 = .ok (.aload_n 0, 1) := by decide +kernel
theorem dX0_expandForLoop_1 : decode cX0_expandForLoop 1 = .ok (.getfield 15, 3) := by decide +kernel
theorem dX0_expandForLoop_4 : decode cX0_expandForLoop 4 = .ok (.iload_n 2, 1) := by decide +kernel
theorem dX0_expandForLoop_5 : decode cX0_expandForLoop 5 = .ok (.laload, 1) := by decide +kernel
theorem dX0_expandForLoop_6 : decode cX0_expandForLoop 6 = .ok (.lstore 4, 2) := by decide +kernel
theorem dX0_expandForLoop_8 : decode cX0_expandForLoop 8 = .ok (.iconst 0, 1) := by decide +kernel
theorem dX0_expandForLoop_9 : decode cX0_expandForLoop 9 = .ok (.istore 6, 2) := by decide +kernel
theorem dX0_expandForLoop_11 : decode cX0_expandForLoop 11 = .ok (.iload 6, 2) := by decide +kernel
theorem dX0_expandForLoop_13 : decode cX0_expandForLoop 13 = .ok (.lload 4, 2) := by decide +kernel
theorem dX0_expandForLoop_15 : decode cX0_expandForLoop 15 = .ok (.invokestatic 73, 3) := by decide +kernel
theorem dX0_expandForLoop_18 : decode cX0_expandForLoop 18 = .ok (.if_icmp .ge 102, 3) := by decide +kernel
theorem dX0_expandForLoop_21 : decode cX0_expandForLoop 21 = .ok (.iconst 0, 1) := by decide +kernel
theorem dX0_expandForLoop_22 : decode cX0_expandForLoop 22 = .ok (.istore 7, 2) := by decide +kernel
theorem dX0_expandForLoop_24 : decode cX0_expandForLoop 24 = .ok (.iload 7, 2) := by decide +kernel
theorem dX0_expandForLoop_26 : decode cX0_expandForLoop 26 = .ok (.aload_n 1, 1) := by decide +kernel
theorem dX0_expandForLoop_27 : decode cX0_expandForLoop 27 = .ok (.getfield 78, 3) := by decide +kernel
theorem dX0_expandForLoop_30 : decode cX0_expandForLoop 30 = .ok (.if_icmp .ge 84, 3) := by decide +kernel
theorem dX0_expandForLoop_33 : decode cX0_expandForLoop 33 = .ok (.aload_n 1, 1) := by decide +kernel
theorem dX0_expandForLoop_34 : decode cX0_expandForLoop 34 = .ok (.lload 4, 2) := by decide +kernel
theorem dX0_expandForLoop_36 : decode cX0_expandForLoop 36 = .ok (.iload 7, 2) := by decide +kernel
theorem dX0_expandForLoop_38 : decode cX0_expandForLoop 38 = .ok (.iload 6, 2) := by decide +kernel
theorem dX0_expandForLoop_40 : decode cX0_expandForLoop 40 = .ok (.invokevirtual 80, 3) := by decide +kernel
theorem dX0_expandForLoop_43 : decode cX0_expandForLoop 43 = .ok (.lstore 8, 2) := by decide +kernel
theorem dX0_expandForLoop_45 : decode cX0_expandForLoop 45 = .ok (.lload 8, 2) := by decide +kernel
theorem dX0_expandForLoop_47 : decode cX0_expandForLoop 47 = .ok (.ldc2_w 84, 3) := by decide +kernel
theorem dX0_expandForLoop_50 : decode cX0_expandForLoop 50 = .ok (.lcmp, 1) := by decide +kernel
theorem dX0_expandForLoop_51 : decode cX0_expandForLoop 51 = .ok (.ifCond .ne 6, 3) := by decide +kernel
theorem dX0_expandForLoop_54 : decode cX0_expandForLoop 54 = .ok (.goto 54, 3) := by decide +kernel
theorem dX0_expandForLoop_57 : decode cX0_expandForLoop 57 = .ok (.aload_n 0, 1) := by decide +kernel
theorem dX0_expandForLoop_58 : decode cX0_expandForLoop 58 = .ok (.getfield 15, 3) := by decide +kernel
theorem dX0_expandForLoop_61 : decode cX0_expandForLoop 61 = .ok (.iconst 0, 1) := by decide +kernel
theorem dX0_expandForLoop_62 : decode cX0_expandForLoop 62 = .ok (.laload, 1) := by decide +kernel
theorem dX0_expandForLoop_63 : decode cX0_expandForLoop 63 = .ok (.lload 8, 2) := by decide +kernel
theorem dX0_expandForLoop_65 : decode cX0_expandForLoop 65 = .ok (.invokestatic 111, 3) := by decide +kernel
theorem dX0_expandForLoop_68 : decode cX0_expandForLoop 68 = .ok (.ifCond .eq 14, 3) := by decide +kernel
theorem dX0_expandForLoop_71 : decode cX0_expandForLoop 71 = .ok (.aload_n 0, 1) := by decide +kernel
theorem dX0_expandForLoop_72 : decode cX0_expandForLoop 72 = .ok (.aload_n 3, 1) := by decide +kernel
theorem dX0_expandForLoop_73 : decode cX0_expandForLoop 73 = .ok (.iload_n 2, 1) := by decide +kernel
theorem dX0_expandForLoop_74 : decode cX0_expandForLoop 74 = .ok (.iload 7, 2) := by decide +kernel
theorem dX0_expandForLoop_76 : decode cX0_expandForLoop 76 = .ok (.iload 6, 2) := by decide +kernel
theorem dX0_expandForLoop_78 : decode cX0_expandForLoop 78 = .ok (.invokevirtual 115, 3) := by decide +kernel
theorem dX0_expandForLoop_81 : decode cX0_expandForLoop 81 = .ok (.ireturn, 1) := by decide +kernel
theorem dX0_expandForLoop_82 : decode cX0_expandForLoop 82 = .ok (.aload_n 0, 1) := by decide +kernel
theorem dX0_expandForLoop_83 : decode cX0_expandForLoop 83 = .ok (.lload 8, 2) := by decide +kernel
theorem dX0_expandForLoop_85 : decode cX0_expandForLoop 85 = .ok (.invokevirtual 90, 3) := by decide +kernel
theorem dX0_expandForLoop_88 : decode cX0_expandForLoop 88 = .ok (.ifCond .ge 20, 3) := by decide +kernel
theorem dX0_expandForLoop_91 : decode cX0_expandForLoop 91 = .ok (.aload_n 0, 1) := by decide +kernel
theorem dX0_expandForLoop_92 : decode cX0_expandForLoop 92 = .ok (.lload 8, 2) := by decide +kernel
theorem dX0_expandForLoop_94 : decode cX0_expandForLoop 94 = .ok (.iload_n 2, 1) := by decide +kernel
theorem dX0_expandForLoop_95 : decode cX0_expandForLoop 95 = .ok (.iload 7, 2) := by decide +kernel
theorem dX0_expandForLoop_97 : decode cX0_expandForLoop 97 = .ok (.iload 6, 2) := by decide +kernel
theorem dX0_expandForLoop_99 : decode cX0_expandForLoop 99 = .ok (.invokevirtual 119, 3) := by decide +kernel
theorem dX0_expandForLoop_102 : decode cX0_expandForLoop 102 = .ok (.ifCond .ne 6, 3) := by decide +kernel
theorem dX0_expandForLoop_105 : decode cX0_expandForLoop 105 = .ok (.bipush (-7), 2) := by decide +kernel
theorem dX0_expandForLoop_107 : decode cX0_expandForLoop 107 = .ok (.ireturn, 1) := by decide +kernel
theorem dX0_expandForLoop_108 : decode cX0_expandForLoop 108 = .ok (.iinc 7 1, 3) := by decide +kernel
theorem dX0_expandForLoop_111 : decode cX0_expandForLoop 111 = .ok (.goto (-87), 3) := by decide +kernel
theorem dX0_expandForLoop_114 : decode cX0_expandForLoop 114 = .ok (.iinc 6 1, 3) := by decide +kernel
theorem dX0_expandForLoop_117 : decode cX0_expandForLoop 117 = .ok (.goto (-106), 3) := by decide +kernel
theorem dX0_expandForLoop_120 : decode cX0_expandForLoop 120 = .ok (.bipush (-6), 2) := by decide +kernel
theorem dX0_expandForLoop_122 : decode cX0_expandForLoop 122 = .ok (.ireturn, 1) := by decide +kernel
theorem dX0_addStep_0 : decode cX0_addStep 0 = .ok (.aload_n 0, 1) := by decide +kernel
theorem dX0_addStep_1 : decode cX0_addStep 1 = .ok (.lload_n 1, 1) := by decide +kernel
theorem dX0_addStep_2 : decode cX0_addStep 2 = .ok (.invokevirtual 50, 3) := by decide +kernel
theorem dX0_addStep_5 : decode cX0_addStep 5 = .ok (.istore 6, 2) := by decide +kernel
theorem dX0_addStep_7 : decode cX0_addStep 7 = .ok (.iload 6, 2) := by decide +kernel
theorem dX0_addStep_9 : decode cX0_addStep 9 = .ok (.ifCond .ge 5, 3) := by decide +kernel
theorem dX0_addStep_12 : decode cX0_addStep 12 = .ok (.iconst 0, 1) := by decide +kernel
theorem dX0_addStep_13 : decode cX0_addStep 13 = .ok (.ireturn, 1) := by decide +kernel
theorem dX0_addStep_14 : decode cX0_addStep 14 = .ok (.aload_n 0, 1) := by decide +kernel
theorem dX0_addStep_15 : decode cX0_addStep 15 = .ok (.getfield 23, 3) := by decide +kernel
theorem dX0_addStep_18 : decode cX0_addStep 18 = .ok (.iload 6, 2) := by decide +kernel
theorem dX0_addStep_20 : decode cX0_addStep 20 = .ok (.iload_n 3, 1) := by decide +kernel
theorem dX0_addStep_21 : decode cX0_addStep 21 = .ok (.iastore, 1) := by decide +kernel
theorem dX0_addStep_22 : decode cX0_addStep 22 = .ok (.aload_n 0, 1) := by decide +kernel
theorem dX0_addStep_23 : decode cX0_addStep 23 = .ok (.getfield 26, 3) := by decide +kernel
theorem dX0_addStep_26 : decode cX0_addStep 26 = .ok (.iload 6, 2) := by decide +kernel
theorem dX0_addStep_28 : decode cX0_addStep 28 = .ok (.aload_n 0, 1) := by decide +kernel
theorem dX0_addStep_29 : decode cX0_addStep 29 = .ok (.getfield 26, 3) := by decide +kernel
theorem dX0_addStep_32 : decode cX0_addStep 32 = .ok (.iload_n 3, 1) := by decide +kernel
theorem dX0_addStep_33 : decode cX0_addStep 33 = .ok (.iaload, 1) := by decide +kernel
theorem dX0_addStep_34 : decode cX0_addStep 34 = .ok (.iconst 1, 1) := by decide +kernel
theorem dX0_addStep_35 : decode cX0_addStep 35 = .ok (.iadd, 1) := by decide +kernel
theorem dX0_addStep_36 : decode cX0_addStep 36 = .ok (.iastore, 1) := by decide +kernel
theorem dX0_addStep_37 : decode cX0_addStep 37 = .ok (.aload_n 0, 1) := by decide +kernel
theorem dX0_addStep_38 : decode cX0_addStep 38 = .ok (.getfield 29, 3) := by decide +kernel
theorem dX0_addStep_41 : decode cX0_addStep 41 = .ok (.iload 6, 2) := by decide +kernel
theorem dX0_addStep_43 : decode cX0_addStep 43 = .ok (.iload 4, 2) := by decide +kernel
theorem dX0_addStep_45 : decode cX0_addStep 45 = .ok (.iastore, 1) := by decide +kernel
theorem dX0_addStep_46 : decode cX0_addStep 46 = .ok (.aload_n 0, 1) := by decide +kernel
theorem dX0_addStep_47 : decode cX0_addStep 47 = .ok (.getfield 32, 3) := by decide +kernel
theorem dX0_addStep_50 : decode cX0_addStep 50 = .ok (.iload 6, 2) := by decide +kernel
theorem dX0_addStep_52 : decode cX0_addStep 52 = .ok (.iload 5, 2) := by decide +kernel
theorem dX0_addStep_54 : decode cX0_addStep 54 = .ok (.iastore, 1) := by decide +kernel
theorem dX0_addStep_55 : decode cX0_addStep 55 = .ok (.iconst 1, 1) := by decide +kernel
theorem dX0_addStep_56 : decode cX0_addStep 56 = .ok (.ireturn, 1) := by decide +kernel
theorem dX0_storeLoop_0 : decode cX0_storeLoop 0 = .ok (.aload_n 0, 1) := by decide +kernel
theorem dX0_storeLoop_1 : decode cX0_storeLoop 1 = .ok (.getfield 26, 3) := by decide +kernel
theorem dX0_storeLoop_4 : decode cX0_storeLoop 4 = .ok (.iload_n 2, 1) := by decide +kernel
theorem dX0_storeLoop_5 : decode cX0_storeLoop 5 = .ok (.iaload, 1) := by decide +kernel
theorem dX0_storeLoop_6 : decode cX0_storeLoop 6 = .ok (.iconst 1, 1) := by decide +kernel
theorem dX0_storeLoop_7 : decode cX0_storeLoop 7 = .ok (.iadd, 1) := by decide +kernel
theorem dX0_storeLoop_8 : decode cX0_storeLoop 8 = .ok (.sipush 200, 3) := by decide +kernel
theorem dX0_storeLoop_11 : decode cX0_storeLoop 11 = .ok (.invokestatic 123, 3) := by decide +kernel
theorem dX0_storeLoop_14 : decode cX0_storeLoop 14 = .ok (.istore 5, 2) := by decide +kernel
theorem dX0_storeLoop_16 : decode cX0_storeLoop 16 = .ok (.aload_n 1, 1) := by decide +kernel
theorem dX0_storeLoop_17 : decode cX0_storeLoop 17 = .ok (.iload 5, 2) := by decide +kernel
theorem dX0_storeLoop_19 : decode cX0_storeLoop 19 = .ok (.putfield 126, 3) := by decide +kernel
theorem dX0_storeLoop_22 : decode cX0_storeLoop 22 = .ok (.aload_n 1, 1) := by decide +kernel
theorem dX0_storeLoop_23 : decode cX0_storeLoop 23 = .ok (.getfield 131, 3) := by decide +kernel
theorem dX0_storeLoop_26 : decode cX0_storeLoop 26 = .ok (.iload 5, 2) := by decide +kernel
theorem dX0_storeLoop_28 : decode cX0_storeLoop 28 = .ok (.iconst 1, 1) := by decide +kernel
theorem dX0_storeLoop_29 : decode cX0_storeLoop 29 = .ok (.isub, 1) := by decide +kernel
theorem dX0_storeLoop_30 : decode cX0_storeLoop 30 = .ok (.iload_n 3, 1) := by decide +kernel
theorem dX0_storeLoop_31 : decode cX0_storeLoop 31 = .ok (.iastore, 1) := by decide +kernel
theorem dX0_storeLoop_32 : decode cX0_storeLoop 32 = .ok (.aload_n 1, 1) := by decide +kernel
theorem dX0_storeLoop_33 : decode cX0_storeLoop 33 = .ok (.getfield 132, 3) := by decide +kernel
theorem dX0_storeLoop_36 : decode cX0_storeLoop 36 = .ok (.iload 5, 2) := by decide +kernel
theorem dX0_storeLoop_38 : decode cX0_storeLoop 38 = .ok (.iconst 1, 1) := by decide +kernel
theorem dX0_storeLoop_39 : decode cX0_storeLoop 39 = .ok (.isub, 1) := by decide +kernel
theorem dX0_storeLoop_40 : decode cX0_storeLoop 40 = .ok (.iload 4, 2) := by decide +kernel
theorem dX0_storeLoop_42 : decode cX0_storeLoop 42 = .ok (.iastore, 1) := by decide +kernel
theorem dX0_storeLoop_43 : decode cX0_storeLoop 43 = .ok (.iload_n 2, 1) := by decide +kernel
theorem dX0_storeLoop_44 : decode cX0_storeLoop 44 = .ok (.istore 6, 2) := by decide +kernel
theorem dX0_storeLoop_46 : decode cX0_storeLoop 46 = .ok (.iload 5, 2) := by decide +kernel
theorem dX0_storeLoop_48 : decode cX0_storeLoop 48 = .ok (.iconst 2, 1) := by decide +kernel
theorem dX0_storeLoop_49 : decode cX0_storeLoop 49 = .ok (.isub, 1) := by decide +kernel
theorem dX0_storeLoop_50 : decode cX0_storeLoop 50 = .ok (.istore 7, 2) := by decide +kernel
theorem dX0_storeLoop_52 : decode cX0_storeLoop 52 = .ok (.iload 7, 2) := by decide +kernel
theorem dX0_storeLoop_54 : decode cX0_storeLoop 54 = .ok (.ifCond .lt 51, 3) := by decide +kernel
theorem dX0_storeLoop_57 : decode cX0_storeLoop 57 = .ok (.iload 6, 2) := by decide +kernel
theorem dX0_storeLoop_59 : decode cX0_storeLoop 59 = .ok (.ifCond .le 46, 3) := by decide +kernel
theorem dX0_storeLoop_62 : decode cX0_storeLoop 62 = .ok (.aload_n 1, 1) := by decide +kernel
theorem dX0_storeLoop_63 : decode cX0_storeLoop 63 = .ok (.getfield 131, 3) := by decide +kernel
theorem dX0_storeLoop_66 : decode cX0_storeLoop 66 = .ok (.iload 7, 2) := by decide +kernel
theorem dX0_storeLoop_68 : decode cX0_storeLoop 68 = .ok (.aload_n 0, 1) := by decide +kernel
theorem dX0_storeLoop_69 : decode cX0_storeLoop 69 = .ok (.getfield 29, 3) := by decide +kernel
theorem dX0_storeLoop_72 : decode cX0_storeLoop 72 = .ok (.iload 6, 2) := by decide +kernel
theorem dX0_storeLoop_74 : decode cX0_storeLoop 74 = .ok (.iaload, 1) := by decide +kernel
theorem dX0_storeLoop_75 : decode cX0_storeLoop 75 = .ok (.iastore, 1) := by decide +kernel
theorem dX0_storeLoop_76 : decode cX0_storeLoop 76 = .ok (.aload_n 1, 1) := by decide +kernel
theorem dX0_storeLoop_77 : decode cX0_storeLoop 77 = .ok (.getfield 132, 3) := by decide +kernel
theorem dX0_storeLoop_80 : decode cX0_storeLoop 80 = .ok (.iload 7, 2) := by decide +kernel
theorem dX0_storeLoop_82 : decode cX0_storeLoop 82 = .ok (.aload_n 0, 1) := by decide +kernel
theorem dX0_storeLoop_83 : decode cX0_storeLoop 83 = .ok (.getfield 32, 3) := by decide +kernel
theorem dX0_storeLoop_86 : decode cX0_storeLoop 86 = .ok (.iload 6, 2) := by decide +kernel
theorem dX0_storeLoop_88 : decode cX0_storeLoop 88 = .ok (.iaload, 1) := by decide +kernel
theorem dX0_storeLoop_89 : decode cX0_storeLoop 89 = .ok (.iastore, 1) := by decide +kernel
theorem dX0_storeLoop_90 : decode cX0_storeLoop 90 = .ok (.aload_n 0, 1) := by decide +kernel
theorem dX0_storeLoop_91 : decode cX0_storeLoop 91 = .ok (.getfield 23, 3) := by decide +kernel
theorem dX0_storeLoop_94 : decode cX0_storeLoop 94 = .ok (.iload 6, 2) := by decide +kernel
theorem dX0_storeLoop_96 : decode cX0_storeLoop 96 = .ok (.iaload, 1) := by decide +kernel
theorem dX0_storeLoop_97 : decode cX0_storeLoop 97 = .ok (.istore 6, 2) := by decide +kernel
theorem dX0_storeLoop_99 : decode cX0_storeLoop 99 = .ok (.iinc 7 (-1), 3) := by decide +kernel
theorem dX0_storeLoop_102 : decode cX0_storeLoop 102 = .ok (.goto (-50), 3) := by decide +kernel
theorem dX0_storeLoop_105 : decode cX0_storeLoop 105 = .ok (.iload 5, 2) := by decide +kernel
theorem dX0_storeLoop_107 : decode cX0_storeLoop 107 = .ok (.ireturn, 1) := by decide +kernel
theorem dX1_init_0 : decode cX1_init 0 = .ok (.aload_n 0, 1) := by decide +kernel
theorem dX1_init_1 : decode cX1_init 1 = .ok (.invokespecial 3, 3) := by decide +kernel
theorem dX1_init_4 : decode cX1_init 4 = .ok (.aload_n 0, 1) := by decide +kernel
theorem dX1_init_5 : decode cX1_init 5 = .ok (.iconst 0, 1) := by decide +kernel
theorem dX1_init_6 : decode cX1_init 6 = .ok (.putfield 9, 3) := by decide +kernel
theorem dX1_init_9 : decode cX1_init 9 = .ok (.aload_n 0, 1) := by decide +kernel
theorem dX1_init_10 : decode cX1_init 10 = .ok (.bipush 40, 2) := by decide +kernel
theorem dX1_init_12 : decode cX1_init 12 = .ok (.newarray .byte, 2) := by decide +kernel
theorem dX1_init_14 : decode cX1_init 14 = .ok (.putfield 15, 3) := by decide +kernel
theorem dX1_init_17 : decode cX1_init 17 = .ok (.return_, 1) := by decide +kernel
theorem dX1_put_0 : decode cX1_put 0 = .ok (.iload_n 2, 1) := by decide +kernel
theorem dX1_put_1 : decode cX1_put 1 = .ok (.bipush 40, 2) := by decide +kernel
theorem dX1_put_3 : decode cX1_put 3 = .ok (.aload_n 0, 1) := by decide +kernel
theorem dX1_put_4 : decode cX1_put 4 = .ok (.getfield 9, 3) := by decide +kernel
theorem dX1_put_7 : decode cX1_put 7 = .ok (.isub, 1) := by decide +kernel
theorem dX1_put_8 : decode cX1_put 8 = .ok (.if_icmp .le 5, 3) := by decide +kernel
theorem dX1_put_11 : decode cX1_put 11 = .ok (.iconst 0, 1) := by decide +kernel
theorem dX1_put_12 : decode cX1_put 12 = .ok (.ireturn, 1) := by decide +kernel
theorem dX1_put_13 : decode cX1_put 13 = .ok (.iconst 0, 1) := by decide +kernel
theorem dX1_put_14 : decode cX1_put 14 = .ok (.istore_n 3, 1) := by decide +kernel
theorem dX1_put_15 : decode cX1_put 15 = .ok (.iload_n 3, 1) := by decide +kernel
theorem dX1_put_16 : decode cX1_put 16 = .ok (.iload_n 2, 1) := by decide +kernel
theorem dX1_put_17 : decode cX1_put 17 = .ok (.if_icmp .ge 30, 3) := by decide +kernel
theorem dX1_put_20 : decode cX1_put 20 = .ok (.aload_n 0, 1) := by decide +kernel
theorem dX1_put_21 : decode cX1_put 21 = .ok (.getfield 15, 3) := by decide +kernel
theorem dX1_put_24 : decode cX1_put 24 = .ok (.aload_n 0, 1) := by decide +kernel
theorem dX1_put_25 : decode cX1_put 25 = .ok (.getfield 9, 3) := by decide +kernel
theorem dX1_put_28 : decode cX1_put 28 = .ok (.iload_n 1, 1) := by decide +kernel
theorem dX1_put_29 : decode cX1_put 29 = .ok (.i2b, 1) := by decide +kernel
theorem dX1_put_30 : decode cX1_put 30 = .ok (.bastore, 1) := by decide +kernel
theorem dX1_put_31 : decode cX1_put 31 = .ok (.aload_n 0, 1) := by decide +kernel
theorem dX1_put_32 : decode cX1_put 32 = .ok (.dup, 1) := by decide +kernel
theorem dX1_put_33 : decode cX1_put 33 = .ok (.getfield 9, 3) := by decide +kernel
theorem dX1_put_36 : decode cX1_put 36 = .ok (.iconst 1, 1) := by decide +kernel
theorem dX1_put_37 : decode cX1_put 37 = .ok (.iadd, 1) := by decide +kernel
theorem dX1_put_38 : decode cX1_put 38 = .ok (.putfield 9, 3) := by decide +kernel
theorem dX1_put_41 : decode cX1_put 41 = .ok (.iinc 3 1, 3) := by decide +kernel
theorem dX1_put_44 : decode cX1_put 44 = .ok (.goto (-29), 3) := by decide +kernel
theorem dX1_put_47 : decode cX1_put 47 = .ok (.iconst 1, 1) := by decide +kernel
theorem dX1_put_48 : decode cX1_put 48 = .ok (.ireturn, 1) := by decide +kernel
theorem dX1_consume_0 : decode cX1_consume 0 = .ok (.aload_n 0, 1) := by decide +kernel
theorem dX1_consume_1 : decode cX1_consume 1 = .ok (.getfield 9, 3) := by decide +kernel
theorem dX1_consume_4 : decode cX1_consume 4 = .ok (.istore_n 1, 1) := by decide +kernel
theorem dX1_consume_5 : decode cX1_consume 5 = .ok (.aload_n 0, 1) := by decide +kernel
theorem dX1_consume_6 : decode cX1_consume 6 = .ok (.iconst 0, 1) := by decide +kernel
theorem dX1_consume_7 : decode cX1_consume 7 = .ok (.putfield 9, 3) := by decide +kernel
theorem dX1_consume_10 : decode cX1_consume 10 = .ok (.iload_n 1, 1) := by decide +kernel
theorem dX1_consume_11 : decode cX1_consume 11 = .ok (.ireturn, 1) := by decide +kernel
theorem dX1_find_0 : decode cX1_find 0 = .ok (.iconst 0, 1) := by decide +kernel
theorem dX1_find_1 : decode cX1_find 1 = .ok (.istore_n 3, 1) := by decide +kernel
theorem dX1_find_2 : decode cX1_find 2 = .ok (.iload_n 3, 1) := by decide +kernel
theorem dX1_find_3 : decode cX1_find 3 = .ok (.iload_n 2, 1) := by decide +kernel
theorem dX1_find_4 : decode cX1_find 4 = .ok (.if_icmp .ge 21, 3) := by decide +kernel
theorem dX1_find_7 : decode cX1_find 7 = .ok (.aload_n 0, 1) := by decide +kernel
theorem dX1_find_8 : decode cX1_find 8 = .ok (.getfield 15, 3) := by decide +kernel
theorem dX1_find_11 : decode cX1_find 11 = .ok (.iload_n 3, 1) := by decide +kernel
theorem dX1_find_12 : decode cX1_find 12 = .ok (.baload, 1) := by decide +kernel
theorem dX1_find_13 : decode cX1_find 13 = .ok (.iload_n 1, 1) := by decide +kernel
theorem dX1_find_14 : decode cX1_find 14 = .ok (.if_icmp .ne 5, 3) := by decide +kernel
theorem dX1_find_17 : decode cX1_find 17 = .ok (.iload_n 3, 1) := by decide +kernel
theorem dX1_find_18 : decode cX1_find 18 = .ok (.ireturn, 1) := by decide +kernel
theorem dX1_find_19 : decode cX1_find 19 = .ok (.iinc 3 1, 3) := by decide +kernel
theorem dX1_find_22 : decode cX1_find 22 = .ok (.goto (-20), 3) := by decide +kernel
theorem dX1_find_25 : decode cX1_find 25 = .ok (.iconst (-1), 1) := by decide +kernel
theorem dX1_find_26 : decode cX1_find 26 = .ok (.ireturn, 1) := by decide +kernel
theorem dX1_read_0 : decode cX1_read 0 = .ok (.iload_n 2, 1) := by decide +kernel
theorem dX1_read_1 : decode cX1_read 1 = .ok (.iload_n 1, 1) := by decide +kernel
theorem dX1_read_2 : decode cX1_read 2 = .ok (.isub, 1) := by decide +kernel
theorem dX1_read_3 : decode cX1_read 3 = .ok (.iload_n 3, 1) := by decide +kernel
theorem dX1_read_4 : decode cX1_read 4 = .ok (.if_icmp .le 7, 3) := by decide +kernel
theorem dX1_read_7 : decode cX1_read 7 = .ok (.ldc2_w 19, 3) := by decide +kernel
theorem dX1_read_10 : decode cX1_read 10 = .ok (.lreturn, 1) := by decide +kernel
theorem dX1_read_11 : decode cX1_read 11 = .ok (.lconst 0, 1) := by decide +kernel
theorem dX1_read_12 : decode cX1_read 12 = .ok (.lstore 5, 2) := by decide +kernel
theorem dX1_read_14 : decode cX1_read 14 = .ok (.iload_n 1, 1) := by decide +kernel
theorem dX1_read_15 : decode cX1_read 15 = .ok (.istore 7, 2) := by decide +kernel
theorem dX1_read_17 : decode cX1_read 17 = .ok (.iload 7, 2) := by decide +kernel
theorem dX1_read_19 : decode cX1_read 19 = .ok (.iload_n 2, 1) := by decide +kernel
theorem dX1_read_20 : decode cX1_read 20 = .ok (.if_icmp .ge 46, 3) := by decide +kernel
theorem dX1_read_23 : decode cX1_read 23 = .ok (.aload_n 0, 1) := by decide +kernel
theorem dX1_read_24 : decode cX1_read 24 = .ok (.getfield 15, 3) := by decide +kernel
theorem dX1_read_27 : decode cX1_read 27 = .ok (.iload 7, 2) := by decide +kernel
theorem dX1_read_29 : decode cX1_read 29 = .ok (.baload, 1) := by decide +kernel
theorem dX1_read_30 : decode cX1_read 30 = .ok (.bipush 97, 2) := by decide +kernel
theorem dX1_read_32 : decode cX1_read 32 = .ok (.isub, 1) := by decide +kernel
theorem dX1_read_33 : decode cX1_read 33 = .ok (.istore 8, 2) := by decide +kernel
theorem dX1_read_35 : decode cX1_read 35 = .ok (.iload 8, 2) := by decide +kernel
theorem dX1_read_37 : decode cX1_read 37 = .ok (.ifCond .lt 10, 3) := by decide +kernel
theorem dX1_read_40 : decode cX1_read 40 = .ok (.iload 8, 2) := by decide +kernel
theorem dX1_read_42 : decode cX1_read 42 = .ok (.iload 4, 2) := by decide +kernel
theorem dX1_read_44 : decode cX1_read 44 = .ok (.if_icmp .lt 7, 3) := by decide +kernel
theorem dX1_read_47 : decode cX1_read 47 = .ok (.ldc2_w 19, 3) := by decide +kernel
theorem dX1_read_50 : decode cX1_read 50 = .ok (.lreturn, 1) := by decide +kernel
theorem dX1_read_51 : decode cX1_read 51 = .ok (.lload 5, 2) := by decide +kernel
theorem dX1_read_53 : decode cX1_read 53 = .ok (.iload 8, 2) := by decide +kernel
theorem dX1_read_55 : decode cX1_read 55 = .ok (.invokestatic 21, 3) := by decide +kernel
theorem dX1_read_58 : decode cX1_read 58 = .ok (.lstore 5, 2) := by decide +kernel
theorem dX1_read_60 : decode cX1_read 60 = .ok (.iinc 7 1, 3) := by decide +kernel
theorem dX1_read_63 : decode cX1_read 63 = .ok (.goto (-46), 3) := by decide +kernel
theorem dX1_read_66 : decode cX1_read 66 = .ok (.lload 5, 2) := by decide +kernel
theorem dX1_read_68 : decode cX1_read 68 = .ok (.lreturn, 1) := by decide +kernel
theorem dX2_init_0 : decode cX2_init 0 = .ok (.aload_n 0, 1) := by decide +kernel
theorem dX2_init_1 : decode cX2_init 1 = .ok (.invokespecial 3, 3) := by decide +kernel
theorem dX2_init_4 : decode cX2_init 4 = .ok (.aload_n 0, 1) := by decide +kernel
theorem dX2_init_5 : decode cX2_init 5 = .ok (.bipush 8, 2) := by decide +kernel
theorem dX2_init_7 : decode cX2_init 7 = .ok (.newarray .long, 2) := by decide +kernel
theorem dX2_init_9 : decode cX2_init 9 = .ok (.putfield 9, 3) := by decide +kernel
theorem dX2_init_12 : decode cX2_init 12 = .ok (.aload_n 0, 1) := by decide +kernel
theorem dX2_init_13 : decode cX2_init 13 = .ok (.bipush 8, 2) := by decide +kernel
theorem dX2_init_15 : decode cX2_init 15 = .ok (.newarray .long, 2) := by decide +kernel
theorem dX2_init_17 : decode cX2_init 17 = .ok (.putfield 15, 3) := by decide +kernel
theorem dX2_init_20 : decode cX2_init 20 = .ok (.return_, 1) := by decide +kernel
theorem dX2_prepare_0 : decode cX2_prepare 0 = .ok (.aload_n 0, 1) := by decide +kernel
theorem dX2_prepare_1 : decode cX2_prepare 1 = .ok (.aload_n 1, 1) := by decide +kernel
theorem dX2_prepare_2 : decode cX2_prepare 2 = .ok (.getfield 18, 3) := by decide +kernel
theorem dX2_prepare_5 : decode cX2_prepare 5 = .ok (.putfield 24, 3) := by decide +kernel
theorem dX2_prepare_8 : decode cX2_prepare 8 = .ok (.aload_n 0, 1) := by decide +kernel
theorem dX2_prepare_9 : decode cX2_prepare 9 = .ok (.iconst 0, 1) := by decide +kernel
theorem dX2_prepare_10 : decode cX2_prepare 10 = .ok (.putfield 25, 3) := by decide +kernel
theorem dX2_prepare_13 : decode cX2_prepare 13 = .ok (.iconst 0, 1) := by decide +kernel
theorem dX2_prepare_14 : decode cX2_prepare 14 = .ok (.istore_n 3, 1) := by decide +kernel
theorem dX2_prepare_15 : decode cX2_prepare 15 = .ok (.iload_n 3, 1) := by decide +kernel
theorem dX2_prepare_16 : decode cX2_prepare 16 = .ok (.aload_n 1, 1) := by decide +kernel
theorem dX2_prepare_17 : decode cX2_prepare 17 = .ok (.getfield 28, 3) := by decide +kernel
theorem dX2_prepare_20 : decode cX2_prepare 20 = .ok (.if_icmp .ge 101, 3) := by decide +kernel
theorem dX2_prepare_23 : decode cX2_prepare 23 = .ok (.iconst 0, 1) := by decide +kernel
theorem dX2_prepare_24 : decode cX2_prepare 24 = .ok (.istore 4, 2) := by decide +kernel
theorem dX2_prepare_26 : decode cX2_prepare 26 = .ok (.iconst 0, 1) := by decide +kernel
theorem dX2_prepare_27 : decode cX2_prepare 27 = .ok (.istore 5, 2) := by decide +kernel
theorem dX2_prepare_29 : decode cX2_prepare 29 = .ok (.iload 5, 2) := by decide +kernel
theorem dX2_prepare_31 : decode cX2_prepare 31 = .ok (.aload_n 0, 1) := by decide +kernel
theorem dX2_prepare_32 : decode cX2_prepare 32 = .ok (.getfield 24, 3) := by decide +kernel
theorem dX2_prepare_35 : decode cX2_prepare 35 = .ok (.if_icmp .ge 28, 3) := by decide +kernel
theorem dX2_prepare_38 : decode cX2_prepare 38 = .ok (.iload 4, 2) := by decide +kernel
theorem dX2_prepare_40 : decode cX2_prepare 40 = .ok (.aload_n 2, 1) := by decide +kernel
theorem dX2_prepare_41 : decode cX2_prepare 41 = .ok (.iload 5, 2) := by decide +kernel
theorem dX2_prepare_43 : decode cX2_prepare 43 = .ok (.iaload, 1) := by decide +kernel
theorem dX2_prepare_44 : decode cX2_prepare 44 = .ok (.aload_n 1, 1) := by decide +kernel
theorem dX2_prepare_45 : decode cX2_prepare 45 = .ok (.getfield 31, 3) := by decide +kernel
theorem dX2_prepare_48 : decode cX2_prepare 48 = .ok (.iload_n 3, 1) := by decide +kernel
theorem dX2_prepare_49 : decode cX2_prepare 49 = .ok (.aaload, 1) := by decide +kernel
theorem dX2_prepare_50 : decode cX2_prepare 50 = .ok (.iload 5, 2) := by decide +kernel
theorem dX2_prepare_52 : decode cX2_prepare 52 = .ok (.iaload, 1) := by decide +kernel
theorem dX2_prepare_53 : decode cX2_prepare 53 = .ok (.imul, 1) := by decide +kernel
theorem dX2_prepare_54 : decode cX2_prepare 54 = .ok (.iadd, 1) := by decide +kernel
theorem dX2_prepare_55 : decode cX2_prepare 55 = .ok (.istore 4, 2) := by decide +kernel
theorem dX2_prepare_57 : decode cX2_prepare 57 = .ok (.iinc 5 1, 3) := by decide +kernel
theorem dX2_prepare_60 : decode cX2_prepare 60 = .ok (.goto (-31), 3) := by decide +kernel
theorem dX2_prepare_63 : decode cX2_prepare 63 = .ok (.iload 4, 2) := by decide +kernel
theorem dX2_prepare_65 : decode cX2_prepare 65 = .ok (.ifCond .ge 5, 3) := by decide +kernel
theorem dX2_prepare_68 : decode cX2_prepare 68 = .ok (.iconst 0, 1) := by decide +kernel
theorem dX2_prepare_69 : decode cX2_prepare 69 = .ok (.ireturn, 1) := by decide +kernel
theorem dX2_prepare_70 : decode cX2_prepare 70 = .ok (.iload 4, 2) := by decide +kernel
theorem dX2_prepare_72 : decode cX2_prepare 72 = .ok (.ifCond .ne 43, 3) := by decide +kernel
theorem dX2_prepare_75 : decode cX2_prepare 75 = .ok (.aload_n 0, 1) := by decide +kernel
theorem dX2_prepare_76 : decode cX2_prepare 76 = .ok (.getfield 9, 3) := by decide +kernel
theorem dX2_prepare_79 : decode cX2_prepare 79 = .ok (.aload_n 0, 1) := by decide +kernel
theorem dX2_prepare_80 : decode cX2_prepare 80 = .ok (.getfield 25, 3) := by decide +kernel
theorem dX2_prepare_83 : decode cX2_prepare 83 = .ok (.aload_n 1, 1) := by decide +kernel
theorem dX2_prepare_84 : decode cX2_prepare 84 = .ok (.getfield 35, 3) := by decide +kernel
theorem dX2_prepare_87 : decode cX2_prepare 87 = .ok (.iload_n 3, 1) := by decide +kernel
theorem dX2_prepare_88 : decode cX2_prepare 88 = .ok (.laload, 1) := by decide +kernel
theorem dX2_prepare_89 : decode cX2_prepare 89 = .ok (.lastore, 1) := by decide +kernel
theorem dX2_prepare_90 : decode cX2_prepare 90 = .ok (.aload_n 0, 1) := by decide +kernel
theorem dX2_prepare_91 : decode cX2_prepare 91 = .ok (.getfield 15, 3) := by decide +kernel
theorem dX2_prepare_94 : decode cX2_prepare 94 = .ok (.aload_n 0, 1) := by decide +kernel
theorem dX2_prepare_95 : decode cX2_prepare 95 = .ok (.getfield 25, 3) := by decide +kernel
theorem dX2_prepare_98 : decode cX2_prepare 98 = .ok (.aload_n 1, 1) := by decide +kernel
theorem dX2_prepare_99 : decode cX2_prepare 99 = .ok (.getfield 36, 3) := by decide +kernel
theorem dX2_prepare_102 : decode cX2_prepare 102 = .ok (.iload_n 3, 1) := by decide +kernel
theorem dX2_prepare_103 : decode cX2_prepare 103 = .ok (.laload, 1) := by decide +kernel
theorem dX2_prepare_104 : decode cX2_prepare 104 = .ok (.lastore, 1) := by decide +kernel
theorem dX2_prepare_105 : decode cX2_prepare 105 = .ok (.aload_n 0, 1) := by decide +kernel
theorem dX2_prepare_106 : decode cX2_prepare 106 = .ok (.dup, 1) := by decide +kernel
theorem dX2_prepare_107 : decode cX2_prepare 107 = .ok (.getfield 25, 3) := by decide +kernel
theorem dX2_prepare_110 : decode cX2_prepare 110 = .ok (.iconst 1, 1) := by decide +kernel
theorem dX2_prepare_111 : decode cX2_prepare 111 = .ok (.iadd, 1) := by decide +kernel
theorem dX2_prepare_112 : decode cX2_prepare 112 = .ok (.putfield 25, 3) := by decide +kernel
theorem dX2_prepare_115 : decode cX2_prepare 115 = .ok (.iinc 3 1, 3) := by decide +kernel
theorem dX2_prepare_118 : decode cX2_prepare 118 = .ok (.goto (-103), 3) := by decide +kernel
theorem dX2_prepare_121 : decode cX2_prepare 121 = .ok (.aload_n 0, 1) := by decide +kernel
theorem dX2_prepare_122 : decode cX2_prepare 122 = .ok (.aload_n 2, 1) := by decide +kernel
theorem dX2_prepare_123 : decode cX2_prepare 123 = .ok (.invokevirtual 37, 3) := by decide +kernel
theorem dX2_prepare_126 : decode cX2_prepare 126 = .ok (.ireturn, 1) := by decide +kernel
theorem dX2_findWeightless_0 : decode cX2_findWeightless 0 = .ok (.aload_n 0, 1) := by decide +kernel
theorem dX2_findWeightless_1 : decode cX2_findWeightless 1 = .ok (.iconst (-1), 1) := by decide +kernel
theorem dX2_findWeightless_2 : decode cX2_findWeightless 2 = .ok (.putfield 41, 3) := by decide +kernel
theorem dX2_findWeightless_5 : decode cX2_findWeightless 5 = .ok (.iconst 0, 1) := by decide +kernel
theorem dX2_findWeightless_6 : decode cX2_findWeightless 6 = .ok (.istore_n 2, 1) := by decide +kernel
theorem dX2_findWeightless_7 : decode cX2_findWeightless 7 = .ok (.iload_n 2, 1) := by decide +kernel
theorem dX2_findWeightless_8 : decode cX2_findWeightless 8 = .ok (.aload_n 0, 1) := by decide +kernel
theorem dX2_findWeightless_9 : decode cX2_findWeightless 9 = .ok (.getfield 24, 3) := by decide +kernel
theorem dX2_findWeightless_12 : decode cX2_findWeightless 12 = .ok (.if_icmp .ge 30, 3) := by decide +kernel
theorem dX2_findWeightless_15 : decode cX2_findWeightless 15 = .ok (.aload_n 1, 1) := by decide +kernel
theorem dX2_findWeightless_16 : decode cX2_findWeightless 16 = .ok (.iload_n 2, 1) := by decide +kernel
theorem dX2_findWeightless_17 : decode cX2_findWeightless 17 = .ok (.iaload, 1) := by decide +kernel
theorem dX2_findWeightless_18 : decode cX2_findWeightless 18 = .ok (.ifCond .ne 18, 3) := by decide +kernel
theorem dX2_findWeightless_21 : decode cX2_findWeightless 21 = .ok (.aload_n 0, 1) := by decide +kernel
theorem dX2_findWeightless_22 : decode cX2_findWeightless 22 = .ok (.getfield 41, 3) := by decide +kernel
theorem dX2_findWeightless_25 : decode cX2_findWeightless 25 = .ok (.iconst (-1), 1) := by decide +kernel
theorem dX2_findWeightless_26 : decode cX2_findWeightless 26 = .ok (.if_icmp .eq 5, 3) := by decide +kernel
theorem dX2_findWeightless_29 : decode cX2_findWeightless 29 = .ok (.iconst 0, 1) := by decide +kernel
theorem dX2_findWeightless_30 : decode cX2_findWeightless 30 = .ok (.ireturn, 1) := by decide +kernel
theorem dX2_findWeightless_31 : decode cX2_findWeightless 31 = .ok (.aload_n 0, 1) := by decide +kernel
theorem dX2_findWeightless_32 : decode cX2_findWeightless 32 = .ok (.iload_n 2, 1) := by decide +kernel
theorem dX2_findWeightless_33 : decode cX2_findWeightless 33 = .ok (.putfield 41, 3) := by decide +kernel
theorem dX2_findWeightless_36 : decode cX2_findWeightless 36 = .ok (.iinc 2 1, 3) := by decide +kernel
theorem dX2_findWeightless_39 : decode cX2_findWeightless 39 = .ok (.goto (-32), 3) := by decide +kernel
theorem dX2_findWeightless_42 : decode cX2_findWeightless 42 = .ok (.iconst 1, 1) := by decide +kernel
theorem dX2_findWeightless_43 : decode cX2_findWeightless 43 = .ok (.ireturn, 1) := by decide +kernel
theorem dX2_findFor_0 : decode cX2_findFor 0 = .ok (.aload_n 0, 1) := by decide +kernel
theorem dX2_findFor_1 : decode cX2_findFor 1 = .ok (.iload_n 1, 1) := by decide +kernel
theorem dX2_findFor_2 : decode cX2_findFor 2 = .ok (.putfield 44, 3) := by decide +kernel
theorem dX2_findFor_5 : decode cX2_findFor 5 = .ok (.aload_n 0, 1) := by decide +kernel
theorem dX2_findFor_6 : decode cX2_findFor 6 = .ok (.aload_n 0, 1) := by decide +kernel
theorem dX2_findFor_7 : decode cX2_findFor 7 = .ok (.getfield 24, 3) := by decide +kernel
theorem dX2_findFor_10 : decode cX2_findFor 10 = .ok (.aload_n 0, 1) := by decide +kernel
theorem dX2_findFor_11 : decode cX2_findFor 11 = .ok (.getfield 24, 3) := by decide +kernel
theorem dX2_findFor_14 : decode cX2_findFor 14 = .ok (.iconst 1, 1) := by decide +kernel
theorem dX2_findFor_15 : decode cX2_findFor 15 = .ok (.isub, 1) := by decide +kernel
theorem dX2_findFor_16 : decode cX2_findFor 16 = .ok (.invokevirtual 47, 3) := by decide +kernel
theorem dX2_findFor_19 : decode cX2_findFor 19 = .ok (.ireturn, 1) := by decide +kernel
theorem dX2_mayFit_0 : decode cX2_mayFit 0 = .ok (.aload_n 0, 1) := by decide +kernel
theorem dX2_mayFit_1 : decode cX2_mayFit 1 = .ok (.iload_n 1, 1) := by decide +kernel
theorem dX2_mayFit_2 : decode cX2_mayFit 2 = .ok (.invokevirtual 51, 3) := by decide +kernel
theorem dX2_mayFit_5 : decode cX2_mayFit 5 = .ok (.ifCond .ne 5, 3) := by decide +kernel
theorem dX2_mayFit_8 : decode cX2_mayFit 8 = .ok (.iconst 0, 1) := by decide +kernel
theorem dX2_mayFit_9 : decode cX2_mayFit 9 = .ok (.ireturn, 1) := by decide +kernel
theorem dX2_mayFit_10 : decode cX2_mayFit 10 = .ok (.iconst 0, 1) := by decide +kernel
theorem dX2_mayFit_11 : decode cX2_mayFit 11 = .ok (.istore_n 2, 1) := by decide +kernel
theorem dX2_mayFit_12 : decode cX2_mayFit 12 = .ok (.iload_n 2, 1) := by decide +kernel
theorem dX2_mayFit_13 : decode cX2_mayFit 13 = .ok (.aload_n 0, 1) := by decide +kernel
theorem dX2_mayFit_14 : decode cX2_mayFit 14 = .ok (.getfield 25, 3) := by decide +kernel
theorem dX2_mayFit_17 : decode cX2_mayFit 17 = .ok (.if_icmp .ge 31, 3) := by decide +kernel
theorem dX2_mayFit_20 : decode cX2_mayFit 20 = .ok (.aload_n 0, 1) := by decide +kernel
theorem dX2_mayFit_21 : decode cX2_mayFit 21 = .ok (.aload_n 0, 1) := by decide +kernel
theorem dX2_mayFit_22 : decode cX2_mayFit 22 = .ok (.getfield 9, 3) := by decide +kernel
theorem dX2_mayFit_25 : decode cX2_mayFit 25 = .ok (.iload_n 2, 1) := by decide +kernel
theorem dX2_mayFit_26 : decode cX2_mayFit 26 = .ok (.laload, 1) := by decide +kernel
theorem dX2_mayFit_27 : decode cX2_mayFit 27 = .ok (.aload_n 0, 1) := by decide +kernel
theorem dX2_mayFit_28 : decode cX2_mayFit 28 = .ok (.getfield 15, 3) := by decide +kernel
theorem dX2_mayFit_31 : decode cX2_mayFit 31 = .ok (.iload_n 2, 1) := by decide +kernel
theorem dX2_mayFit_32 : decode cX2_mayFit 32 = .ok (.laload, 1) := by decide +kernel
theorem dX2_mayFit_33 : decode cX2_mayFit 33 = .ok (.iload_n 1, 1) := by decide +kernel
theorem dX2_mayFit_34 : decode cX2_mayFit 34 = .ok (.invokevirtual 55, 3) := by decide +kernel
theorem dX2_mayFit_37 : decode cX2_mayFit 37 = .ok (.ifCond .ne 5, 3) := by decide +kernel
theorem dX2_mayFit_40 : decode cX2_mayFit 40 = .ok (.iconst 0, 1) := by decide +kernel
theorem dX2_mayFit_41 : decode cX2_mayFit 41 = .ok (.ireturn, 1) := by decide +kernel
theorem dX2_mayFit_42 : decode cX2_mayFit 42 = .ok (.iinc 2 1, 3) := by decide +kernel
theorem dX2_mayFit_45 : decode cX2_mayFit 45 = .ok (.goto (-33), 3) := by decide +kernel
theorem dX2_mayFit_48 : decode cX2_mayFit 48 = .ok (.iconst 1, 1) := by decide +kernel
theorem dX2_mayFit_49 : decode cX2_mayFit 49 = .ok (.ireturn, 1) := by decide +kernel
theorem dX2_mayBeAdmissible_0 : decode cX2_mayBeAdmissible 0 = .ok (.aload_n 0, 1) := by decide +kernel
theorem dX2_mayBeAdmissible_1 : decode cX2_mayBeAdmissible 1 = .ok (.getfield 41, 3) := by decide +kernel
theorem dX2_mayBeAdmissible_4 : decode cX2_mayBeAdmissible 4 = .ok (.ifCond .lt 11, 3) := by decide +kernel
theorem dX2_mayBeAdmissible_7 : decode cX2_mayBeAdmissible 7 = .ok (.aload_n 0, 1) := by decide +kernel
theorem dX2_mayBeAdmissible_8 : decode cX2_mayBeAdmissible 8 = .ok (.getfield 41, 3) := by decide +kernel
theorem dX2_mayBeAdmissible_11 : decode cX2_mayBeAdmissible 11 = .ok (.iload_n 1, 1) := by decide +kernel
theorem dX2_mayBeAdmissible_12 : decode cX2_mayBeAdmissible 12 = .ok (.if_icmp .lt 5, 3) := by decide +kernel
theorem dX2_mayBeAdmissible_15 : decode cX2_mayBeAdmissible 15 = .ok (.iconst 1, 1) := by decide +kernel
theorem dX2_mayBeAdmissible_16 : decode cX2_mayBeAdmissible 16 = .ok (.ireturn, 1) := by decide +kernel
theorem dX2_mayBeAdmissible_17 : decode cX2_mayBeAdmissible 17 = .ok (.iconst 0, 1) := by decide +kernel
theorem dX2_mayBeAdmissible_18 : decode cX2_mayBeAdmissible 18 = .ok (.istore_n 2, 1) := by decide +kernel
theorem dX2_mayBeAdmissible_19 : decode cX2_mayBeAdmissible 19 = .ok (.iload_n 2, 1) := by decide +kernel
theorem dX2_mayBeAdmissible_20 : decode cX2_mayBeAdmissible 20 = .ok (.iload_n 1, 1) := by decide +kernel
theorem dX2_mayBeAdmissible_21 : decode cX2_mayBeAdmissible 21 = .ok (.if_icmp .ge 37, 3) := by decide +kernel
theorem dX2_mayBeAdmissible_24 : decode cX2_mayBeAdmissible 24 = .ok (.iload_n 2, 1) := by decide +kernel
theorem dX2_mayBeAdmissible_25 : decode cX2_mayBeAdmissible 25 = .ok (.aload_n 0, 1) := by decide +kernel
theorem dX2_mayBeAdmissible_26 : decode cX2_mayBeAdmissible 26 = .ok (.getfield 41, 3) := by decide +kernel
theorem dX2_mayBeAdmissible_29 : decode cX2_mayBeAdmissible 29 = .ok (.if_icmp .eq 23, 3) := by decide +kernel
theorem dX2_mayBeAdmissible_32 : decode cX2_mayBeAdmissible 32 = .ok (.aload_n 0, 1) := by decide +kernel
theorem dX2_mayBeAdmissible_33 : decode cX2_mayBeAdmissible 33 = .ok (.getfield 59, 3) := by decide +kernel
theorem dX2_mayBeAdmissible_36 : decode cX2_mayBeAdmissible 36 = .ok (.iload_n 2, 1) := by decide +kernel
theorem dX2_mayBeAdmissible_37 : decode cX2_mayBeAdmissible 37 = .ok (.iaload, 1) := by decide +kernel
theorem dX2_mayBeAdmissible_38 : decode cX2_mayBeAdmissible 38 = .ok (.aload_n 0, 1) := by decide +kernel
theorem dX2_mayBeAdmissible_39 : decode cX2_mayBeAdmissible 39 = .ok (.getfield 59, 3) := by decide +kernel
theorem dX2_mayBeAdmissible_42 : decode cX2_mayBeAdmissible 42 = .ok (.aload_n 0, 1) := by decide +kernel
theorem dX2_mayBeAdmissible_43 : decode cX2_mayBeAdmissible 43 = .ok (.getfield 41, 3) := by decide +kernel
theorem dX2_mayBeAdmissible_46 : decode cX2_mayBeAdmissible 46 = .ok (.iaload, 1) := by decide +kernel
theorem dX2_mayBeAdmissible_47 : decode cX2_mayBeAdmissible 47 = .ok (.if_icmp .lt 5, 3) := by decide +kernel
theorem dX2_mayBeAdmissible_50 : decode cX2_mayBeAdmissible 50 = .ok (.iconst 0, 1) := by decide +kernel
theorem dX2_mayBeAdmissible_51 : decode cX2_mayBeAdmissible 51 = .ok (.ireturn, 1) := by decide +kernel
theorem dX2_mayBeAdmissible_52 : decode cX2_mayBeAdmissible 52 = .ok (.iinc 2 1, 3) := by decide +kernel
theorem dX2_mayBeAdmissible_55 : decode cX2_mayBeAdmissible 55 = .ok (.goto (-36), 3) := by decide +kernel
theorem dX2_mayBeAdmissible_58 : decode cX2_mayBeAdmissible 58 = .ok (.iconst 1, 1) := by decide +kernel
theorem dX2_mayBeAdmissible_59 : decode cX2_mayBeAdmissible 59 = .ok (.ireturn, 1) := by decide +kernel
theorem dX2_mayOrient_0 : decode cX2_mayOrient 0 = .ok (.lload_n 1, 1) := by decide +kernel
theorem dX2_mayOrient_1 : decode cX2_mayOrient 1 = .ok (.invokestatic 63, 3) := by decide +kernel
theorem dX2_mayOrient_4 : decode cX2_mayOrient 4 = .ok (.lload_n 3, 1) := by decide +kernel
theorem dX2_mayOrient_5 : decode cX2_mayOrient 5 = .ok (.invokestatic 63, 3) := by decide +kernel
theorem dX2_mayOrient_8 : decode cX2_mayOrient 8 = .ok (.invokestatic 69, 3) := by decide +kernel
theorem dX2_mayOrient_11 : decode cX2_mayOrient 11 = .ok (.istore 6, 2) := by decide +kernel
theorem dX2_mayOrient_13 : decode cX2_mayOrient 13 = .ok (.iconst 0, 1) := by decide +kernel
theorem dX2_mayOrient_14 : decode cX2_mayOrient 14 = .ok (.istore 7, 2) := by decide +kernel
theorem dX2_mayOrient_16 : decode cX2_mayOrient 16 = .ok (.iload 7, 2) := by decide +kernel
theorem dX2_mayOrient_18 : decode cX2_mayOrient 18 = .ok (.iload 6, 2) := by decide +kernel
theorem dX2_mayOrient_20 : decode cX2_mayOrient 20 = .ok (.if_icmp .ge 99, 3) := by decide +kernel
theorem dX2_mayOrient_23 : decode cX2_mayOrient 23 = .ok (.lload_n 1, 1) := by decide +kernel
theorem dX2_mayOrient_24 : decode cX2_mayOrient 24 = .ok (.iload 7, 2) := by decide +kernel
theorem dX2_mayOrient_26 : decode cX2_mayOrient 26 = .ok (.aload_n 0, 1) := by decide +kernel
theorem dX2_mayOrient_27 : decode cX2_mayOrient 27 = .ok (.getfield 44, 3) := by decide +kernel
theorem dX2_mayOrient_30 : decode cX2_mayOrient 30 = .ok (.invokestatic 75, 3) := by decide +kernel
theorem dX2_mayOrient_33 : decode cX2_mayOrient 33 = .ok (.istore 8, 2) := by decide +kernel
theorem dX2_mayOrient_35 : decode cX2_mayOrient 35 = .ok (.lload_n 3, 1) := by decide +kernel
theorem dX2_mayOrient_36 : decode cX2_mayOrient 36 = .ok (.iload 7, 2) := by decide +kernel
theorem dX2_mayOrient_38 : decode cX2_mayOrient 38 = .ok (.aload_n 0, 1) := by decide +kernel
theorem dX2_mayOrient_39 : decode cX2_mayOrient 39 = .ok (.getfield 44, 3) := by decide +kernel
theorem dX2_mayOrient_42 : decode cX2_mayOrient 42 = .ok (.invokestatic 75, 3) := by decide +kernel
theorem dX2_mayOrient_45 : decode cX2_mayOrient 45 = .ok (.istore 9, 2) := by decide +kernel
theorem dX2_mayOrient_47 : decode cX2_mayOrient 47 = .ok (.iload 8, 2) := by decide +kernel
theorem dX2_mayOrient_49 : decode cX2_mayOrient 49 = .ok (.iload 9, 2) := by decide +kernel
theorem dX2_mayOrient_51 : decode cX2_mayOrient 51 = .ok (.if_icmp .ne 6, 3) := by decide +kernel
theorem dX2_mayOrient_54 : decode cX2_mayOrient 54 = .ok (.goto 59, 3) := by decide +kernel
theorem dX2_mayOrient_57 : decode cX2_mayOrient 57 = .ok (.iload 8, 2) := by decide +kernel
theorem dX2_mayOrient_59 : decode cX2_mayOrient 59 = .ok (.iload 5, 2) := by decide +kernel
theorem dX2_mayOrient_61 : decode cX2_mayOrient 61 = .ok (.if_icmp .ge 10, 3) := by decide +kernel
theorem dX2_mayOrient_64 : decode cX2_mayOrient 64 = .ok (.iload 9, 2) := by decide +kernel
theorem dX2_mayOrient_66 : decode cX2_mayOrient 66 = .ok (.iload 5, 2) := by decide +kernel
theorem dX2_mayOrient_68 : decode cX2_mayOrient 68 = .ok (.if_icmp .lt 5, 3) := by decide +kernel
theorem dX2_mayOrient_71 : decode cX2_mayOrient 71 = .ok (.iconst 1, 1) := by decide +kernel
theorem dX2_mayOrient_72 : decode cX2_mayOrient 72 = .ok (.ireturn, 1) := by decide +kernel
theorem dX2_mayOrient_73 : decode cX2_mayOrient 73 = .ok (.aload_n 0, 1) := by decide +kernel
theorem dX2_mayOrient_74 : decode cX2_mayOrient 74 = .ok (.getfield 59, 3) := by decide +kernel
theorem dX2_mayOrient_77 : decode cX2_mayOrient 77 = .ok (.iload 8, 2) := by decide +kernel
theorem dX2_mayOrient_79 : decode cX2_mayOrient 79 = .ok (.iaload, 1) := by decide +kernel
theorem dX2_mayOrient_80 : decode cX2_mayOrient 80 = .ok (.aload_n 0, 1) := by decide +kernel
theorem dX2_mayOrient_81 : decode cX2_mayOrient 81 = .ok (.getfield 59, 3) := by decide +kernel
theorem dX2_mayOrient_84 : decode cX2_mayOrient 84 = .ok (.iload 9, 2) := by decide +kernel
theorem dX2_mayOrient_86 : decode cX2_mayOrient 86 = .ok (.iaload, 1) := by decide +kernel
theorem dX2_mayOrient_87 : decode cX2_mayOrient 87 = .ok (.if_icmp .eq 26, 3) := by decide +kernel
theorem dX2_mayOrient_90 : decode cX2_mayOrient 90 = .ok (.aload_n 0, 1) := by decide +kernel
theorem dX2_mayOrient_91 : decode cX2_mayOrient 91 = .ok (.getfield 59, 3) := by decide +kernel
theorem dX2_mayOrient_94 : decode cX2_mayOrient 94 = .ok (.iload 8, 2) := by decide +kernel
theorem dX2_mayOrient_96 : decode cX2_mayOrient 96 = .ok (.iaload, 1) := by decide +kernel
theorem dX2_mayOrient_97 : decode cX2_mayOrient 97 = .ok (.aload_n 0, 1) := by decide +kernel
theorem dX2_mayOrient_98 : decode cX2_mayOrient 98 = .ok (.getfield 59, 3) := by decide +kernel
theorem dX2_mayOrient_101 : decode cX2_mayOrient 101 = .ok (.iload 9, 2) := by decide +kernel
theorem dX2_mayOrient_103 : decode cX2_mayOrient 103 = .ok (.iaload, 1) := by decide +kernel
theorem dX2_mayOrient_104 : decode cX2_mayOrient 104 = .ok (.if_icmp .le 7, 3) := by decide +kernel
theorem dX2_mayOrient_107 : decode cX2_mayOrient 107 = .ok (.iconst 1, 1) := by decide +kernel
theorem dX2_mayOrient_108 : decode cX2_mayOrient 108 = .ok (.goto 4, 3) := by decide +kernel
theorem dX2_mayOrient_111 : decode cX2_mayOrient 111 = .ok (.iconst 0, 1) := by decide +kernel
theorem dX2_mayOrient_112 : decode cX2_mayOrient 112 = .ok (.ireturn, 1) := by decide +kernel
theorem dX2_mayOrient_113 : decode cX2_mayOrient 113 = .ok (.iinc 7 1, 3) := by decide +kernel
theorem dX2_mayOrient_116 : decode cX2_mayOrient 116 = .ok (.goto (-100), 3) := by decide +kernel
theorem dX2_mayOrient_119 : decode cX2_mayOrient 119 = .ok (.lload_n 1, 1) := by decide +kernel
theorem dX2_mayOrient_120 : decode cX2_mayOrient 120 = .ok (.invokestatic 63, 3) := by decide +kernel
theorem dX2_mayOrient_123 : decode cX2_mayOrient 123 = .ok (.lload_n 3, 1) := by decide +kernel
theorem dX2_mayOrient_124 : decode cX2_mayOrient 124 = .ok (.invokestatic 63, 3) := by decide +kernel
theorem dX2_mayOrient_127 : decode cX2_mayOrient 127 = .ok (.if_icmp .le 7, 3) := by decide +kernel
theorem dX2_mayOrient_130 : decode cX2_mayOrient 130 = .ok (.iconst 1, 1) := by decide +kernel
theorem dX2_mayOrient_131 : decode cX2_mayOrient 131 = .ok (.goto 4, 3) := by decide +kernel
theorem dX2_mayOrient_134 : decode cX2_mayOrient 134 = .ok (.iconst 0, 1) := by decide +kernel
theorem dX2_mayOrient_135 : decode cX2_mayOrient 135 = .ok (.ireturn, 1) := by decide +kernel
theorem dX3_init_0 : decode cX3_init 0 = .ok (.aload_n 0, 1) := by decide +kernel
theorem dX3_init_1 : decode cX3_init 1 = .ok (.invokespecial 1, 3) := by decide +kernel
theorem dX3_init_4 : decode cX3_init 4 = .ok (.aload_n 0, 1) := by decide +kernel
theorem dX3_init_5 : decode cX3_init 5 = .ok (.bipush 8, 2) := by decide +kernel
theorem dX3_init_7 : decode cX3_init 7 = .ok (.bipush 8, 2) := by decide +kernel
theorem dX3_init_9 : decode cX3_init 9 = .ok (.multianewarray 7 2, 4) := by decide +kernel
theorem dX3_init_13 : decode cX3_init 13 = .ok (.putfield 9, 3) := by decide +kernel
theorem dX3_init_16 : decode cX3_init 16 = .ok (.aload_n 0, 1) := by decide +kernel
theorem dX3_init_17 : decode cX3_init 17 = .ok (.bipush 8, 2) := by decide +kernel
theorem dX3_init_19 : decode cX3_init 19 = .ok (.bipush 9, 2) := by decide +kernel
theorem dX3_init_21 : decode cX3_init 21 = .ok (.multianewarray 7 2, 4) := by decide +kernel
theorem dX3_init_25 : decode cX3_init 25 = .ok (.putfield 14, 3) := by decide +kernel
theorem dX3_init_28 : decode cX3_init 28 = .ok (.aload_n 0, 1) := by decide +kernel
theorem dX3_init_29 : decode cX3_init 29 = .ok (.bipush 9, 2) := by decide +kernel
theorem dX3_init_31 : decode cX3_init 31 = .ok (.bipush 8, 2) := by decide +kernel
theorem dX3_init_33 : decode cX3_init 33 = .ok (.multianewarray 7 2, 4) := by decide +kernel
theorem dX3_init_37 : decode cX3_init 37 = .ok (.putfield 17, 3) := by decide +kernel
theorem dX3_init_40 : decode cX3_init 40 = .ok (.return_, 1) := by decide +kernel
theorem dX3_prepareWeights_0 : decode cX3_prepareWeights 0 = .ok (.aload_n 0, 1) := by decide +kernel
theorem dX3_prepareWeights_1 : decode cX3_prepareWeights 1 = .ok (.aload_n 1, 1) := by decide +kernel
theorem dX3_prepareWeights_2 : decode cX3_prepareWeights 2 = .ok (.getfield 20, 3) := by decide +kernel
theorem dX3_prepareWeights_5 : decode cX3_prepareWeights 5 = .ok (.putfield 26, 3) := by decide +kernel
theorem dX3_prepareWeights_8 : decode cX3_prepareWeights 8 = .ok (.aload_n 0, 1) := by decide +kernel
theorem dX3_prepareWeights_9 : decode cX3_prepareWeights 9 = .ok (.aload_n 1, 1) := by decide +kernel
theorem dX3_prepareWeights_10 : decode cX3_prepareWeights 10 = .ok (.getfield 29, 3) := by decide +kernel
theorem dX3_prepareWeights_13 : decode cX3_prepareWeights 13 = .ok (.putfield 32, 3) := by decide +kernel
theorem dX3_prepareWeights_16 : decode cX3_prepareWeights 16 = .ok (.aload_n 0, 1) := by decide +kernel
theorem dX3_prepareWeights_17 : decode cX3_prepareWeights 17 = .ok (.iconst 1, 1) := by decide +kernel
theorem dX3_prepareWeights_18 : decode cX3_prepareWeights 18 = .ok (.putfield 35, 3) := by decide +kernel
theorem dX3_prepareWeights_21 : decode cX3_prepareWeights 21 = .ok (.aload_n 0, 1) := by decide +kernel
theorem dX3_prepareWeights_22 : decode cX3_prepareWeights 22 = .ok (.aload_n 0, 1) := by decide +kernel
theorem dX3_prepareWeights_23 : decode cX3_prepareWeights 23 = .ok (.getfield 26, 3) := by decide +kernel
theorem dX3_prepareWeights_26 : decode cX3_prepareWeights 26 = .ok (.ifCond .ne 7, 3) := by decide +kernel
theorem dX3_prepareWeights_29 : decode cX3_prepareWeights 29 = .ok (.iconst 1, 1) := by decide +kernel
theorem dX3_prepareWeights_30 : decode cX3_prepareWeights 30 = .ok (.goto 4, 3) := by decide +kernel
theorem dX3_prepareWeights_33 : decode cX3_prepareWeights 33 = .ok (.iconst 0, 1) := by decide +kernel
theorem dX3_prepareWeights_34 : decode cX3_prepareWeights 34 = .ok (.putfield 38, 3) := by decide +kernel
theorem dX3_prepareWeights_37 : decode cX3_prepareWeights 37 = .ok (.iconst 0, 1) := by decide +kernel
theorem dX3_prepareWeights_38 : decode cX3_prepareWeights 38 = .ok (.istore_n 3, 1) := by decide +kernel
theorem dX3_prepareWeights_39 : decode cX3_prepareWeights 39 = .ok (.iload_n 3, 1) := by decide +kernel
theorem dX3_prepareWeights_40 : decode cX3_prepareWeights 40 = .ok (.aload_n 0, 1) := by decide +kernel
theorem dX3_prepareWeights_41 : decode cX3_prepareWeights 41 = .ok (.getfield 26, 3) := by decide +kernel
theorem dX3_prepareWeights_44 : decode cX3_prepareWeights 44 = .ok (.if_icmp .ge 45, 3) := by decide +kernel
theorem dX3_prepareWeights_47 : decode cX3_prepareWeights 47 = .ok (.iconst 0, 1) := by decide +kernel
theorem dX3_prepareWeights_48 : decode cX3_prepareWeights 48 = .ok (.istore 4, 2) := by decide +kernel
theorem dX3_prepareWeights_50 : decode cX3_prepareWeights 50 = .ok (.iload 4, 2) := by decide +kernel
theorem dX3_prepareWeights_52 : decode cX3_prepareWeights 52 = .ok (.aload_n 0, 1) := by decide +kernel
theorem dX3_prepareWeights_53 : decode cX3_prepareWeights 53 = .ok (.getfield 32, 3) := by decide +kernel
theorem dX3_prepareWeights_56 : decode cX3_prepareWeights 56 = .ok (.if_icmp .ge 27, 3) := by decide +kernel
theorem dX3_prepareWeights_59 : decode cX3_prepareWeights 59 = .ok (.aload_n 0, 1) := by decide +kernel
theorem dX3_prepareWeights_60 : decode cX3_prepareWeights 60 = .ok (.getfield 9, 3) := by decide +kernel
theorem dX3_prepareWeights_63 : decode cX3_prepareWeights 63 = .ok (.iload_n 3, 1) := by decide +kernel
theorem dX3_prepareWeights_64 : decode cX3_prepareWeights 64 = .ok (.aaload, 1) := by decide +kernel
theorem dX3_prepareWeights_65 : decode cX3_prepareWeights 65 = .ok (.iload 4, 2) := by decide +kernel
theorem dX3_prepareWeights_67 : decode cX3_prepareWeights 67 = .ok (.aload_n 1, 1) := by decide +kernel
theorem dX3_prepareWeights_68 : decode cX3_prepareWeights 68 = .ok (.getfield 42, 3) := by decide +kernel
theorem dX3_prepareWeights_71 : decode cX3_prepareWeights 71 = .ok (.iload_n 3, 1) := by decide +kernel
theorem dX3_prepareWeights_72 : decode cX3_prepareWeights 72 = .ok (.aaload, 1) := by decide +kernel
theorem dX3_prepareWeights_73 : decode cX3_prepareWeights 73 = .ok (.iload 4, 2) := by decide +kernel
theorem dX3_prepareWeights_75 : decode cX3_prepareWeights 75 = .ok (.iaload, 1) := by decide +kernel
theorem dX3_prepareWeights_76 : decode cX3_prepareWeights 76 = .ok (.iastore, 1) := by decide +kernel
theorem dX3_prepareWeights_77 : decode cX3_prepareWeights 77 = .ok (.iinc 4 1, 3) := by decide +kernel
theorem dX3_prepareWeights_80 : decode cX3_prepareWeights 80 = .ok (.goto (-30), 3) := by decide +kernel
theorem dX3_prepareWeights_83 : decode cX3_prepareWeights 83 = .ok (.iinc 3 1, 3) := by decide +kernel
theorem dX3_prepareWeights_86 : decode cX3_prepareWeights 86 = .ok (.goto (-47), 3) := by decide +kernel
theorem dX3_prepareWeights_89 : decode cX3_prepareWeights 89 = .ok (.aload_n 0, 1) := by decide +kernel
theorem dX3_prepareWeights_90 : decode cX3_prepareWeights 90 = .ok (.iload_n 2, 1) := by decide +kernel
theorem dX3_prepareWeights_91 : decode cX3_prepareWeights 91 = .ok (.invokevirtual 45, 3) := by decide +kernel
theorem dX3_prepareWeights_94 : decode cX3_prepareWeights 94 = .ok (.return_, 1) := by decide +kernel
theorem dX3_prepareCertificate_0 : decode cX3_prepareCertificate 0 = .ok (.aload_n 0, 1) := by decide +kernel
theorem dX3_prepareCertificate_1 : decode cX3_prepareCertificate 1 = .ok (.aload_n 1, 1) := by decide +kernel
theorem dX3_prepareCertificate_2 : decode cX3_prepareCertificate 2 = .ok (.getfield 29, 3) := by decide +kernel
theorem dX3_prepareCertificate_5 : decode cX3_prepareCertificate 5 = .ok (.putfield 26, 3) := by decide +kernel
theorem dX3_prepareCertificate_8 : decode cX3_prepareCertificate 8 = .ok (.aload_n 0, 1) := by decide +kernel
theorem dX3_prepareCertificate_9 : decode cX3_prepareCertificate 9 = .ok (.aload_n 1, 1) := by decide +kernel
theorem dX3_prepareCertificate_10 : decode cX3_prepareCertificate 10 = .ok (.getfield 20, 3) := by decide +kernel
theorem dX3_prepareCertificate_13 : decode cX3_prepareCertificate 13 = .ok (.putfield 32, 3) := by decide +kernel
theorem dX3_prepareCertificate_16 : decode cX3_prepareCertificate 16 = .ok (.aload_n 0, 1) := by decide +kernel
theorem dX3_prepareCertificate_17 : decode cX3_prepareCertificate 17 = .ok (.iconst 0, 1) := by decide +kernel
theorem dX3_prepareCertificate_18 : decode cX3_prepareCertificate 18 = .ok (.putfield 35, 3) := by decide +kernel
theorem dX3_prepareCertificate_21 : decode cX3_prepareCertificate 21 = .ok (.aload_n 0, 1) := by decide +kernel
theorem dX3_prepareCertificate_22 : decode cX3_prepareCertificate 22 = .ok (.iconst 0, 1) := by decide +kernel
theorem dX3_prepareCertificate_23 : decode cX3_prepareCertificate 23 = .ok (.putfield 38, 3) := by decide +kernel
theorem dX3_prepareCertificate_26 : decode cX3_prepareCertificate 26 = .ok (.iconst 0, 1) := by decide +kernel
theorem dX3_prepareCertificate_27 : decode cX3_prepareCertificate 27 = .ok (.istore_n 3, 1) := by decide +kernel
theorem dX3_prepareCertificate_28 : decode cX3_prepareCertificate 28 = .ok (.iload_n 3, 1) := by decide +kernel
theorem dX3_prepareCertificate_29 : decode cX3_prepareCertificate 29 = .ok (.aload_n 0, 1) := by decide +kernel
theorem dX3_prepareCertificate_30 : decode cX3_prepareCertificate 30 = .ok (.getfield 26, 3) := by decide +kernel
theorem dX3_prepareCertificate_33 : decode cX3_prepareCertificate 33 = .ok (.if_icmp .ge 46, 3) := by decide +kernel
theorem dX3_prepareCertificate_36 : decode cX3_prepareCertificate 36 = .ok (.iconst 0, 1) := by decide +kernel
theorem dX3_prepareCertificate_37 : decode cX3_prepareCertificate 37 = .ok (.istore 4, 2) := by decide +kernel
theorem dX3_prepareCertificate_39 : decode cX3_prepareCertificate 39 = .ok (.iload 4, 2) := by decide +kernel
theorem dX3_prepareCertificate_41 : decode cX3_prepareCertificate 41 = .ok (.aload_n 0, 1) := by decide +kernel
theorem dX3_prepareCertificate_42 : decode cX3_prepareCertificate 42 = .ok (.getfield 32, 3) := by decide +kernel
theorem dX3_prepareCertificate_45 : decode cX3_prepareCertificate 45 = .ok (.if_icmp .ge 28, 3) := by decide +kernel
theorem dX3_prepareCertificate_48 : decode cX3_prepareCertificate 48 = .ok (.aload_n 0, 1) := by decide +kernel
theorem dX3_prepareCertificate_49 : decode cX3_prepareCertificate 49 = .ok (.getfield 9, 3) := by decide +kernel
theorem dX3_prepareCertificate_52 : decode cX3_prepareCertificate 52 = .ok (.iload_n 3, 1) := by decide +kernel
theorem dX3_prepareCertificate_53 : decode cX3_prepareCertificate 53 = .ok (.aaload, 1) := by decide +kernel
theorem dX3_prepareCertificate_54 : decode cX3_prepareCertificate 54 = .ok (.iload 4, 2) := by decide +kernel
theorem dX3_prepareCertificate_56 : decode cX3_prepareCertificate 56 = .ok (.aload_n 1, 1) := by decide +kernel
theorem dX3_prepareCertificate_57 : decode cX3_prepareCertificate 57 = .ok (.getfield 42, 3) := by decide +kernel
theorem dX3_prepareCertificate_60 : decode cX3_prepareCertificate 60 = .ok (.iload 4, 2) := by decide +kernel
theorem dX3_prepareCertificate_62 : decode cX3_prepareCertificate 62 = .ok (.aaload, 1) := by decide +kernel
theorem dX3_prepareCertificate_63 : decode cX3_prepareCertificate 63 = .ok (.iload_n 3, 1) := by decide +kernel
theorem dX3_prepareCertificate_64 : decode cX3_prepareCertificate 64 = .ok (.iaload, 1) := by decide +kernel
theorem dX3_prepareCertificate_65 : decode cX3_prepareCertificate 65 = .ok (.ineg, 1) := by decide +kernel
theorem dX3_prepareCertificate_66 : decode cX3_prepareCertificate 66 = .ok (.iastore, 1) := by decide +kernel
theorem dX3_prepareCertificate_67 : decode cX3_prepareCertificate 67 = .ok (.iinc 4 1, 3) := by decide +kernel
theorem dX3_prepareCertificate_70 : decode cX3_prepareCertificate 70 = .ok (.goto (-31), 3) := by decide +kernel
theorem dX3_prepareCertificate_73 : decode cX3_prepareCertificate 73 = .ok (.iinc 3 1, 3) := by decide +kernel
theorem dX3_prepareCertificate_76 : decode cX3_prepareCertificate 76 = .ok (.goto (-48), 3) := by decide +kernel
theorem dX3_prepareCertificate_79 : decode cX3_prepareCertificate 79 = .ok (.aload_n 0, 1) := by decide +kernel
theorem dX3_prepareCertificate_80 : decode cX3_prepareCertificate 80 = .ok (.iload_n 2, 1) := by decide +kernel
theorem dX3_prepareCertificate_81 : decode cX3_prepareCertificate 81 = .ok (.invokevirtual 45, 3) := by decide +kernel
theorem dX3_prepareCertificate_84 : decode cX3_prepareCertificate 84 = .ok (.return_, 1) := by decide +kernel
theorem dX3_boundRows_0 : decode cX3_boundRows 0 = .ok (.iconst 0, 1) := by decide +kernel
theorem dX3_boundRows_1 : decode cX3_boundRows 1 = .ok (.istore_n 2, 1) := by decide +kernel
theorem dX3_boundRows_2 : decode cX3_boundRows 2 = .ok (.iload_n 2, 1) := by decide +kernel
theorem dX3_boundRows_3 : decode cX3_boundRows 3 = .ok (.aload_n 0, 1) := by decide +kernel
theorem dX3_boundRows_4 : decode cX3_boundRows 4 = .ok (.getfield 26, 3) := by decide +kernel
theorem dX3_boundRows_7 : decode cX3_boundRows 7 = .ok (.if_icmp .ge 71, 3) := by decide +kernel
theorem dX3_boundRows_10 : decode cX3_boundRows 10 = .ok (.aload_n 0, 1) := by decide +kernel
theorem dX3_boundRows_11 : decode cX3_boundRows 11 = .ok (.getfield 14, 3) := by decide +kernel
theorem dX3_boundRows_14 : decode cX3_boundRows 14 = .ok (.iload_n 2, 1) := by decide +kernel
theorem dX3_boundRows_15 : decode cX3_boundRows 15 = .ok (.aaload, 1) := by decide +kernel
theorem dX3_boundRows_16 : decode cX3_boundRows 16 = .ok (.aload_n 0, 1) := by decide +kernel
theorem dX3_boundRows_17 : decode cX3_boundRows 17 = .ok (.getfield 32, 3) := by decide +kernel
theorem dX3_boundRows_20 : decode cX3_boundRows 20 = .ok (.iconst 0, 1) := by decide +kernel
theorem dX3_boundRows_21 : decode cX3_boundRows 21 = .ok (.iastore, 1) := by decide +kernel
theorem dX3_boundRows_22 : decode cX3_boundRows 22 = .ok (.aload_n 0, 1) := by decide +kernel
theorem dX3_boundRows_23 : decode cX3_boundRows 23 = .ok (.getfield 32, 3) := by decide +kernel
theorem dX3_boundRows_26 : decode cX3_boundRows 26 = .ok (.iconst 1, 1) := by decide +kernel
theorem dX3_boundRows_27 : decode cX3_boundRows 27 = .ok (.isub, 1) := by decide +kernel
theorem dX3_boundRows_28 : decode cX3_boundRows 28 = .ok (.istore_n 3, 1) := by decide +kernel
theorem dX3_boundRows_29 : decode cX3_boundRows 29 = .ok (.iload_n 3, 1) := by decide +kernel
theorem dX3_boundRows_30 : decode cX3_boundRows 30 = .ok (.ifCond .lt 42, 3) := by decide +kernel
theorem dX3_boundRows_33 : decode cX3_boundRows 33 = .ok (.aload_n 0, 1) := by decide +kernel
theorem dX3_boundRows_34 : decode cX3_boundRows 34 = .ok (.getfield 14, 3) := by decide +kernel
theorem dX3_boundRows_37 : decode cX3_boundRows 37 = .ok (.iload_n 2, 1) := by decide +kernel
theorem dX3_boundRows_38 : decode cX3_boundRows 38 = .ok (.aaload, 1) := by decide +kernel
theorem dX3_boundRows_39 : decode cX3_boundRows 39 = .ok (.iload_n 3, 1) := by decide +kernel
theorem dX3_boundRows_40 : decode cX3_boundRows 40 = .ok (.aload_n 0, 1) := by decide +kernel
theorem dX3_boundRows_41 : decode cX3_boundRows 41 = .ok (.getfield 14, 3) := by decide +kernel
theorem dX3_boundRows_44 : decode cX3_boundRows 44 = .ok (.iload_n 2, 1) := by decide +kernel
theorem dX3_boundRows_45 : decode cX3_boundRows 45 = .ok (.aaload, 1) := by decide +kernel
theorem dX3_boundRows_46 : decode cX3_boundRows 46 = .ok (.iload_n 3, 1) := by decide +kernel
theorem dX3_boundRows_47 : decode cX3_boundRows 47 = .ok (.iconst 1, 1) := by decide +kernel
theorem dX3_boundRows_48 : decode cX3_boundRows 48 = .ok (.iadd, 1) := by decide +kernel
theorem dX3_boundRows_49 : decode cX3_boundRows 49 = .ok (.iaload, 1) := by decide +kernel
theorem dX3_boundRows_50 : decode cX3_boundRows 50 = .ok (.iload_n 1, 1) := by decide +kernel
theorem dX3_boundRows_51 : decode cX3_boundRows 51 = .ok (.aload_n 0, 1) := by decide +kernel
theorem dX3_boundRows_52 : decode cX3_boundRows 52 = .ok (.getfield 9, 3) := by decide +kernel
theorem dX3_boundRows_55 : decode cX3_boundRows 55 = .ok (.iload_n 2, 1) := by decide +kernel
theorem dX3_boundRows_56 : decode cX3_boundRows 56 = .ok (.aaload, 1) := by decide +kernel
theorem dX3_boundRows_57 : decode cX3_boundRows 57 = .ok (.iload_n 3, 1) := by decide +kernel
theorem dX3_boundRows_58 : decode cX3_boundRows 58 = .ok (.iaload, 1) := by decide +kernel
theorem dX3_boundRows_59 : decode cX3_boundRows 59 = .ok (.iconst 0, 1) := by decide +kernel
theorem dX3_boundRows_60 : decode cX3_boundRows 60 = .ok (.invokestatic 49, 3) := by decide +kernel
theorem dX3_boundRows_63 : decode cX3_boundRows 63 = .ok (.imul, 1) := by decide +kernel
theorem dX3_boundRows_64 : decode cX3_boundRows 64 = .ok (.iadd, 1) := by decide +kernel
theorem dX3_boundRows_65 : decode cX3_boundRows 65 = .ok (.iastore, 1) := by decide +kernel
theorem dX3_boundRows_66 : decode cX3_boundRows 66 = .ok (.iinc 3 (-1), 3) := by decide +kernel
theorem dX3_boundRows_69 : decode cX3_boundRows 69 = .ok (.goto (-40), 3) := by decide +kernel
theorem dX3_boundRows_72 : decode cX3_boundRows 72 = .ok (.iinc 2 1, 3) := by decide +kernel
theorem dX3_boundRows_75 : decode cX3_boundRows 75 = .ok (.goto (-73), 3) := by decide +kernel
theorem dX3_boundRows_78 : decode cX3_boundRows 78 = .ok (.return_, 1) := by decide +kernel
theorem dX3_mayFit_0 : decode cX3_mayFit 0 = .ok (.iload_n 1, 1) := by decide +kernel
theorem dX3_mayFit_1 : decode cX3_mayFit 1 = .ok (.iconst 1, 1) := by decide +kernel
theorem dX3_mayFit_2 : decode cX3_mayFit 2 = .ok (.isub, 1) := by decide +kernel
theorem dX3_mayFit_3 : decode cX3_mayFit 3 = .ok (.istore_n 2, 1) := by decide +kernel
theorem dX3_mayFit_4 : decode cX3_mayFit 4 = .ok (.iconst 0, 1) := by decide +kernel
theorem dX3_mayFit_5 : decode cX3_mayFit 5 = .ok (.istore_n 3, 1) := by decide +kernel
theorem dX3_mayFit_6 : decode cX3_mayFit 6 = .ok (.iload_n 3, 1) := by decide +kernel
theorem dX3_mayFit_7 : decode cX3_mayFit 7 = .ok (.aload_n 0, 1) := by decide +kernel
theorem dX3_mayFit_8 : decode cX3_mayFit 8 = .ok (.getfield 26, 3) := by decide +kernel
theorem dX3_mayFit_11 : decode cX3_mayFit 11 = .ok (.if_icmp .ge 67, 3) := by decide +kernel
theorem dX3_mayFit_14 : decode cX3_mayFit 14 = .ok (.aload_n 0, 1) := by decide +kernel
theorem dX3_mayFit_15 : decode cX3_mayFit 15 = .ok (.getfield 17, 3) := by decide +kernel
theorem dX3_mayFit_18 : decode cX3_mayFit 18 = .ok (.iload_n 1, 1) := by decide +kernel
theorem dX3_mayFit_19 : decode cX3_mayFit 19 = .ok (.aaload, 1) := by decide +kernel
theorem dX3_mayFit_20 : decode cX3_mayFit 20 = .ok (.iload_n 3, 1) := by decide +kernel
theorem dX3_mayFit_21 : decode cX3_mayFit 21 = .ok (.aload_n 0, 1) := by decide +kernel
theorem dX3_mayFit_22 : decode cX3_mayFit 22 = .ok (.getfield 17, 3) := by decide +kernel
theorem dX3_mayFit_25 : decode cX3_mayFit 25 = .ok (.iload_n 2, 1) := by decide +kernel
theorem dX3_mayFit_26 : decode cX3_mayFit 26 = .ok (.aaload, 1) := by decide +kernel
theorem dX3_mayFit_27 : decode cX3_mayFit 27 = .ok (.iload_n 3, 1) := by decide +kernel
theorem dX3_mayFit_28 : decode cX3_mayFit 28 = .ok (.iaload, 1) := by decide +kernel
theorem dX3_mayFit_29 : decode cX3_mayFit 29 = .ok (.aload_n 0, 1) := by decide +kernel
theorem dX3_mayFit_30 : decode cX3_mayFit 30 = .ok (.getfield 55, 3) := by decide +kernel
theorem dX3_mayFit_33 : decode cX3_mayFit 33 = .ok (.iload_n 2, 1) := by decide +kernel
theorem dX3_mayFit_34 : decode cX3_mayFit 34 = .ok (.iaload, 1) := by decide +kernel
theorem dX3_mayFit_35 : decode cX3_mayFit 35 = .ok (.aload_n 0, 1) := by decide +kernel
theorem dX3_mayFit_36 : decode cX3_mayFit 36 = .ok (.getfield 9, 3) := by decide +kernel
theorem dX3_mayFit_39 : decode cX3_mayFit 39 = .ok (.iload_n 3, 1) := by decide +kernel
theorem dX3_mayFit_40 : decode cX3_mayFit 40 = .ok (.aaload, 1) := by decide +kernel
theorem dX3_mayFit_41 : decode cX3_mayFit 41 = .ok (.iload_n 2, 1) := by decide +kernel
theorem dX3_mayFit_42 : decode cX3_mayFit 42 = .ok (.iaload, 1) := by decide +kernel
theorem dX3_mayFit_43 : decode cX3_mayFit 43 = .ok (.imul, 1) := by decide +kernel
theorem dX3_mayFit_44 : decode cX3_mayFit 44 = .ok (.iadd, 1) := by decide +kernel
theorem dX3_mayFit_45 : decode cX3_mayFit 45 = .ok (.iastore, 1) := by decide +kernel
theorem dX3_mayFit_46 : decode cX3_mayFit 46 = .ok (.aload_n 0, 1) := by decide +kernel
theorem dX3_mayFit_47 : decode cX3_mayFit 47 = .ok (.getfield 17, 3) := by decide +kernel
theorem dX3_mayFit_50 : decode cX3_mayFit 50 = .ok (.iload_n 1, 1) := by decide +kernel
theorem dX3_mayFit_51 : decode cX3_mayFit 51 = .ok (.aaload, 1) := by decide +kernel
theorem dX3_mayFit_52 : decode cX3_mayFit 52 = .ok (.iload_n 3, 1) := by decide +kernel
theorem dX3_mayFit_53 : decode cX3_mayFit 53 = .ok (.iaload, 1) := by decide +kernel
theorem dX3_mayFit_54 : decode cX3_mayFit 54 = .ok (.aload_n 0, 1) := by decide +kernel
theorem dX3_mayFit_55 : decode cX3_mayFit 55 = .ok (.getfield 14, 3) := by decide +kernel
theorem dX3_mayFit_58 : decode cX3_mayFit 58 = .ok (.iload_n 3, 1) := by decide +kernel
theorem dX3_mayFit_59 : decode cX3_mayFit 59 = .ok (.aaload, 1) := by decide +kernel
theorem dX3_mayFit_60 : decode cX3_mayFit 60 = .ok (.iload_n 1, 1) := by decide +kernel
theorem dX3_mayFit_61 : decode cX3_mayFit 61 = .ok (.iaload, 1) := by decide +kernel
theorem dX3_mayFit_62 : decode cX3_mayFit 62 = .ok (.iadd, 1) := by decide +kernel
theorem dX3_mayFit_63 : decode cX3_mayFit 63 = .ok (.aload_n 0, 1) := by decide +kernel
theorem dX3_mayFit_64 : decode cX3_mayFit 64 = .ok (.getfield 35, 3) := by decide +kernel
theorem dX3_mayFit_67 : decode cX3_mayFit 67 = .ok (.if_icmp .ge 5, 3) := by decide +kernel
theorem dX3_mayFit_70 : decode cX3_mayFit 70 = .ok (.iconst 0, 1) := by decide +kernel
theorem dX3_mayFit_71 : decode cX3_mayFit 71 = .ok (.ireturn, 1) := by decide +kernel
theorem dX3_mayFit_72 : decode cX3_mayFit 72 = .ok (.iinc 3 1, 3) := by decide +kernel
theorem dX3_mayFit_75 : decode cX3_mayFit 75 = .ok (.goto (-69), 3) := by decide +kernel
theorem dX3_mayFit_78 : decode cX3_mayFit 78 = .ok (.iload_n 1, 1) := by decide +kernel
theorem dX3_mayFit_79 : decode cX3_mayFit 79 = .ok (.aload_n 0, 1) := by decide +kernel
theorem dX3_mayFit_80 : decode cX3_mayFit 80 = .ok (.getfield 32, 3) := by decide +kernel
theorem dX3_mayFit_83 : decode cX3_mayFit 83 = .ok (.if_icmp .lt 17, 3) := by decide +kernel
theorem dX3_mayFit_86 : decode cX3_mayFit 86 = .ok (.aload_n 0, 1) := by decide +kernel
theorem dX3_mayFit_87 : decode cX3_mayFit 87 = .ok (.getfield 38, 3) := by decide +kernel
theorem dX3_mayFit_90 : decode cX3_mayFit 90 = .ok (.ifCond .ne 10, 3) := by decide +kernel
theorem dX3_mayFit_93 : decode cX3_mayFit 93 = .ok (.aload_n 0, 1) := by decide +kernel
theorem dX3_mayFit_94 : decode cX3_mayFit 94 = .ok (.invokevirtual 59, 3) := by decide +kernel
theorem dX3_mayFit_97 : decode cX3_mayFit 97 = .ok (.ifCond .eq 7, 3) := by decide +kernel
theorem dX3_mayFit_100 : decode cX3_mayFit 100 = .ok (.iconst 1, 1) := by decide +kernel
theorem dX3_mayFit_101 : decode cX3_mayFit 101 = .ok (.goto 4, 3) := by decide +kernel
theorem dX3_mayFit_104 : decode cX3_mayFit 104 = .ok (.iconst 0, 1) := by decide +kernel
theorem dX3_mayFit_105 : decode cX3_mayFit 105 = .ok (.ireturn, 1) := by decide +kernel
theorem dX3_hasNonZero_0 : decode cX3_hasNonZero 0 = .ok (.iconst 0, 1) := by decide +kernel
theorem dX3_hasNonZero_1 : decode cX3_hasNonZero 1 = .ok (.istore_n 1, 1) := by decide +kernel
theorem dX3_hasNonZero_2 : decode cX3_hasNonZero 2 = .ok (.iload_n 1, 1) := by decide +kernel
theorem dX3_hasNonZero_3 : decode cX3_hasNonZero 3 = .ok (.aload_n 0, 1) := by decide +kernel
theorem dX3_hasNonZero_4 : decode cX3_hasNonZero 4 = .ok (.getfield 32, 3) := by decide +kernel
theorem dX3_hasNonZero_7 : decode cX3_hasNonZero 7 = .ok (.if_icmp .ge 20, 3) := by decide +kernel
theorem dX3_hasNonZero_10 : decode cX3_hasNonZero 10 = .ok (.aload_n 0, 1) := by decide +kernel
theorem dX3_hasNonZero_11 : decode cX3_hasNonZero 11 = .ok (.getfield 55, 3) := by decide +kernel
theorem dX3_hasNonZero_14 : decode cX3_hasNonZero 14 = .ok (.iload_n 1, 1) := by decide +kernel
theorem dX3_hasNonZero_15 : decode cX3_hasNonZero 15 = .ok (.iaload, 1) := by decide +kernel
theorem dX3_hasNonZero_16 : decode cX3_hasNonZero 16 = .ok (.ifCond .eq 5, 3) := by decide +kernel
theorem dX3_hasNonZero_19 : decode cX3_hasNonZero 19 = .ok (.iconst 1, 1) := by decide +kernel
theorem dX3_hasNonZero_20 : decode cX3_hasNonZero 20 = .ok (.ireturn, 1) := by decide +kernel
theorem dX3_hasNonZero_21 : decode cX3_hasNonZero 21 = .ok (.iinc 1 1, 3) := by decide +kernel
theorem dX3_hasNonZero_24 : decode cX3_hasNonZero 24 = .ok (.goto (-22), 3) := by decide +kernel
theorem dX3_hasNonZero_27 : decode cX3_hasNonZero 27 = .ok (.iconst 0, 1) := by decide +kernel
theorem dX3_hasNonZero_28 : decode cX3_hasNonZero 28 = .ok (.ireturn, 1) := by decide +kernel
theorem dX4_init_0 : decode cX4_init 0 = .ok (.aload_n 0, 1) := by decide +kernel
theorem dX4_init_1 : decode cX4_init 1 = .ok (.invokespecial 3, 3) := by decide +kernel
theorem dX4_init_4 : decode cX4_init 4 = .ok (.aload_n 0, 1) := by decide +kernel
theorem dX4_init_5 : decode cX4_init 5 = .ok (.iconst 0, 1) := by decide +kernel
theorem dX4_init_6 : decode cX4_init 6 = .ok (.putfield 9, 3) := by decide +kernel
theorem dX4_init_9 : decode cX4_init 9 = .ok (.aload_n 0, 1) := by decide +kernel
theorem dX4_init_10 : decode cX4_init 10 = .ok (.sipush 200, 3) := by decide +kernel
theorem dX4_init_13 : decode cX4_init 13 = .ok (.newarray .int, 2) := by decide +kernel
theorem dX4_init_15 : decode cX4_init 15 = .ok (.putfield 15, 3) := by decide +kernel
theorem dX4_init_18 : decode cX4_init 18 = .ok (.aload_n 0, 1) := by decide +kernel
theorem dX4_init_19 : decode cX4_init 19 = .ok (.sipush 200, 3) := by decide +kernel
theorem dX4_init_22 : decode cX4_init 22 = .ok (.newarray .int, 2) := by decide +kernel
theorem dX4_init_24 : decode cX4_init 24 = .ok (.putfield 19, 3) := by decide +kernel
theorem dX4_init_27 : decode cX4_init 27 = .ok (.return_, 1) := by decide +kernel
theorem dX5_init_0 : decode cX5_init 0 = .ok (.aload_n 0, 1) := by decide +kernel
theorem dX5_init_1 : decode cX5_init 1 = .ok (.invokespecial 3, 3) := by decide +kernel
theorem dX5_init_4 : decode cX5_init 4 = .ok (.aload_n 0, 1) := by decide +kernel
theorem dX5_init_5 : decode cX5_init 5 = .ok (.bipush 8, 2) := by decide +kernel
theorem dX5_init_7 : decode cX5_init 7 = .ok (.newarray .long, 2) := by decide +kernel
theorem dX5_init_9 : decode cX5_init 9 = .ok (.putfield 9, 3) := by decide +kernel
theorem dX5_init_12 : decode cX5_init 12 = .ok (.aload_n 0, 1) := by decide +kernel
theorem dX5_init_13 : decode cX5_init 13 = .ok (.bipush 8, 2) := by decide +kernel
theorem dX5_init_15 : decode cX5_init 15 = .ok (.newarray .long, 2) := by decide +kernel
theorem dX5_init_17 : decode cX5_init 17 = .ok (.putfield 15, 3) := by decide +kernel
theorem dX5_init_20 : decode cX5_init 20 = .ok (.aload_n 0, 1) := by decide +kernel
theorem dX5_init_21 : decode cX5_init 21 = .ok (.bipush 8, 2) := by decide +kernel
theorem dX5_init_23 : decode cX5_init 23 = .ok (.bipush 8, 2) := by decide +kernel
theorem dX5_init_25 : decode cX5_init 25 = .ok (.multianewarray 18 2, 4) := by decide +kernel
theorem dX5_init_29 : decode cX5_init 29 = .ok (.putfield 20, 3) := by decide +kernel
theorem dX5_init_32 : decode cX5_init 32 = .ok (.aload_n 0, 1) := by decide +kernel
theorem dX5_init_33 : decode cX5_init 33 = .ok (.bipush 8, 2) := by decide +kernel
theorem dX5_init_35 : decode cX5_init 35 = .ok (.newarray .int, 2) := by decide +kernel
theorem dX5_init_37 : decode cX5_init 37 = .ok (.putfield 23, 3) := by decide +kernel
theorem dX5_init_40 : decode cX5_init 40 = .ok (.aload_n 0, 1) := by decide +kernel
theorem dX5_init_41 : decode cX5_init 41 = .ok (.bipush 8, 2) := by decide +kernel
theorem dX5_init_43 : decode cX5_init 43 = .ok (.newarray .int, 2) := by decide +kernel
theorem dX5_init_45 : decode cX5_init 45 = .ok (.putfield 27, 3) := by decide +kernel
theorem dX5_init_48 : decode cX5_init 48 = .ok (.aload_n 0, 1) := by decide +kernel
theorem dX5_init_49 : decode cX5_init 49 = .ok (.bipush 8, 2) := by decide +kernel
theorem dX5_init_51 : decode cX5_init 51 = .ok (.newarray .float, 2) := by decide +kernel
theorem dX5_init_53 : decode cX5_init 53 = .ok (.putfield 30, 3) := by decide +kernel
theorem dX5_init_56 : decode cX5_init 56 = .ok (.aload_n 0, 1) := by decide +kernel
theorem dX5_init_57 : decode cX5_init 57 = .ok (.iconst 3, 1) := by decide +kernel
theorem dX5_init_58 : decode cX5_init 58 = .ok (.invokevirtual 34, 3) := by decide +kernel
theorem dX5_init_61 : decode cX5_init 61 = .ok (.return_, 1) := by decide +kernel
theorem dX5_begin_0 : decode cX5_begin 0 = .ok (.aload_n 0, 1) := by decide +kernel
theorem dX5_begin_1 : decode cX5_begin 1 = .ok (.iload_n 1, 1) := by decide +kernel
theorem dX5_begin_2 : decode cX5_begin 2 = .ok (.putfield 38, 3) := by decide +kernel
theorem dX5_begin_5 : decode cX5_begin 5 = .ok (.aload_n 0, 1) := by decide +kernel
theorem dX5_begin_6 : decode cX5_begin 6 = .ok (.iconst 0, 1) := by decide +kernel
theorem dX5_begin_7 : decode cX5_begin 7 = .ok (.putfield 42, 3) := by decide +kernel
theorem dX5_begin_10 : decode cX5_begin 10 = .ok (.aload_n 0, 1) := by decide +kernel
theorem dX5_begin_11 : decode cX5_begin 11 = .ok (.iconst 0, 1) := by decide +kernel
theorem dX5_begin_12 : decode cX5_begin 12 = .ok (.putfield 45, 3) := by decide +kernel
theorem dX5_begin_15 : decode cX5_begin 15 = .ok (.aload_n 0, 1) := by decide +kernel
theorem dX5_begin_16 : decode cX5_begin 16 = .ok (.lconst 0, 1) := by decide +kernel
theorem dX5_begin_17 : decode cX5_begin 17 = .ok (.putfield 48, 3) := by decide +kernel
theorem dX5_begin_20 : decode cX5_begin 20 = .ok (.iconst 0, 1) := by decide +kernel
theorem dX5_begin_21 : decode cX5_begin 21 = .ok (.istore_n 2, 1) := by decide +kernel
theorem dX5_begin_22 : decode cX5_begin 22 = .ok (.iload_n 2, 1) := by decide +kernel
theorem dX5_begin_23 : decode cX5_begin 23 = .ok (.bipush 8, 2) := by decide +kernel
theorem dX5_begin_25 : decode cX5_begin 25 = .ok (.if_icmp .ge 30, 3) := by decide +kernel
theorem dX5_begin_28 : decode cX5_begin 28 = .ok (.aload_n 0, 1) := by decide +kernel
theorem dX5_begin_29 : decode cX5_begin 29 = .ok (.getfield 23, 3) := by decide +kernel
theorem dX5_begin_32 : decode cX5_begin 32 = .ok (.iload_n 2, 1) := by decide +kernel
theorem dX5_begin_33 : decode cX5_begin 33 = .ok (.iconst 1, 1) := by decide +kernel
theorem dX5_begin_34 : decode cX5_begin 34 = .ok (.iastore, 1) := by decide +kernel
theorem dX5_begin_35 : decode cX5_begin 35 = .ok (.aload_n 0, 1) := by decide +kernel
theorem dX5_begin_36 : decode cX5_begin 36 = .ok (.getfield 27, 3) := by decide +kernel
theorem dX5_begin_39 : decode cX5_begin 39 = .ok (.iload_n 2, 1) := by decide +kernel
theorem dX5_begin_40 : decode cX5_begin 40 = .ok (.iconst 0, 1) := by decide +kernel
theorem dX5_begin_41 : decode cX5_begin 41 = .ok (.iastore, 1) := by decide +kernel
theorem dX5_begin_42 : decode cX5_begin 42 = .ok (.aload_n 0, 1) := by decide +kernel
theorem dX5_begin_43 : decode cX5_begin 43 = .ok (.getfield 30, 3) := by decide +kernel
theorem dX5_begin_46 : decode cX5_begin 46 = .ok (.iload_n 2, 1) := by decide +kernel
theorem dX5_begin_47 : decode cX5_begin 47 = .ok (.fconst 1, 1) := by decide +kernel
theorem dX5_begin_48 : decode cX5_begin 48 = .ok (.fastore, 1) := by decide +kernel
theorem dX5_begin_49 : decode cX5_begin 49 = .ok (.iinc 2 1, 3) := by decide +kernel
theorem dX5_begin_52 : decode cX5_begin 52 = .ok (.goto (-30), 3) := by decide +kernel
theorem dX5_begin_55 : decode cX5_begin 55 = .ok (.return_, 1) := by decide +kernel
theorem dX5_copyFrom_0 : decode cX5_copyFrom 0 = .ok (.aload_n 0, 1) := by decide +kernel
theorem dX5_copyFrom_1 : decode cX5_copyFrom 1 = .ok (.aload_n 1, 1) := by decide +kernel
theorem dX5_copyFrom_2 : decode cX5_copyFrom 2 = .ok (.getfield 38, 3) := by decide +kernel
theorem dX5_copyFrom_5 : decode cX5_copyFrom 5 = .ok (.putfield 38, 3) := by decide +kernel
theorem dX5_copyFrom_8 : decode cX5_copyFrom 8 = .ok (.aload_n 0, 1) := by decide +kernel
theorem dX5_copyFrom_9 : decode cX5_copyFrom 9 = .ok (.aload_n 1, 1) := by decide +kernel
theorem dX5_copyFrom_10 : decode cX5_copyFrom 10 = .ok (.getfield 42, 3) := by decide +kernel
theorem dX5_copyFrom_13 : decode cX5_copyFrom 13 = .ok (.putfield 42, 3) := by decide +kernel
theorem dX5_copyFrom_16 : decode cX5_copyFrom 16 = .ok (.aload_n 0, 1) := by decide +kernel
theorem dX5_copyFrom_17 : decode cX5_copyFrom 17 = .ok (.aload_n 1, 1) := by decide +kernel
theorem dX5_copyFrom_18 : decode cX5_copyFrom 18 = .ok (.getfield 45, 3) := by decide +kernel
theorem dX5_copyFrom_21 : decode cX5_copyFrom 21 = .ok (.putfield 45, 3) := by decide +kernel
theorem dX5_copyFrom_24 : decode cX5_copyFrom 24 = .ok (.aload_n 0, 1) := by decide +kernel
theorem dX5_copyFrom_25 : decode cX5_copyFrom 25 = .ok (.aload_n 1, 1) := by decide +kernel
theorem dX5_copyFrom_26 : decode cX5_copyFrom 26 = .ok (.getfield 48, 3) := by decide +kernel
theorem dX5_copyFrom_29 : decode cX5_copyFrom 29 = .ok (.putfield 48, 3) := by decide +kernel
theorem dX5_copyFrom_32 : decode cX5_copyFrom 32 = .ok (.aload_n 1, 1) := by decide +kernel
theorem dX5_copyFrom_33 : decode cX5_copyFrom 33 = .ok (.getfield 9, 3) := by decide +kernel
theorem dX5_copyFrom_36 : decode cX5_copyFrom 36 = .ok (.iconst 0, 1) := by decide +kernel
theorem dX5_copyFrom_37 : decode cX5_copyFrom 37 = .ok (.aload_n 0, 1) := by decide +kernel
theorem dX5_copyFrom_38 : decode cX5_copyFrom 38 = .ok (.getfield 9, 3) := by decide +kernel
theorem dX5_copyFrom_41 : decode cX5_copyFrom 41 = .ok (.iconst 0, 1) := by decide +kernel
theorem dX5_copyFrom_42 : decode cX5_copyFrom 42 = .ok (.bipush 8, 2) := by decide +kernel
theorem dX5_copyFrom_44 : decode cX5_copyFrom 44 = .ok (.invokestatic 52, 3) := by decide +kernel
theorem dX5_copyFrom_47 : decode cX5_copyFrom 47 = .ok (.aload_n 1, 1) := by decide +kernel
theorem dX5_copyFrom_48 : decode cX5_copyFrom 48 = .ok (.getfield 15, 3) := by decide +kernel
theorem dX5_copyFrom_51 : decode cX5_copyFrom 51 = .ok (.iconst 0, 1) := by decide +kernel
theorem dX5_copyFrom_52 : decode cX5_copyFrom 52 = .ok (.aload_n 0, 1) := by decide +kernel
theorem dX5_copyFrom_53 : decode cX5_copyFrom 53 = .ok (.getfield 15, 3) := by decide +kernel
theorem dX5_copyFrom_56 : decode cX5_copyFrom 56 = .ok (.iconst 0, 1) := by decide +kernel
theorem dX5_copyFrom_57 : decode cX5_copyFrom 57 = .ok (.bipush 8, 2) := by decide +kernel
theorem dX5_copyFrom_59 : decode cX5_copyFrom 59 = .ok (.invokestatic 52, 3) := by decide +kernel
theorem dX5_copyFrom_62 : decode cX5_copyFrom 62 = .ok (.iconst 0, 1) := by decide +kernel
theorem dX5_copyFrom_63 : decode cX5_copyFrom 63 = .ok (.istore_n 2, 1) := by decide +kernel
theorem dX5_copyFrom_64 : decode cX5_copyFrom 64 = .ok (.iload_n 2, 1) := by decide +kernel
theorem dX5_copyFrom_65 : decode cX5_copyFrom 65 = .ok (.bipush 8, 2) := by decide +kernel
theorem dX5_copyFrom_67 : decode cX5_copyFrom 67 = .ok (.if_icmp .ge 28, 3) := by decide +kernel
theorem dX5_copyFrom_70 : decode cX5_copyFrom 70 = .ok (.aload_n 1, 1) := by decide +kernel
theorem dX5_copyFrom_71 : decode cX5_copyFrom 71 = .ok (.getfield 20, 3) := by decide +kernel
theorem dX5_copyFrom_74 : decode cX5_copyFrom 74 = .ok (.iload_n 2, 1) := by decide +kernel
theorem dX5_copyFrom_75 : decode cX5_copyFrom 75 = .ok (.aaload, 1) := by decide +kernel
theorem dX5_copyFrom_76 : decode cX5_copyFrom 76 = .ok (.iconst 0, 1) := by decide +kernel
theorem dX5_copyFrom_77 : decode cX5_copyFrom 77 = .ok (.aload_n 0, 1) := by decide +kernel
theorem dX5_copyFrom_78 : decode cX5_copyFrom 78 = .ok (.getfield 20, 3) := by decide +kernel
theorem dX5_copyFrom_81 : decode cX5_copyFrom 81 = .ok (.iload_n 2, 1) := by decide +kernel
theorem dX5_copyFrom_82 : decode cX5_copyFrom 82 = .ok (.aaload, 1) := by decide +kernel
theorem dX5_copyFrom_83 : decode cX5_copyFrom 83 = .ok (.iconst 0, 1) := by decide +kernel
theorem dX5_copyFrom_84 : decode cX5_copyFrom 84 = .ok (.bipush 8, 2) := by decide +kernel
theorem dX5_copyFrom_86 : decode cX5_copyFrom 86 = .ok (.invokestatic 52, 3) := by decide +kernel
theorem dX5_copyFrom_89 : decode cX5_copyFrom 89 = .ok (.iinc 2 1, 3) := by decide +kernel
theorem dX5_copyFrom_92 : decode cX5_copyFrom 92 = .ok (.goto (-28), 3) := by decide +kernel
theorem dX5_copyFrom_95 : decode cX5_copyFrom 95 = .ok (.aload_n 1, 1) := by decide +kernel
theorem dX5_copyFrom_96 : decode cX5_copyFrom 96 = .ok (.getfield 23, 3) := by decide +kernel
theorem dX5_copyFrom_99 : decode cX5_copyFrom 99 = .ok (.iconst 0, 1) := by decide +kernel
theorem dX5_copyFrom_100 : decode cX5_copyFrom 100 = .ok (.aload_n 0, 1) := by decide +kernel
theorem dX5_copyFrom_101 : decode cX5_copyFrom 101 = .ok (.getfield 23, 3) := by decide +kernel
theorem dX5_copyFrom_104 : decode cX5_copyFrom 104 = .ok (.iconst 0, 1) := by decide +kernel
theorem dX5_copyFrom_105 : decode cX5_copyFrom 105 = .ok (.bipush 8, 2) := by decide +kernel
theorem dX5_copyFrom_107 : decode cX5_copyFrom 107 = .ok (.invokestatic 52, 3) := by decide +kernel
theorem dX5_copyFrom_110 : decode cX5_copyFrom 110 = .ok (.aload_n 1, 1) := by decide +kernel
theorem dX5_copyFrom_111 : decode cX5_copyFrom 111 = .ok (.getfield 27, 3) := by decide +kernel
theorem dX5_copyFrom_114 : decode cX5_copyFrom 114 = .ok (.iconst 0, 1) := by decide +kernel
theorem dX5_copyFrom_115 : decode cX5_copyFrom 115 = .ok (.aload_n 0, 1) := by decide +kernel
theorem dX5_copyFrom_116 : decode cX5_copyFrom 116 = .ok (.getfield 27, 3) := by decide +kernel
theorem dX5_copyFrom_119 : decode cX5_copyFrom 119 = .ok (.iconst 0, 1) := by decide +kernel
theorem dX5_copyFrom_120 : decode cX5_copyFrom 120 = .ok (.bipush 8, 2) := by decide +kernel
theorem dX5_copyFrom_122 : decode cX5_copyFrom 122 = .ok (.invokestatic 52, 3) := by decide +kernel
theorem dX5_copyFrom_125 : decode cX5_copyFrom 125 = .ok (.aload_n 1, 1) := by decide +kernel
theorem dX5_copyFrom_126 : decode cX5_copyFrom 126 = .ok (.getfield 30, 3) := by decide +kernel
theorem dX5_copyFrom_129 : decode cX5_copyFrom 129 = .ok (.iconst 0, 1) := by decide +kernel
theorem dX5_copyFrom_130 : decode cX5_copyFrom 130 = .ok (.aload_n 0, 1) := by decide +kernel
theorem dX5_copyFrom_131 : decode cX5_copyFrom 131 = .ok (.getfield 30, 3) := by decide +kernel
theorem dX5_copyFrom_134 : decode cX5_copyFrom 134 = .ok (.iconst 0, 1) := by decide +kernel
theorem dX5_copyFrom_135 : decode cX5_copyFrom 135 = .ok (.bipush 8, 2) := by decide +kernel
theorem dX5_copyFrom_137 : decode cX5_copyFrom 137 = .ok (.invokestatic 52, 3) := by decide +kernel
theorem dX5_copyFrom_140 : decode cX5_copyFrom 140 = .ok (.return_, 1) := by decide +kernel
theorem dX5_hasLetter_0 : decode cX5_hasLetter 0 = .ok (.iload_n 1, 1) := by decide +kernel
theorem dX5_hasLetter_1 : decode cX5_hasLetter 1 = .ok (.ifCond .lt 15, 3) := by decide +kernel
theorem dX5_hasLetter_4 : decode cX5_hasLetter 4 = .ok (.iload_n 1, 1) := by decide +kernel
theorem dX5_hasLetter_5 : decode cX5_hasLetter 5 = .ok (.aload_n 0, 1) := by decide +kernel
theorem dX5_hasLetter_6 : decode cX5_hasLetter 6 = .ok (.getfield 38, 3) := by decide +kernel
theorem dX5_hasLetter_9 : decode cX5_hasLetter 9 = .ok (.if_icmp .ge 7, 3) := by decide +kernel
theorem dX5_hasLetter_12 : decode cX5_hasLetter 12 = .ok (.iconst 1, 1) := by decide +kernel
theorem dX5_hasLetter_13 : decode cX5_hasLetter 13 = .ok (.goto 4, 3) := by decide +kernel
theorem dX5_hasLetter_16 : decode cX5_hasLetter 16 = .ok (.iconst 0, 1) := by decide +kernel
theorem dX5_hasLetter_17 : decode cX5_hasLetter 17 = .ok (.ireturn, 1) := by decide +kernel
theorem dX5_hasRule_0 : decode cX5_hasRule 0 = .ok (.iload_n 1, 1) := by decide +kernel
theorem dX5_hasRule_1 : decode cX5_hasRule 1 = .ok (.ifCond .lt 15, 3) := by decide +kernel
theorem dX5_hasRule_4 : decode cX5_hasRule 4 = .ok (.iload_n 1, 1) := by decide +kernel
theorem dX5_hasRule_5 : decode cX5_hasRule 5 = .ok (.aload_n 0, 1) := by decide +kernel
theorem dX5_hasRule_6 : decode cX5_hasRule 6 = .ok (.getfield 42, 3) := by decide +kernel
theorem dX5_hasRule_9 : decode cX5_hasRule 9 = .ok (.if_icmp .ge 7, 3) := by decide +kernel
theorem dX5_hasRule_12 : decode cX5_hasRule 12 = .ok (.iconst 1, 1) := by decide +kernel
theorem dX5_hasRule_13 : decode cX5_hasRule 13 = .ok (.goto 4, 3) := by decide +kernel
theorem dX5_hasRule_16 : decode cX5_hasRule 16 = .ok (.iconst 0, 1) := by decide +kernel
theorem dX5_hasRule_17 : decode cX5_hasRule 17 = .ok (.ireturn, 1) := by decide +kernel
theorem dX5_putRule_0 : decode cX5_putRule 0 = .ok (.aload_n 0, 1) := by decide +kernel
theorem dX5_putRule_1 : decode cX5_putRule 1 = .ok (.getfield 42, 3) := by decide +kernel
theorem dX5_putRule_4 : decode cX5_putRule 4 = .ok (.bipush 8, 2) := by decide +kernel
theorem dX5_putRule_6 : decode cX5_putRule 6 = .ok (.if_icmp .lt 6, 3) := by decide +kernel
theorem dX5_putRule_9 : decode cX5_putRule 9 = .ok (.bipush (-4), 2) := by decide +kernel
theorem dX5_putRule_11 : decode cX5_putRule 11 = .ok (.ireturn, 1) := by decide +kernel
theorem dX5_putRule_12 : decode cX5_putRule 12 = .ok (.aload_n 0, 1) := by decide +kernel
theorem dX5_putRule_13 : decode cX5_putRule 13 = .ok (.getfield 9, 3) := by decide +kernel
theorem dX5_putRule_16 : decode cX5_putRule 16 = .ok (.aload_n 0, 1) := by decide +kernel
theorem dX5_putRule_17 : decode cX5_putRule 17 = .ok (.getfield 42, 3) := by decide +kernel
theorem dX5_putRule_20 : decode cX5_putRule 20 = .ok (.lload_n 1, 1) := by decide +kernel
theorem dX5_putRule_21 : decode cX5_putRule 21 = .ok (.lastore, 1) := by decide +kernel
theorem dX5_putRule_22 : decode cX5_putRule 22 = .ok (.aload_n 0, 1) := by decide +kernel
theorem dX5_putRule_23 : decode cX5_putRule 23 = .ok (.getfield 15, 3) := by decide +kernel
theorem dX5_putRule_26 : decode cX5_putRule 26 = .ok (.aload_n 0, 1) := by decide +kernel
theorem dX5_putRule_27 : decode cX5_putRule 27 = .ok (.getfield 42, 3) := by decide +kernel
theorem dX5_putRule_30 : decode cX5_putRule 30 = .ok (.lload_n 3, 1) := by decide +kernel
theorem dX5_putRule_31 : decode cX5_putRule 31 = .ok (.lastore, 1) := by decide +kernel
theorem dX5_putRule_32 : decode cX5_putRule 32 = .ok (.aload_n 0, 1) := by decide +kernel
theorem dX5_putRule_33 : decode cX5_putRule 33 = .ok (.getfield 20, 3) := by decide +kernel
theorem dX5_putRule_36 : decode cX5_putRule 36 = .ok (.aload_n 0, 1) := by decide +kernel
theorem dX5_putRule_37 : decode cX5_putRule 37 = .ok (.getfield 42, 3) := by decide +kernel
theorem dX5_putRule_40 : decode cX5_putRule 40 = .ok (.aaload, 1) := by decide +kernel
theorem dX5_putRule_41 : decode cX5_putRule 41 = .ok (.astore 5, 2) := by decide +kernel
theorem dX5_putRule_43 : decode cX5_putRule 43 = .ok (.aload 5, 2) := by decide +kernel
theorem dX5_putRule_45 : decode cX5_putRule 45 = .ok (.iconst 0, 1) := by decide +kernel
theorem dX5_putRule_46 : decode cX5_putRule 46 = .ok (.invokestatic 58, 3) := by decide +kernel
theorem dX5_putRule_49 : decode cX5_putRule 49 = .ok (.iconst 0, 1) := by decide +kernel
theorem dX5_putRule_50 : decode cX5_putRule 50 = .ok (.istore 6, 2) := by decide +kernel
theorem dX5_putRule_52 : decode cX5_putRule 52 = .ok (.iload 6, 2) := by decide +kernel
theorem dX5_putRule_54 : decode cX5_putRule 54 = .ok (.lload_n 1, 1) := by decide +kernel
theorem dX5_putRule_55 : decode cX5_putRule 55 = .ok (.invokestatic 64, 3) := by decide +kernel
theorem dX5_putRule_58 : decode cX5_putRule 58 = .ok (.if_icmp .ge 22, 3) := by decide +kernel
theorem dX5_putRule_61 : decode cX5_putRule 61 = .ok (.aload 5, 2) := by decide +kernel
theorem dX5_putRule_63 : decode cX5_putRule 63 = .ok (.lload_n 1, 1) := by decide +kernel
theorem dX5_putRule_64 : decode cX5_putRule 64 = .ok (.iload 6, 2) := by decide +kernel
theorem dX5_putRule_66 : decode cX5_putRule 66 = .ok (.invokestatic 70, 3) := by decide +kernel
theorem dX5_putRule_69 : decode cX5_putRule 69 = .ok (.dup2, 1) := by decide +kernel
theorem dX5_putRule_70 : decode cX5_putRule 70 = .ok (.iaload, 1) := by decide +kernel
theorem dX5_putRule_71 : decode cX5_putRule 71 = .ok (.iconst 1, 1) := by decide +kernel
theorem dX5_putRule_72 : decode cX5_putRule 72 = .ok (.iadd, 1) := by decide +kernel
theorem dX5_putRule_73 : decode cX5_putRule 73 = .ok (.iastore, 1) := by decide +kernel
theorem dX5_putRule_74 : decode cX5_putRule 74 = .ok (.iinc 6 1, 3) := by decide +kernel
theorem dX5_putRule_77 : decode cX5_putRule 77 = .ok (.goto (-25), 3) := by decide +kernel
theorem dX5_putRule_80 : decode cX5_putRule 80 = .ok (.iconst 0, 1) := by decide +kernel
theorem dX5_putRule_81 : decode cX5_putRule 81 = .ok (.istore 6, 2) := by decide +kernel
theorem dX5_putRule_83 : decode cX5_putRule 83 = .ok (.iload 6, 2) := by decide +kernel
theorem dX5_putRule_85 : decode cX5_putRule 85 = .ok (.lload_n 3, 1) := by decide +kernel
theorem dX5_putRule_86 : decode cX5_putRule 86 = .ok (.invokestatic 64, 3) := by decide +kernel
theorem dX5_putRule_89 : decode cX5_putRule 89 = .ok (.if_icmp .ge 22, 3) := by decide +kernel
theorem dX5_putRule_92 : decode cX5_putRule 92 = .ok (.aload 5, 2) := by decide +kernel
theorem dX5_putRule_94 : decode cX5_putRule 94 = .ok (.lload_n 3, 1) := by decide +kernel
theorem dX5_putRule_95 : decode cX5_putRule 95 = .ok (.iload 6, 2) := by decide +kernel
theorem dX5_putRule_97 : decode cX5_putRule 97 = .ok (.invokestatic 70, 3) := by decide +kernel
theorem dX5_putRule_100 : decode cX5_putRule 100 = .ok (.dup2, 1) := by decide +kernel
theorem dX5_putRule_101 : decode cX5_putRule 101 = .ok (.iaload, 1) := by decide +kernel
theorem dX5_putRule_102 : decode cX5_putRule 102 = .ok (.iconst 1, 1) := by decide +kernel
theorem dX5_putRule_103 : decode cX5_putRule 103 = .ok (.isub, 1) := by decide +kernel
theorem dX5_putRule_104 : decode cX5_putRule 104 = .ok (.iastore, 1) := by decide +kernel
theorem dX5_putRule_105 : decode cX5_putRule 105 = .ok (.iinc 6 1, 3) := by decide +kernel
theorem dX5_putRule_108 : decode cX5_putRule 108 = .ok (.goto (-25), 3) := by decide +kernel
theorem dX5_putRule_111 : decode cX5_putRule 111 = .ok (.aload_n 0, 1) := by decide +kernel
theorem dX5_putRule_112 : decode cX5_putRule 112 = .ok (.dup, 1) := by decide +kernel
theorem dX5_putRule_113 : decode cX5_putRule 113 = .ok (.getfield 42, 3) := by decide +kernel
theorem dX5_putRule_116 : decode cX5_putRule 116 = .ok (.iconst 1, 1) := by decide +kernel
theorem dX5_putRule_117 : decode cX5_putRule 117 = .ok (.iadd, 1) := by decide +kernel
theorem dX5_putRule_118 : decode cX5_putRule 118 = .ok (.putfield 42, 3) := by decide +kernel
theorem dX5_putRule_121 : decode cX5_putRule 121 = .ok (.aload_n 0, 1) := by decide +kernel
theorem dX5_putRule_122 : decode cX5_putRule 122 = .ok (.getfield 42, 3) := by decide +kernel
theorem dX5_putRule_125 : decode cX5_putRule 125 = .ok (.iconst 1, 1) := by decide +kernel
theorem dX5_putRule_126 : decode cX5_putRule 126 = .ok (.isub, 1) := by decide +kernel
theorem dX5_putRule_127 : decode cX5_putRule 127 = .ok (.ireturn, 1) := by decide +kernel
theorem dX5_dropRule_0 : decode cX5_dropRule 0 = .ok (.iload_n 1, 1) := by decide +kernel
theorem dX5_dropRule_1 : decode cX5_dropRule 1 = .ok (.iconst 1, 1) := by decide +kernel
theorem dX5_dropRule_2 : decode cX5_dropRule 2 = .ok (.iadd, 1) := by decide +kernel
theorem dX5_dropRule_3 : decode cX5_dropRule 3 = .ok (.istore_n 2, 1) := by decide +kernel
theorem dX5_dropRule_4 : decode cX5_dropRule 4 = .ok (.iload_n 2, 1) := by decide +kernel
theorem dX5_dropRule_5 : decode cX5_dropRule 5 = .ok (.aload_n 0, 1) := by decide +kernel
theorem dX5_dropRule_6 : decode cX5_dropRule 6 = .ok (.getfield 42, 3) := by decide +kernel
theorem dX5_dropRule_9 : decode cX5_dropRule 9 = .ok (.if_icmp .ge 58, 3) := by decide +kernel
theorem dX5_dropRule_12 : decode cX5_dropRule 12 = .ok (.aload_n 0, 1) := by decide +kernel
theorem dX5_dropRule_13 : decode cX5_dropRule 13 = .ok (.getfield 9, 3) := by decide +kernel
theorem dX5_dropRule_16 : decode cX5_dropRule 16 = .ok (.iload_n 2, 1) := by decide +kernel
theorem dX5_dropRule_17 : decode cX5_dropRule 17 = .ok (.iconst 1, 1) := by decide +kernel
theorem dX5_dropRule_18 : decode cX5_dropRule 18 = .ok (.isub, 1) := by decide +kernel
theorem dX5_dropRule_19 : decode cX5_dropRule 19 = .ok (.aload_n 0, 1) := by decide +kernel
theorem dX5_dropRule_20 : decode cX5_dropRule 20 = .ok (.getfield 9, 3) := by decide +kernel
theorem dX5_dropRule_23 : decode cX5_dropRule 23 = .ok (.iload_n 2, 1) := by decide +kernel
theorem dX5_dropRule_24 : decode cX5_dropRule 24 = .ok (.laload, 1) := by decide +kernel
theorem dX5_dropRule_25 : decode cX5_dropRule 25 = .ok (.lastore, 1) := by decide +kernel
theorem dX5_dropRule_26 : decode cX5_dropRule 26 = .ok (.aload_n 0, 1) := by decide +kernel
theorem dX5_dropRule_27 : decode cX5_dropRule 27 = .ok (.getfield 15, 3) := by decide +kernel
theorem dX5_dropRule_30 : decode cX5_dropRule 30 = .ok (.iload_n 2, 1) := by decide +kernel
theorem dX5_dropRule_31 : decode cX5_dropRule 31 = .ok (.iconst 1, 1) := by decide +kernel
theorem dX5_dropRule_32 : decode cX5_dropRule 32 = .ok (.isub, 1) := by decide +kernel
theorem dX5_dropRule_33 : decode cX5_dropRule 33 = .ok (.aload_n 0, 1) := by decide +kernel
theorem dX5_dropRule_34 : decode cX5_dropRule 34 = .ok (.getfield 15, 3) := by decide +kernel
theorem dX5_dropRule_37 : decode cX5_dropRule 37 = .ok (.iload_n 2, 1) := by decide +kernel
theorem dX5_dropRule_38 : decode cX5_dropRule 38 = .ok (.laload, 1) := by decide +kernel
theorem dX5_dropRule_39 : decode cX5_dropRule 39 = .ok (.lastore, 1) := by decide +kernel
theorem dX5_dropRule_40 : decode cX5_dropRule 40 = .ok (.aload_n 0, 1) := by decide +kernel
theorem dX5_dropRule_41 : decode cX5_dropRule 41 = .ok (.getfield 20, 3) := by decide +kernel
theorem dX5_dropRule_44 : decode cX5_dropRule 44 = .ok (.iload_n 2, 1) := by decide +kernel
theorem dX5_dropRule_45 : decode cX5_dropRule 45 = .ok (.aaload, 1) := by decide +kernel
theorem dX5_dropRule_46 : decode cX5_dropRule 46 = .ok (.iconst 0, 1) := by decide +kernel
theorem dX5_dropRule_47 : decode cX5_dropRule 47 = .ok (.aload_n 0, 1) := by decide +kernel
theorem dX5_dropRule_48 : decode cX5_dropRule 48 = .ok (.getfield 20, 3) := by decide +kernel
theorem dX5_dropRule_51 : decode cX5_dropRule 51 = .ok (.iload_n 2, 1) := by decide +kernel
theorem dX5_dropRule_52 : decode cX5_dropRule 52 = .ok (.iconst 1, 1) := by decide +kernel
theorem dX5_dropRule_53 : decode cX5_dropRule 53 = .ok (.isub, 1) := by decide +kernel
theorem dX5_dropRule_54 : decode cX5_dropRule 54 = .ok (.aaload, 1) := by decide +kernel
theorem dX5_dropRule_55 : decode cX5_dropRule 55 = .ok (.iconst 0, 1) := by decide +kernel
theorem dX5_dropRule_56 : decode cX5_dropRule 56 = .ok (.bipush 8, 2) := by decide +kernel
theorem dX5_dropRule_58 : decode cX5_dropRule 58 = .ok (.invokestatic 52, 3) := by decide +kernel
theorem dX5_dropRule_61 : decode cX5_dropRule 61 = .ok (.iinc 2 1, 3) := by decide +kernel
theorem dX5_dropRule_64 : decode cX5_dropRule 64 = .ok (.goto (-60), 3) := by decide +kernel
theorem dX5_dropRule_67 : decode cX5_dropRule 67 = .ok (.aload_n 0, 1) := by decide +kernel
theorem dX5_dropRule_68 : decode cX5_dropRule 68 = .ok (.dup, 1) := by decide +kernel
theorem dX5_dropRule_69 : decode cX5_dropRule 69 = .ok (.getfield 42, 3) := by decide +kernel
theorem dX5_dropRule_72 : decode cX5_dropRule 72 = .ok (.iconst 1, 1) := by decide +kernel
theorem dX5_dropRule_73 : decode cX5_dropRule 73 = .ok (.isub, 1) := by decide +kernel
theorem dX5_dropRule_74 : decode cX5_dropRule 74 = .ok (.putfield 42, 3) := by decide +kernel
theorem dX5_dropRule_77 : decode cX5_dropRule 77 = .ok (.return_, 1) := by decide +kernel
theorem dX5_weightOf_0 : decode cX5_weightOf 0 = .ok (.iconst 0, 1) := by decide +kernel
theorem dX5_weightOf_1 : decode cX5_weightOf 1 = .ok (.istore_n 3, 1) := by decide +kernel
theorem dX5_weightOf_2 : decode cX5_weightOf 2 = .ok (.iconst 0, 1) := by decide +kernel
theorem dX5_weightOf_3 : decode cX5_weightOf 3 = .ok (.istore 4, 2) := by decide +kernel
theorem dX5_weightOf_5 : decode cX5_weightOf 5 = .ok (.iload 4, 2) := by decide +kernel
theorem dX5_weightOf_7 : decode cX5_weightOf 7 = .ok (.lload_n 1, 1) := by decide +kernel
theorem dX5_weightOf_8 : decode cX5_weightOf 8 = .ok (.invokestatic 64, 3) := by decide +kernel
theorem dX5_weightOf_11 : decode cX5_weightOf 11 = .ok (.if_icmp .ge 23, 3) := by decide +kernel
theorem dX5_weightOf_14 : decode cX5_weightOf 14 = .ok (.iload_n 3, 1) := by decide +kernel
theorem dX5_weightOf_15 : decode cX5_weightOf 15 = .ok (.aload_n 0, 1) := by decide +kernel
theorem dX5_weightOf_16 : decode cX5_weightOf 16 = .ok (.getfield 23, 3) := by decide +kernel
theorem dX5_weightOf_19 : decode cX5_weightOf 19 = .ok (.lload_n 1, 1) := by decide +kernel
theorem dX5_weightOf_20 : decode cX5_weightOf 20 = .ok (.iload 4, 2) := by decide +kernel
theorem dX5_weightOf_22 : decode cX5_weightOf 22 = .ok (.invokestatic 70, 3) := by decide +kernel
theorem dX5_weightOf_25 : decode cX5_weightOf 25 = .ok (.iaload, 1) := by decide +kernel
theorem dX5_weightOf_26 : decode cX5_weightOf 26 = .ok (.iadd, 1) := by decide +kernel
theorem dX5_weightOf_27 : decode cX5_weightOf 27 = .ok (.istore_n 3, 1) := by decide +kernel
theorem dX5_weightOf_28 : decode cX5_weightOf 28 = .ok (.iinc 4 1, 3) := by decide +kernel
theorem dX5_weightOf_31 : decode cX5_weightOf 31 = .ok (.goto (-26), 3) := by decide +kernel
theorem dX5_weightOf_34 : decode cX5_weightOf 34 = .ok (.iload_n 3, 1) := by decide +kernel
theorem dX5_weightOf_35 : decode cX5_weightOf 35 = .ok (.ireturn, 1) := by decide +kernel
theorem dX5_compareWords_0 : decode cX5_compareWords 0 = .ok (.aload_n 0, 1) := by decide +kernel
theorem dX5_compareWords_1 : decode cX5_compareWords 1 = .ok (.lload_n 1, 1) := by decide +kernel
theorem dX5_compareWords_2 : decode cX5_compareWords 2 = .ok (.invokevirtual 74, 3) := by decide +kernel
theorem dX5_compareWords_5 : decode cX5_compareWords 5 = .ok (.aload_n 0, 1) := by decide +kernel
theorem dX5_compareWords_6 : decode cX5_compareWords 6 = .ok (.lload_n 3, 1) := by decide +kernel
theorem dX5_compareWords_7 : decode cX5_compareWords 7 = .ok (.invokevirtual 74, 3) := by decide +kernel
theorem dX5_compareWords_10 : decode cX5_compareWords 10 = .ok (.isub, 1) := by decide +kernel
theorem dX5_compareWords_11 : decode cX5_compareWords 11 = .ok (.istore 5, 2) := by decide +kernel
theorem dX5_compareWords_13 : decode cX5_compareWords 13 = .ok (.lload_n 1, 1) := by decide +kernel
theorem dX5_compareWords_14 : decode cX5_compareWords 14 = .ok (.invokestatic 64, 3) := by decide +kernel
theorem dX5_compareWords_17 : decode cX5_compareWords 17 = .ok (.lload_n 3, 1) := by decide +kernel
theorem dX5_compareWords_18 : decode cX5_compareWords 18 = .ok (.invokestatic 64, 3) := by decide +kernel
theorem dX5_compareWords_21 : decode cX5_compareWords 21 = .ok (.invokestatic 77, 3) := by decide +kernel
theorem dX5_compareWords_24 : decode cX5_compareWords 24 = .ok (.istore 6, 2) := by decide +kernel
theorem dX5_compareWords_26 : decode cX5_compareWords 26 = .ok (.iconst 0, 1) := by decide +kernel
theorem dX5_compareWords_27 : decode cX5_compareWords 27 = .ok (.istore 7, 2) := by decide +kernel
theorem dX5_compareWords_29 : decode cX5_compareWords 29 = .ok (.iload 7, 2) := by decide +kernel
theorem dX5_compareWords_31 : decode cX5_compareWords 31 = .ok (.iload 6, 2) := by decide +kernel
theorem dX5_compareWords_33 : decode cX5_compareWords 33 = .ok (.if_icmp .ge 55, 3) := by decide +kernel
theorem dX5_compareWords_36 : decode cX5_compareWords 36 = .ok (.iload 5, 2) := by decide +kernel
theorem dX5_compareWords_38 : decode cX5_compareWords 38 = .ok (.ifCond .ne 50, 3) := by decide +kernel
theorem dX5_compareWords_41 : decode cX5_compareWords 41 = .ok (.lload_n 1, 1) := by decide +kernel
theorem dX5_compareWords_42 : decode cX5_compareWords 42 = .ok (.iload 7, 2) := by decide +kernel
theorem dX5_compareWords_44 : decode cX5_compareWords 44 = .ok (.aload_n 0, 1) := by decide +kernel
theorem dX5_compareWords_45 : decode cX5_compareWords 45 = .ok (.getfield 45, 3) := by decide +kernel
theorem dX5_compareWords_48 : decode cX5_compareWords 48 = .ok (.invokestatic 83, 3) := by decide +kernel
theorem dX5_compareWords_51 : decode cX5_compareWords 51 = .ok (.istore 8, 2) := by decide +kernel
theorem dX5_compareWords_53 : decode cX5_compareWords 53 = .ok (.lload_n 3, 1) := by decide +kernel
theorem dX5_compareWords_54 : decode cX5_compareWords 54 = .ok (.iload 7, 2) := by decide +kernel
theorem dX5_compareWords_56 : decode cX5_compareWords 56 = .ok (.aload_n 0, 1) := by decide +kernel
theorem dX5_compareWords_57 : decode cX5_compareWords 57 = .ok (.getfield 45, 3) := by decide +kernel
theorem dX5_compareWords_60 : decode cX5_compareWords 60 = .ok (.invokestatic 83, 3) := by decide +kernel
theorem dX5_compareWords_63 : decode cX5_compareWords 63 = .ok (.istore 9, 2) := by decide +kernel
theorem dX5_compareWords_65 : decode cX5_compareWords 65 = .ok (.aload_n 0, 1) := by decide +kernel
theorem dX5_compareWords_66 : decode cX5_compareWords 66 = .ok (.getfield 27, 3) := by decide +kernel
theorem dX5_compareWords_69 : decode cX5_compareWords 69 = .ok (.iload 8, 2) := by decide +kernel
theorem dX5_compareWords_71 : decode cX5_compareWords 71 = .ok (.iaload, 1) := by decide +kernel
theorem dX5_compareWords_72 : decode cX5_compareWords 72 = .ok (.aload_n 0, 1) := by decide +kernel
theorem dX5_compareWords_73 : decode cX5_compareWords 73 = .ok (.getfield 27, 3) := by decide +kernel
theorem dX5_compareWords_76 : decode cX5_compareWords 76 = .ok (.iload 9, 2) := by decide +kernel
theorem dX5_compareWords_78 : decode cX5_compareWords 78 = .ok (.iaload, 1) := by decide +kernel
theorem dX5_compareWords_79 : decode cX5_compareWords 79 = .ok (.isub, 1) := by decide +kernel
theorem dX5_compareWords_80 : decode cX5_compareWords 80 = .ok (.istore 5, 2) := by decide +kernel
theorem dX5_compareWords_82 : decode cX5_compareWords 82 = .ok (.iinc 7 1, 3) := by decide +kernel
theorem dX5_compareWords_85 : decode cX5_compareWords 85 = .ok (.goto (-56), 3) := by decide +kernel
theorem dX5_compareWords_88 : decode cX5_compareWords 88 = .ok (.iload 5, 2) := by decide +kernel
theorem dX5_compareWords_90 : decode cX5_compareWords 90 = .ok (.ifCond .ne 14, 3) := by decide +kernel
theorem dX5_compareWords_93 : decode cX5_compareWords 93 = .ok (.lload_n 1, 1) := by decide +kernel
theorem dX5_compareWords_94 : decode cX5_compareWords 94 = .ok (.invokestatic 64, 3) := by decide +kernel
theorem dX5_compareWords_97 : decode cX5_compareWords 97 = .ok (.lload_n 3, 1) := by decide +kernel
theorem dX5_compareWords_98 : decode cX5_compareWords 98 = .ok (.invokestatic 64, 3) := by decide +kernel
theorem dX5_compareWords_101 : decode cX5_compareWords 101 = .ok (.isub, 1) := by decide +kernel
theorem dX5_compareWords_102 : decode cX5_compareWords 102 = .ok (.istore 5, 2) := by decide +kernel
theorem dX5_compareWords_104 : decode cX5_compareWords 104 = .ok (.iload 5, 2) := by decide +kernel
theorem dX5_compareWords_106 : decode cX5_compareWords 106 = .ok (.ifCond .le 7, 3) := by decide +kernel
theorem dX5_compareWords_109 : decode cX5_compareWords 109 = .ok (.iconst 2, 1) := by decide +kernel
theorem dX5_compareWords_110 : decode cX5_compareWords 110 = .ok (.goto 13, 3) := by decide +kernel
theorem dX5_compareWords_113 : decode cX5_compareWords 113 = .ok (.iload 5, 2) := by decide +kernel
theorem dX5_compareWords_115 : decode cX5_compareWords 115 = .ok (.ifCond .ge 7, 3) := by decide +kernel
theorem dX5_compareWords_118 : decode cX5_compareWords 118 = .ok (.iconst 0, 1) := by decide +kernel
theorem dX5_compareWords_119 : decode cX5_compareWords 119 = .ok (.goto 4, 3) := by decide +kernel
theorem dX5_compareWords_122 : decode cX5_compareWords 122 = .ok (.iconst 1, 1) := by decide +kernel
theorem dX5_compareWords_123 : decode cX5_compareWords 123 = .ok (.ireturn, 1) := by decide +kernel
theorem dX5_admissible_0 : decode cX5_admissible 0 = .ok (.iconst 0, 1) := by decide +kernel
theorem dX5_admissible_1 : decode cX5_admissible 1 = .ok (.istore_n 1, 1) := by decide +kernel
theorem dX5_admissible_2 : decode cX5_admissible 2 = .ok (.iconst 1, 1) := by decide +kernel
theorem dX5_admissible_3 : decode cX5_admissible 3 = .ok (.istore_n 2, 1) := by decide +kernel
theorem dX5_admissible_4 : decode cX5_admissible 4 = .ok (.iconst 0, 1) := by decide +kernel
theorem dX5_admissible_5 : decode cX5_admissible 5 = .ok (.istore_n 3, 1) := by decide +kernel
theorem dX5_admissible_6 : decode cX5_admissible 6 = .ok (.iload_n 3, 1) := by decide +kernel
theorem dX5_admissible_7 : decode cX5_admissible 7 = .ok (.aload_n 0, 1) := by decide +kernel
theorem dX5_admissible_8 : decode cX5_admissible 8 = .ok (.getfield 38, 3) := by decide +kernel
theorem dX5_admissible_11 : decode cX5_admissible 11 = .ok (.if_icmp .ge 39, 3) := by decide +kernel
theorem dX5_admissible_14 : decode cX5_admissible 14 = .ok (.aload_n 0, 1) := by decide +kernel
theorem dX5_admissible_15 : decode cX5_admissible 15 = .ok (.getfield 23, 3) := by decide +kernel
theorem dX5_admissible_18 : decode cX5_admissible 18 = .ok (.iload_n 3, 1) := by decide +kernel
theorem dX5_admissible_19 : decode cX5_admissible 19 = .ok (.iaload, 1) := by decide +kernel
theorem dX5_admissible_20 : decode cX5_admissible 20 = .ok (.ifCond .ne 24, 3) := by decide +kernel
theorem dX5_admissible_23 : decode cX5_admissible 23 = .ok (.iinc 1 1, 3) := by decide +kernel
theorem dX5_admissible_26 : decode cX5_admissible 26 = .ok (.iload_n 2, 1) := by decide +kernel
theorem dX5_admissible_27 : decode cX5_admissible 27 = .ok (.ifCond .eq 15, 3) := by decide +kernel
theorem dX5_admissible_30 : decode cX5_admissible 30 = .ok (.aload_n 0, 1) := by decide +kernel
theorem dX5_admissible_31 : decode cX5_admissible 31 = .ok (.iload_n 3, 1) := by decide +kernel
theorem dX5_admissible_32 : decode cX5_admissible 32 = .ok (.invokevirtual 87, 3) := by decide +kernel
theorem dX5_admissible_35 : decode cX5_admissible 35 = .ok (.ifCond .eq 7, 3) := by decide +kernel
theorem dX5_admissible_38 : decode cX5_admissible 38 = .ok (.iconst 1, 1) := by decide +kernel
theorem dX5_admissible_39 : decode cX5_admissible 39 = .ok (.goto 4, 3) := by decide +kernel
theorem dX5_admissible_42 : decode cX5_admissible 42 = .ok (.iconst 0, 1) := by decide +kernel
theorem dX5_admissible_43 : decode cX5_admissible 43 = .ok (.istore_n 2, 1) := by decide +kernel
theorem dX5_admissible_44 : decode cX5_admissible 44 = .ok (.iinc 3 1, 3) := by decide +kernel
theorem dX5_admissible_47 : decode cX5_admissible 47 = .ok (.goto (-41), 3) := by decide +kernel
theorem dX5_admissible_50 : decode cX5_admissible 50 = .ok (.iload_n 1, 1) := by decide +kernel
theorem dX5_admissible_51 : decode cX5_admissible 51 = .ok (.ifCond .eq 12, 3) := by decide +kernel
theorem dX5_admissible_54 : decode cX5_admissible 54 = .ok (.iload_n 1, 1) := by decide +kernel
theorem dX5_admissible_55 : decode cX5_admissible 55 = .ok (.iconst 1, 1) := by decide +kernel
theorem dX5_admissible_56 : decode cX5_admissible 56 = .ok (.if_icmp .ne 11, 3) := by decide +kernel
theorem dX5_admissible_59 : decode cX5_admissible 59 = .ok (.iload_n 2, 1) := by decide +kernel
theorem dX5_admissible_60 : decode cX5_admissible 60 = .ok (.ifCond .eq 7, 3) := by decide +kernel
theorem dX5_admissible_63 : decode cX5_admissible 63 = .ok (.iconst 1, 1) := by decide +kernel
theorem dX5_admissible_64 : decode cX5_admissible 64 = .ok (.goto 4, 3) := by decide +kernel
theorem dX5_admissible_67 : decode cX5_admissible 67 = .ok (.iconst 0, 1) := by decide +kernel
theorem dX5_admissible_68 : decode cX5_admissible 68 = .ok (.ireturn, 1) := by decide +kernel
theorem dX5_isAboveOthers_0 : decode cX5_isAboveOthers 0 = .ok (.iconst 0, 1) := by decide +kernel
theorem dX5_isAboveOthers_1 : decode cX5_isAboveOthers 1 = .ok (.istore_n 2, 1) := by decide +kernel
theorem dX5_isAboveOthers_2 : decode cX5_isAboveOthers 2 = .ok (.iload_n 2, 1) := by decide +kernel
theorem dX5_isAboveOthers_3 : decode cX5_isAboveOthers 3 = .ok (.aload_n 0, 1) := by decide +kernel
theorem dX5_isAboveOthers_4 : decode cX5_isAboveOthers 4 = .ok (.getfield 38, 3) := by decide +kernel
theorem dX5_isAboveOthers_7 : decode cX5_isAboveOthers 7 = .ok (.if_icmp .ge 31, 3) := by decide +kernel
theorem dX5_isAboveOthers_10 : decode cX5_isAboveOthers 10 = .ok (.iload_n 2, 1) := by decide +kernel
theorem dX5_isAboveOthers_11 : decode cX5_isAboveOthers 11 = .ok (.iload_n 1, 1) := by decide +kernel
theorem dX5_isAboveOthers_12 : decode cX5_isAboveOthers 12 = .ok (.if_icmp .eq 20, 3) := by decide +kernel
theorem dX5_isAboveOthers_15 : decode cX5_isAboveOthers 15 = .ok (.aload_n 0, 1) := by decide +kernel
theorem dX5_isAboveOthers_16 : decode cX5_isAboveOthers 16 = .ok (.getfield 27, 3) := by decide +kernel
theorem dX5_isAboveOthers_19 : decode cX5_isAboveOthers 19 = .ok (.iload_n 2, 1) := by decide +kernel
theorem dX5_isAboveOthers_20 : decode cX5_isAboveOthers 20 = .ok (.iaload, 1) := by decide +kernel
theorem dX5_isAboveOthers_21 : decode cX5_isAboveOthers 21 = .ok (.aload_n 0, 1) := by decide +kernel
theorem dX5_isAboveOthers_22 : decode cX5_isAboveOthers 22 = .ok (.getfield 27, 3) := by decide +kernel
theorem dX5_isAboveOthers_25 : decode cX5_isAboveOthers 25 = .ok (.iload_n 1, 1) := by decide +kernel
theorem dX5_isAboveOthers_26 : decode cX5_isAboveOthers 26 = .ok (.iaload, 1) := by decide +kernel
theorem dX5_isAboveOthers_27 : decode cX5_isAboveOthers 27 = .ok (.if_icmp .lt 5, 3) := by decide +kernel
theorem dX5_isAboveOthers_30 : decode cX5_isAboveOthers 30 = .ok (.iconst 0, 1) := by decide +kernel
theorem dX5_isAboveOthers_31 : decode cX5_isAboveOthers 31 = .ok (.ireturn, 1) := by decide +kernel
theorem dX5_isAboveOthers_32 : decode cX5_isAboveOthers 32 = .ok (.iinc 2 1, 3) := by decide +kernel
theorem dX5_isAboveOthers_35 : decode cX5_isAboveOthers 35 = .ok (.goto (-33), 3) := by decide +kernel
theorem dX5_isAboveOthers_38 : decode cX5_isAboveOthers 38 = .ok (.iconst 1, 1) := by decide +kernel
theorem dX5_isAboveOthers_39 : decode cX5_isAboveOthers 39 = .ok (.ireturn, 1) := by decide +kernel
theorem dX5_stepped_0 : decode cX5_stepped 0 = .ok (.aload_n 0, 1) := by decide +kernel
theorem dX5_stepped_1 : decode cX5_stepped 1 = .ok (.getfield 9, 3) := by decide +kernel
theorem dX5_stepped_4 : decode cX5_stepped 4 = .ok (.iload_n 3, 1) := by decide +kernel
theorem dX5_stepped_5 : decode cX5_stepped 5 = .ok (.laload, 1) := by decide +kernel
theorem dX5_stepped_6 : decode cX5_stepped 6 = .ok (.lload_n 1, 1) := by decide +kernel
theorem dX5_stepped_7 : decode cX5_stepped 7 = .ok (.iload 4, 2) := by decide +kernel
theorem dX5_stepped_9 : decode cX5_stepped 9 = .ok (.invokestatic 91, 3) := by decide +kernel
theorem dX5_stepped_12 : decode cX5_stepped 12 = .ok (.ifCond .ne 7, 3) := by decide +kernel
theorem dX5_stepped_15 : decode cX5_stepped 15 = .ok (.ldc2_w 95, 3) := by decide +kernel
theorem dX5_stepped_18 : decode cX5_stepped 18 = .ok (.lreturn, 1) := by decide +kernel
theorem dX5_stepped_19 : decode cX5_stepped 19 = .ok (.lload_n 1, 1) := by decide +kernel
theorem dX5_stepped_20 : decode cX5_stepped 20 = .ok (.iload 4, 2) := by decide +kernel
theorem dX5_stepped_22 : decode cX5_stepped 22 = .ok (.aload_n 0, 1) := by decide +kernel
theorem dX5_stepped_23 : decode cX5_stepped 23 = .ok (.getfield 9, 3) := by decide +kernel
theorem dX5_stepped_26 : decode cX5_stepped 26 = .ok (.iload_n 3, 1) := by decide +kernel
theorem dX5_stepped_27 : decode cX5_stepped 27 = .ok (.laload, 1) := by decide +kernel
theorem dX5_stepped_28 : decode cX5_stepped 28 = .ok (.aload_n 0, 1) := by decide +kernel
theorem dX5_stepped_29 : decode cX5_stepped 29 = .ok (.getfield 15, 3) := by decide +kernel
theorem dX5_stepped_32 : decode cX5_stepped 32 = .ok (.iload_n 3, 1) := by decide +kernel
theorem dX5_stepped_33 : decode cX5_stepped 33 = .ok (.laload, 1) := by decide +kernel
theorem dX5_stepped_34 : decode cX5_stepped 34 = .ok (.invokestatic 97, 3) := by decide +kernel
theorem dX5_stepped_37 : decode cX5_stepped 37 = .ok (.lreturn, 1) := by decide +kernel
theorem dX5_firstStep_0 : decode cX5_firstStep 0 = .ok (.iconst 0, 1) := by decide +kernel
theorem dX5_firstStep_1 : decode cX5_firstStep 1 = .ok (.istore_n 3, 1) := by decide +kernel
theorem dX5_firstStep_2 : decode cX5_firstStep 2 = .ok (.iload_n 3, 1) := by decide +kernel
theorem dX5_firstStep_3 : decode cX5_firstStep 3 = .ok (.lload_n 1, 1) := by decide +kernel
theorem dX5_firstStep_4 : decode cX5_firstStep 4 = .ok (.invokestatic 64, 3) := by decide +kernel
theorem dX5_firstStep_7 : decode cX5_firstStep 7 = .ok (.if_icmp .ge 49, 3) := by decide +kernel
theorem dX5_firstStep_10 : decode cX5_firstStep 10 = .ok (.iconst 0, 1) := by decide +kernel
theorem dX5_firstStep_11 : decode cX5_firstStep 11 = .ok (.istore 4, 2) := by decide +kernel
theorem dX5_firstStep_13 : decode cX5_firstStep 13 = .ok (.iload 4, 2) := by decide +kernel
theorem dX5_firstStep_15 : decode cX5_firstStep 15 = .ok (.aload_n 0, 1) := by decide +kernel
theorem dX5_firstStep_16 : decode cX5_firstStep 16 = .ok (.getfield 42, 3) := by decide +kernel
theorem dX5_firstStep_19 : decode cX5_firstStep 19 = .ok (.if_icmp .ge 31, 3) := by decide +kernel
theorem dX5_firstStep_22 : decode cX5_firstStep 22 = .ok (.aload_n 0, 1) := by decide +kernel
theorem dX5_firstStep_23 : decode cX5_firstStep 23 = .ok (.lload_n 1, 1) := by decide +kernel
theorem dX5_firstStep_24 : decode cX5_firstStep 24 = .ok (.iload 4, 2) := by decide +kernel
theorem dX5_firstStep_26 : decode cX5_firstStep 26 = .ok (.iload_n 3, 1) := by decide +kernel
theorem dX5_firstStep_27 : decode cX5_firstStep 27 = .ok (.invokevirtual 101, 3) := by decide +kernel
theorem dX5_firstStep_30 : decode cX5_firstStep 30 = .ok (.lstore 5, 2) := by decide +kernel
theorem dX5_firstStep_32 : decode cX5_firstStep 32 = .ok (.lload 5, 2) := by decide +kernel
theorem dX5_firstStep_34 : decode cX5_firstStep 34 = .ok (.ldc2_w 95, 3) := by decide +kernel
theorem dX5_firstStep_37 : decode cX5_firstStep 37 = .ok (.lcmp, 1) := by decide +kernel
theorem dX5_firstStep_38 : decode cX5_firstStep 38 = .ok (.ifCond .eq 6, 3) := by decide +kernel
theorem dX5_firstStep_41 : decode cX5_firstStep 41 = .ok (.lload 5, 2) := by decide +kernel
theorem dX5_firstStep_43 : decode cX5_firstStep 43 = .ok (.lreturn, 1) := by decide +kernel
theorem dX5_firstStep_44 : decode cX5_firstStep 44 = .ok (.iinc 4 1, 3) := by decide +kernel
theorem dX5_firstStep_47 : decode cX5_firstStep 47 = .ok (.goto (-34), 3) := by decide +kernel
theorem dX5_firstStep_50 : decode cX5_firstStep 50 = .ok (.iinc 3 1, 3) := by decide +kernel
theorem dX5_firstStep_53 : decode cX5_firstStep 53 = .ok (.goto (-51), 3) := by decide +kernel
theorem dX5_firstStep_56 : decode cX5_firstStep 56 = .ok (.ldc2_w 95, 3) := by decide +kernel
theorem dX5_firstStep_59 : decode cX5_firstStep 59 = .ok (.lreturn, 1) := by decide +kernel
theorem dX5_marginOf_0 : decode cX5_marginOf 0 = .ok (.fconst 0, 1) := by decide +kernel
theorem dX5_marginOf_1 : decode cX5_marginOf 1 = .ok (.fstore_n 2, 1) := by decide +kernel
theorem dX5_marginOf_2 : decode cX5_marginOf 2 = .ok (.iconst 0, 1) := by decide +kernel
theorem dX5_marginOf_3 : decode cX5_marginOf 3 = .ok (.istore_n 3, 1) := by decide +kernel
theorem dX5_marginOf_4 : decode cX5_marginOf 4 = .ok (.iload_n 3, 1) := by decide +kernel
theorem dX5_marginOf_5 : decode cX5_marginOf 5 = .ok (.aload_n 0, 1) := by decide +kernel
theorem dX5_marginOf_6 : decode cX5_marginOf 6 = .ok (.getfield 38, 3) := by decide +kernel
theorem dX5_marginOf_9 : decode cX5_marginOf 9 = .ok (.if_icmp .ge 28, 3) := by decide +kernel
theorem dX5_marginOf_12 : decode cX5_marginOf 12 = .ok (.fload_n 2, 1) := by decide +kernel
theorem dX5_marginOf_13 : decode cX5_marginOf 13 = .ok (.aload_n 0, 1) := by decide +kernel
theorem dX5_marginOf_14 : decode cX5_marginOf 14 = .ok (.getfield 20, 3) := by decide +kernel
theorem dX5_marginOf_17 : decode cX5_marginOf 17 = .ok (.iload_n 1, 1) := by decide +kernel
theorem dX5_marginOf_18 : decode cX5_marginOf 18 = .ok (.aaload, 1) := by decide +kernel
theorem dX5_marginOf_19 : decode cX5_marginOf 19 = .ok (.iload_n 3, 1) := by decide +kernel
theorem dX5_marginOf_20 : decode cX5_marginOf 20 = .ok (.iaload, 1) := by decide +kernel
theorem dX5_marginOf_21 : decode cX5_marginOf 21 = .ok (.i2f, 1) := by decide +kernel
theorem dX5_marginOf_22 : decode cX5_marginOf 22 = .ok (.aload_n 0, 1) := by decide +kernel
theorem dX5_marginOf_23 : decode cX5_marginOf 23 = .ok (.getfield 30, 3) := by decide +kernel
theorem dX5_marginOf_26 : decode cX5_marginOf 26 = .ok (.iload_n 3, 1) := by decide +kernel
theorem dX5_marginOf_27 : decode cX5_marginOf 27 = .ok (.faload, 1) := by decide +kernel
theorem dX5_marginOf_28 : decode cX5_marginOf 28 = .ok (.fmul, 1) := by decide +kernel
theorem dX5_marginOf_29 : decode cX5_marginOf 29 = .ok (.fadd, 1) := by decide +kernel
theorem dX5_marginOf_30 : decode cX5_marginOf 30 = .ok (.fstore_n 2, 1) := by decide +kernel
theorem dX5_marginOf_31 : decode cX5_marginOf 31 = .ok (.iinc 3 1, 3) := by decide +kernel
theorem dX5_marginOf_34 : decode cX5_marginOf 34 = .ok (.goto (-30), 3) := by decide +kernel
theorem dX5_marginOf_37 : decode cX5_marginOf 37 = .ok (.fload_n 2, 1) := by decide +kernel
theorem dX5_marginOf_38 : decode cX5_marginOf 38 = .ok (.freturn, 1) := by decide +kernel
theorem dX5_widenMargin_0 : decode cX5_widenMargin 0 = .ok (.iconst 0, 1) := by decide +kernel
theorem dX5_widenMargin_1 : decode cX5_widenMargin 1 = .ok (.istore_n 2, 1) := by decide +kernel
theorem dX5_widenMargin_2 : decode cX5_widenMargin 2 = .ok (.iload_n 2, 1) := by decide +kernel
theorem dX5_widenMargin_3 : decode cX5_widenMargin 3 = .ok (.aload_n 0, 1) := by decide +kernel
theorem dX5_widenMargin_4 : decode cX5_widenMargin 4 = .ok (.getfield 38, 3) := by decide +kernel
theorem dX5_widenMargin_7 : decode cX5_widenMargin 7 = .ok (.if_icmp .ge 46, 3) := by decide +kernel
theorem dX5_widenMargin_10 : decode cX5_widenMargin 10 = .ok (.aload_n 0, 1) := by decide +kernel
theorem dX5_widenMargin_11 : decode cX5_widenMargin 11 = .ok (.getfield 30, 3) := by decide +kernel
theorem dX5_widenMargin_14 : decode cX5_widenMargin 14 = .ok (.iload_n 2, 1) := by decide +kernel
theorem dX5_widenMargin_15 : decode cX5_widenMargin 15 = .ok (.faload, 1) := by decide +kernel
theorem dX5_widenMargin_16 : decode cX5_widenMargin 16 = .ok (.aload_n 0, 1) := by decide +kernel
theorem dX5_widenMargin_17 : decode cX5_widenMargin 17 = .ok (.getfield 20, 3) := by decide +kernel
theorem dX5_widenMargin_20 : decode cX5_widenMargin 20 = .ok (.iload_n 1, 1) := by decide +kernel
theorem dX5_widenMargin_21 : decode cX5_widenMargin 21 = .ok (.aaload, 1) := by decide +kernel
theorem dX5_widenMargin_22 : decode cX5_widenMargin 22 = .ok (.iload_n 2, 1) := by decide +kernel
theorem dX5_widenMargin_23 : decode cX5_widenMargin 23 = .ok (.iaload, 1) := by decide +kernel
theorem dX5_widenMargin_24 : decode cX5_widenMargin 24 = .ok (.i2f, 1) := by decide +kernel
theorem dX5_widenMargin_25 : decode cX5_widenMargin 25 = .ok (.ldc 105, 2) := by decide +kernel
theorem dX5_widenMargin_27 : decode cX5_widenMargin 27 = .ok (.fmul, 1) := by decide +kernel
theorem dX5_widenMargin_28 : decode cX5_widenMargin 28 = .ok (.fadd, 1) := by decide +kernel
theorem dX5_widenMargin_29 : decode cX5_widenMargin 29 = .ok (.fstore_n 3, 1) := by decide +kernel
theorem dX5_widenMargin_30 : decode cX5_widenMargin 30 = .ok (.aload_n 0, 1) := by decide +kernel
theorem dX5_widenMargin_31 : decode cX5_widenMargin 31 = .ok (.getfield 30, 3) := by decide +kernel
theorem dX5_widenMargin_34 : decode cX5_widenMargin 34 = .ok (.iload_n 2, 1) := by decide +kernel
theorem dX5_widenMargin_35 : decode cX5_widenMargin 35 = .ok (.fload_n 3, 1) := by decide +kernel
theorem dX5_widenMargin_36 : decode cX5_widenMargin 36 = .ok (.fconst 0, 1) := by decide +kernel
theorem dX5_widenMargin_37 : decode cX5_widenMargin 37 = .ok (.fcmp .g, 1) := by decide +kernel
theorem dX5_widenMargin_38 : decode cX5_widenMargin 38 = .ok (.ifCond .ge 7, 3) := by decide +kernel
theorem dX5_widenMargin_41 : decode cX5_widenMargin 41 = .ok (.fconst 0, 1) := by decide +kernel
theorem dX5_widenMargin_42 : decode cX5_widenMargin 42 = .ok (.goto 4, 3) := by decide +kernel
theorem dX5_widenMargin_45 : decode cX5_widenMargin 45 = .ok (.fload_n 3, 1) := by decide +kernel
theorem dX5_widenMargin_46 : decode cX5_widenMargin 46 = .ok (.fastore, 1) := by decide +kernel
theorem dX5_widenMargin_47 : decode cX5_widenMargin 47 = .ok (.iinc 2 1, 3) := by decide +kernel
theorem dX5_widenMargin_50 : decode cX5_widenMargin 50 = .ok (.goto (-48), 3) := by decide +kernel
theorem dX5_widenMargin_53 : decode cX5_widenMargin 53 = .ok (.return_, 1) := by decide +kernel
theorem dX6_init_0 : decode cX6_init 0 = .ok (.aload_n 0, 1) := by decide +kernel
theorem dX6_init_1 : decode cX6_init 1 = .ok (.invokespecial 1, 3) := by decide +kernel
theorem dX6_init_4 : decode cX6_init 4 = .ok (.aload_n 0, 1) := by decide +kernel
theorem dX6_init_5 : decode cX6_init 5 = .ok (.bipush 8, 2) := by decide +kernel
theorem dX6_init_7 : decode cX6_init 7 = .ok (.newarray .int, 2) := by decide +kernel
theorem dX6_init_9 : decode cX6_init 9 = .ok (.putfield 9, 3) := by decide +kernel
theorem dX6_init_12 : decode cX6_init 12 = .ok (.return_, 1) := by decide +kernel
theorem dX6_findFirst_0 : decode cX6_findFirst 0 = .ok (.iload_n 1, 1) := by decide +kernel
theorem dX6_findFirst_1 : decode cX6_findFirst 1 = .ok (.iconst 1, 1) := by decide +kernel
theorem dX6_findFirst_2 : decode cX6_findFirst 2 = .ok (.if_icmp .lt 9, 3) := by decide +kernel
theorem dX6_findFirst_5 : decode cX6_findFirst 5 = .ok (.iload_n 1, 1) := by decide +kernel
theorem dX6_findFirst_6 : decode cX6_findFirst 6 = .ok (.bipush 8, 2) := by decide +kernel
theorem dX6_findFirst_8 : decode cX6_findFirst 8 = .ok (.if_icmp .le 5, 3) := by decide +kernel
theorem dX6_findFirst_11 : decode cX6_findFirst 11 = .ok (.iconst 0, 1) := by decide +kernel
theorem dX6_findFirst_12 : decode cX6_findFirst 12 = .ok (.ireturn, 1) := by decide +kernel
theorem dX6_findFirst_13 : decode cX6_findFirst 13 = .ok (.aload_n 0, 1) := by decide +kernel
theorem dX6_findFirst_14 : decode cX6_findFirst 14 = .ok (.getfield 9, 3) := by decide +kernel
theorem dX6_findFirst_17 : decode cX6_findFirst 17 = .ok (.iconst 0, 1) := by decide +kernel
theorem dX6_findFirst_18 : decode cX6_findFirst 18 = .ok (.iconst 0, 1) := by decide +kernel
theorem dX6_findFirst_19 : decode cX6_findFirst 19 = .ok (.iastore, 1) := by decide +kernel
theorem dX6_findFirst_20 : decode cX6_findFirst 20 = .ok (.iconst 1, 1) := by decide +kernel
theorem dX6_findFirst_21 : decode cX6_findFirst 21 = .ok (.istore_n 3, 1) := by decide +kernel
theorem dX6_findFirst_22 : decode cX6_findFirst 22 = .ok (.iconst 0, 1) := by decide +kernel
theorem dX6_findFirst_23 : decode cX6_findFirst 23 = .ok (.istore 4, 2) := by decide +kernel
theorem dX6_findFirst_25 : decode cX6_findFirst 25 = .ok (.iload 4, 2) := by decide +kernel
theorem dX6_findFirst_27 : decode cX6_findFirst 27 = .ok (.ldc 13, 2) := by decide +kernel
theorem dX6_findFirst_29 : decode cX6_findFirst 29 = .ok (.if_icmp .ge 51, 3) := by decide +kernel
theorem dX6_findFirst_32 : decode cX6_findFirst 32 = .ok (.iload_n 3, 1) := by decide +kernel
theorem dX6_findFirst_33 : decode cX6_findFirst 33 = .ok (.ifCond .le 47, 3) := by decide +kernel
theorem dX6_findFirst_36 : decode cX6_findFirst 36 = .ok (.aload_n 0, 1) := by decide +kernel
theorem dX6_findFirst_37 : decode cX6_findFirst 37 = .ok (.iload_n 3, 1) := by decide +kernel
theorem dX6_findFirst_38 : decode cX6_findFirst 38 = .ok (.invokevirtual 14, 3) := by decide +kernel
theorem dX6_findFirst_41 : decode cX6_findFirst 41 = .ok (.ifCond .ne 13, 3) := by decide +kernel
theorem dX6_findFirst_44 : decode cX6_findFirst 44 = .ok (.aload_n 0, 1) := by decide +kernel
theorem dX6_findFirst_45 : decode cX6_findFirst 45 = .ok (.iload_n 3, 1) := by decide +kernel
theorem dX6_findFirst_46 : decode cX6_findFirst 46 = .ok (.iload_n 2, 1) := by decide +kernel
theorem dX6_findFirst_47 : decode cX6_findFirst 47 = .ok (.invokevirtual 18, 3) := by decide +kernel
theorem dX6_findFirst_50 : decode cX6_findFirst 50 = .ok (.istore_n 3, 1) := by decide +kernel
theorem dX6_findFirst_51 : decode cX6_findFirst 51 = .ok (.goto 23, 3) := by decide +kernel
theorem dX6_findFirst_54 : decode cX6_findFirst 54 = .ok (.iload_n 3, 1) := by decide +kernel
theorem dX6_findFirst_55 : decode cX6_findFirst 55 = .ok (.iload_n 1, 1) := by decide +kernel
theorem dX6_findFirst_56 : decode cX6_findFirst 56 = .ok (.if_icmp .ge 16, 3) := by decide +kernel
theorem dX6_findFirst_59 : decode cX6_findFirst 59 = .ok (.aload_n 0, 1) := by decide +kernel
theorem dX6_findFirst_60 : decode cX6_findFirst 60 = .ok (.getfield 9, 3) := by decide +kernel
theorem dX6_findFirst_63 : decode cX6_findFirst 63 = .ok (.iload_n 3, 1) := by decide +kernel
theorem dX6_findFirst_64 : decode cX6_findFirst 64 = .ok (.iconst 0, 1) := by decide +kernel
theorem dX6_findFirst_65 : decode cX6_findFirst 65 = .ok (.iastore, 1) := by decide +kernel
theorem dX6_findFirst_66 : decode cX6_findFirst 66 = .ok (.iinc 3 1, 3) := by decide +kernel
theorem dX6_findFirst_69 : decode cX6_findFirst 69 = .ok (.goto 5, 3) := by decide +kernel
theorem dX6_findFirst_72 : decode cX6_findFirst 72 = .ok (.iconst 1, 1) := by decide +kernel
theorem dX6_findFirst_73 : decode cX6_findFirst 73 = .ok (.ireturn, 1) := by decide +kernel
theorem dX6_findFirst_74 : decode cX6_findFirst 74 = .ok (.iinc 4 1, 3) := by decide +kernel
theorem dX6_findFirst_77 : decode cX6_findFirst 77 = .ok (.goto (-52), 3) := by decide +kernel
theorem dX6_findFirst_80 : decode cX6_findFirst 80 = .ok (.iconst 0, 1) := by decide +kernel
theorem dX6_findFirst_81 : decode cX6_findFirst 81 = .ok (.ireturn, 1) := by decide +kernel
theorem dX6_advance_0 : decode cX6_advance 0 = .ok (.iload_n 1, 1) := by decide +kernel
theorem dX6_advance_1 : decode cX6_advance 1 = .ok (.iconst 1, 1) := by decide +kernel
theorem dX6_advance_2 : decode cX6_advance 2 = .ok (.isub, 1) := by decide +kernel
theorem dX6_advance_3 : decode cX6_advance 3 = .ok (.istore_n 3, 1) := by decide +kernel
theorem dX6_advance_4 : decode cX6_advance 4 = .ok (.iload_n 3, 1) := by decide +kernel
theorem dX6_advance_5 : decode cX6_advance 5 = .ok (.ifCond .lt 33, 3) := by decide +kernel
theorem dX6_advance_8 : decode cX6_advance 8 = .ok (.aload_n 0, 1) := by decide +kernel
theorem dX6_advance_9 : decode cX6_advance 9 = .ok (.getfield 9, 3) := by decide +kernel
theorem dX6_advance_12 : decode cX6_advance 12 = .ok (.iload_n 3, 1) := by decide +kernel
theorem dX6_advance_13 : decode cX6_advance 13 = .ok (.iaload, 1) := by decide +kernel
theorem dX6_advance_14 : decode cX6_advance 14 = .ok (.iload_n 2, 1) := by decide +kernel
theorem dX6_advance_15 : decode cX6_advance 15 = .ok (.if_icmp .ge 17, 3) := by decide +kernel
theorem dX6_advance_18 : decode cX6_advance 18 = .ok (.aload_n 0, 1) := by decide +kernel
theorem dX6_advance_19 : decode cX6_advance 19 = .ok (.getfield 9, 3) := by decide +kernel
theorem dX6_advance_22 : decode cX6_advance 22 = .ok (.iload_n 3, 1) := by decide +kernel
theorem dX6_advance_23 : decode cX6_advance 23 = .ok (.dup2, 1) := by decide +kernel
theorem dX6_advance_24 : decode cX6_advance 24 = .ok (.iaload, 1) := by decide +kernel
theorem dX6_advance_25 : decode cX6_advance 25 = .ok (.iconst 1, 1) := by decide +kernel
theorem dX6_advance_26 : decode cX6_advance 26 = .ok (.iadd, 1) := by decide +kernel
theorem dX6_advance_27 : decode cX6_advance 27 = .ok (.iastore, 1) := by decide +kernel
theorem dX6_advance_28 : decode cX6_advance 28 = .ok (.iload_n 3, 1) := by decide +kernel
theorem dX6_advance_29 : decode cX6_advance 29 = .ok (.iconst 1, 1) := by decide +kernel
theorem dX6_advance_30 : decode cX6_advance 30 = .ok (.iadd, 1) := by decide +kernel
theorem dX6_advance_31 : decode cX6_advance 31 = .ok (.ireturn, 1) := by decide +kernel
theorem dX6_advance_32 : decode cX6_advance 32 = .ok (.iinc 3 (-1), 3) := by decide +kernel
theorem dX6_advance_35 : decode cX6_advance 35 = .ok (.goto (-31), 3) := by decide +kernel
theorem dX6_advance_38 : decode cX6_advance 38 = .ok (.iconst 0, 1) := by decide +kernel
theorem dX6_advance_39 : decode cX6_advance 39 = .ok (.ireturn, 1) := by decide +kernel
theorem dX7_init_0 : decode cX7_init 0 = .ok (.aload_n 0, 1) := by decide +kernel
theorem dX7_init_1 : decode cX7_init 1 = .ok (.invokespecial 3, 3) := by decide +kernel
theorem dX7_init_4 : decode cX7_init 4 = .ok (.aload_n 0, 1) := by decide +kernel
theorem dX7_init_5 : decode cX7_init 5 = .ok (.iconst (-1), 1) := by decide +kernel
theorem dX7_init_6 : decode cX7_init 6 = .ok (.putfield 11, 3) := by decide +kernel
theorem dX7_init_9 : decode cX7_init 9 = .ok (.aload_n 0, 1) := by decide +kernel
theorem dX7_init_10 : decode cX7_init 10 = .ok (.iconst 0, 1) := by decide +kernel
theorem dX7_init_11 : decode cX7_init 11 = .ok (.putfield 15, 3) := by decide +kernel
theorem dX7_init_14 : decode cX7_init 14 = .ok (.aload_n 0, 1) := by decide +kernel
theorem dX7_init_15 : decode cX7_init 15 = .ok (.bipush 40, 2) := by decide +kernel
theorem dX7_init_17 : decode cX7_init 17 = .ok (.newarray .long, 2) := by decide +kernel
theorem dX7_init_19 : decode cX7_init 19 = .ok (.putfield 18, 3) := by decide +kernel
theorem dX7_init_22 : decode cX7_init 22 = .ok (.aload_n 0, 1) := by decide +kernel
theorem dX7_init_23 : decode cX7_init 23 = .ok (.bipush 40, 2) := by decide +kernel
theorem dX7_init_25 : decode cX7_init 25 = .ok (.newarray .float, 2) := by decide +kernel
theorem dX7_init_27 : decode cX7_init 27 = .ok (.putfield 22, 3) := by decide +kernel
theorem dX7_init_30 : decode cX7_init 30 = .ok (.aload_n 0, 1) := by decide +kernel
theorem dX7_init_31 : decode cX7_init 31 = .ok (.bipush 40, 2) := by decide +kernel
theorem dX7_init_33 : decode cX7_init 33 = .ok (.newarray .double, 2) := by decide +kernel
theorem dX7_init_35 : decode cX7_init 35 = .ok (.putfield 26, 3) := by decide +kernel
theorem dX7_init_38 : decode cX7_init 38 = .ok (.return_, 1) := by decide +kernel
theorem dX7_isFree_0 : decode cX7_isFree 0 = .ok (.aload_n 0, 1) := by decide +kernel
theorem dX7_isFree_1 : decode cX7_isFree 1 = .ok (.getfield 11, 3) := by decide +kernel
theorem dX7_isFree_4 : decode cX7_isFree 4 = .ok (.iconst (-1), 1) := by decide +kernel
theorem dX7_isFree_5 : decode cX7_isFree 5 = .ok (.if_icmp .ne 7, 3) := by decide +kernel
theorem dX7_isFree_8 : decode cX7_isFree 8 = .ok (.iconst 1, 1) := by decide +kernel
theorem dX7_isFree_9 : decode cX7_isFree 9 = .ok (.goto 4, 3) := by decide +kernel
theorem dX7_isFree_12 : decode cX7_isFree 12 = .ok (.iconst 0, 1) := by decide +kernel
theorem dX7_isFree_13 : decode cX7_isFree 13 = .ok (.ireturn, 1) := by decide +kernel
theorem dX7_fill_0 : decode cX7_fill 0 = .ok (.aload_n 0, 1) := by decide +kernel
theorem dX7_fill_1 : decode cX7_fill 1 = .ok (.iload_n 1, 1) := by decide +kernel
theorem dX7_fill_2 : decode cX7_fill 2 = .ok (.putfield 11, 3) := by decide +kernel
theorem dX7_fill_5 : decode cX7_fill 5 = .ok (.aload_n 0, 1) := by decide +kernel
theorem dX7_fill_6 : decode cX7_fill 6 = .ok (.iload_n 2, 1) := by decide +kernel
theorem dX7_fill_7 : decode cX7_fill 7 = .ok (.putfield 15, 3) := by decide +kernel
theorem dX7_fill_10 : decode cX7_fill 10 = .ok (.iconst 0, 1) := by decide +kernel
theorem dX7_fill_11 : decode cX7_fill 11 = .ok (.istore_n 3, 1) := by decide +kernel
theorem dX7_fill_12 : decode cX7_fill 12 = .ok (.iload_n 3, 1) := by decide +kernel
theorem dX7_fill_13 : decode cX7_fill 13 = .ok (.bipush 40, 2) := by decide +kernel
theorem dX7_fill_15 : decode cX7_fill 15 = .ok (.if_icmp .ge 30, 3) := by decide +kernel
theorem dX7_fill_18 : decode cX7_fill 18 = .ok (.aload_n 0, 1) := by decide +kernel
theorem dX7_fill_19 : decode cX7_fill 19 = .ok (.getfield 18, 3) := by decide +kernel
theorem dX7_fill_22 : decode cX7_fill 22 = .ok (.iload_n 3, 1) := by decide +kernel
theorem dX7_fill_23 : decode cX7_fill 23 = .ok (.lconst 0, 1) := by decide +kernel
theorem dX7_fill_24 : decode cX7_fill 24 = .ok (.lastore, 1) := by decide +kernel
theorem dX7_fill_25 : decode cX7_fill 25 = .ok (.aload_n 0, 1) := by decide +kernel
theorem dX7_fill_26 : decode cX7_fill 26 = .ok (.getfield 22, 3) := by decide +kernel
theorem dX7_fill_29 : decode cX7_fill 29 = .ok (.iload_n 3, 1) := by decide +kernel
theorem dX7_fill_30 : decode cX7_fill 30 = .ok (.fconst 0, 1) := by decide +kernel
theorem dX7_fill_31 : decode cX7_fill 31 = .ok (.fastore, 1) := by decide +kernel
theorem dX7_fill_32 : decode cX7_fill 32 = .ok (.aload_n 0, 1) := by decide +kernel
theorem dX7_fill_33 : decode cX7_fill 33 = .ok (.getfield 26, 3) := by decide +kernel
theorem dX7_fill_36 : decode cX7_fill 36 = .ok (.iload_n 3, 1) := by decide +kernel
theorem dX7_fill_37 : decode cX7_fill 37 = .ok (.dconst 0, 1) := by decide +kernel
theorem dX7_fill_38 : decode cX7_fill 38 = .ok (.dastore, 1) := by decide +kernel
theorem dX7_fill_39 : decode cX7_fill 39 = .ok (.iinc 3 1, 3) := by decide +kernel
theorem dX7_fill_42 : decode cX7_fill 42 = .ok (.goto (-30), 3) := by decide +kernel
theorem dX7_fill_45 : decode cX7_fill 45 = .ok (.return_, 1) := by decide +kernel
theorem dX7_hasIndex_0 : decode cX7_hasIndex 0 = .ok (.iload_n 1, 1) := by decide +kernel
theorem dX7_hasIndex_1 : decode cX7_hasIndex 1 = .ok (.ifCond .lt 15, 3) := by decide +kernel
theorem dX7_hasIndex_4 : decode cX7_hasIndex 4 = .ok (.iload_n 1, 1) := by decide +kernel
theorem dX7_hasIndex_5 : decode cX7_hasIndex 5 = .ok (.aload_n 0, 1) := by decide +kernel
theorem dX7_hasIndex_6 : decode cX7_hasIndex 6 = .ok (.getfield 15, 3) := by decide +kernel
theorem dX7_hasIndex_9 : decode cX7_hasIndex 9 = .ok (.if_icmp .ge 7, 3) := by decide +kernel
theorem dX7_hasIndex_12 : decode cX7_hasIndex 12 = .ok (.iconst 1, 1) := by decide +kernel
theorem dX7_hasIndex_13 : decode cX7_hasIndex 13 = .ok (.goto 4, 3) := by decide +kernel
theorem dX7_hasIndex_16 : decode cX7_hasIndex 16 = .ok (.iconst 0, 1) := by decide +kernel
theorem dX7_hasIndex_17 : decode cX7_hasIndex 17 = .ok (.ireturn, 1) := by decide +kernel
theorem dX7_hasRange_0 : decode cX7_hasRange 0 = .ok (.iload_n 1, 1) := by decide +kernel
theorem dX7_hasRange_1 : decode cX7_hasRange 1 = .ok (.ifCond .lt 29, 3) := by decide +kernel
theorem dX7_hasRange_4 : decode cX7_hasRange 4 = .ok (.iload_n 1, 1) := by decide +kernel
theorem dX7_hasRange_5 : decode cX7_hasRange 5 = .ok (.aload_n 0, 1) := by decide +kernel
theorem dX7_hasRange_6 : decode cX7_hasRange 6 = .ok (.getfield 15, 3) := by decide +kernel
theorem dX7_hasRange_9 : decode cX7_hasRange 9 = .ok (.if_icmp .gt 21, 3) := by decide +kernel
theorem dX7_hasRange_12 : decode cX7_hasRange 12 = .ok (.iload_n 2, 1) := by decide +kernel
theorem dX7_hasRange_13 : decode cX7_hasRange 13 = .ok (.ifCond .lt 17, 3) := by decide +kernel
theorem dX7_hasRange_16 : decode cX7_hasRange 16 = .ok (.iload_n 2, 1) := by decide +kernel
theorem dX7_hasRange_17 : decode cX7_hasRange 17 = .ok (.aload_n 0, 1) := by decide +kernel
theorem dX7_hasRange_18 : decode cX7_hasRange 18 = .ok (.getfield 15, 3) := by decide +kernel
theorem dX7_hasRange_21 : decode cX7_hasRange 21 = .ok (.iload_n 1, 1) := by decide +kernel
theorem dX7_hasRange_22 : decode cX7_hasRange 22 = .ok (.isub, 1) := by decide +kernel
theorem dX7_hasRange_23 : decode cX7_hasRange 23 = .ok (.if_icmp .gt 7, 3) := by decide +kernel
theorem dX7_hasRange_26 : decode cX7_hasRange 26 = .ok (.iconst 1, 1) := by decide +kernel
theorem dX7_hasRange_27 : decode cX7_hasRange 27 = .ok (.goto 4, 3) := by decide +kernel
theorem dX7_hasRange_30 : decode cX7_hasRange 30 = .ok (.iconst 0, 1) := by decide +kernel
theorem dX7_hasRange_31 : decode cX7_hasRange 31 = .ok (.ireturn, 1) := by decide +kernel
theorem dX7_put_0 : decode cX7_put 0 = .ok (.aload_n 0, 1) := by decide +kernel
theorem dX7_put_1 : decode cX7_put 1 = .ok (.getfield 11, 3) := by decide +kernel
theorem dX7_put_4 : decode cX7_put 4 = .ok (.iconst 2, 1) := by decide +kernel
theorem dX7_put_5 : decode cX7_put 5 = .ok (.if_icmp .ne 14, 3) := by decide +kernel
theorem dX7_put_8 : decode cX7_put 8 = .ok (.aload_n 0, 1) := by decide +kernel
theorem dX7_put_9 : decode cX7_put 9 = .ok (.getfield 22, 3) := by decide +kernel
theorem dX7_put_12 : decode cX7_put 12 = .ok (.iload_n 1, 1) := by decide +kernel
theorem dX7_put_13 : decode cX7_put 13 = .ok (.lload_n 2, 1) := by decide +kernel
theorem dX7_put_14 : decode cX7_put 14 = .ok (.l2f, 1) := by decide +kernel
theorem dX7_put_15 : decode cX7_put 15 = .ok (.fastore, 1) := by decide +kernel
theorem dX7_put_16 : decode cX7_put 16 = .ok (.goto 42, 3) := by decide +kernel
theorem dX7_put_19 : decode cX7_put 19 = .ok (.aload_n 0, 1) := by decide +kernel
theorem dX7_put_20 : decode cX7_put 20 = .ok (.getfield 11, 3) := by decide +kernel
theorem dX7_put_23 : decode cX7_put 23 = .ok (.iconst 3, 1) := by decide +kernel
theorem dX7_put_24 : decode cX7_put 24 = .ok (.if_icmp .ne 14, 3) := by decide +kernel
theorem dX7_put_27 : decode cX7_put 27 = .ok (.aload_n 0, 1) := by decide +kernel
theorem dX7_put_28 : decode cX7_put 28 = .ok (.getfield 26, 3) := by decide +kernel
theorem dX7_put_31 : decode cX7_put 31 = .ok (.iload_n 1, 1) := by decide +kernel
theorem dX7_put_32 : decode cX7_put 32 = .ok (.lload_n 2, 1) := by decide +kernel
theorem dX7_put_33 : decode cX7_put 33 = .ok (.l2d, 1) := by decide +kernel
theorem dX7_put_34 : decode cX7_put 34 = .ok (.dastore, 1) := by decide +kernel
theorem dX7_put_35 : decode cX7_put 35 = .ok (.goto 23, 3) := by decide +kernel
theorem dX7_put_38 : decode cX7_put 38 = .ok (.aload_n 0, 1) := by decide +kernel
theorem dX7_put_39 : decode cX7_put 39 = .ok (.getfield 18, 3) := by decide +kernel
theorem dX7_put_42 : decode cX7_put 42 = .ok (.iload_n 1, 1) := by decide +kernel
theorem dX7_put_43 : decode cX7_put 43 = .ok (.aload_n 0, 1) := by decide +kernel
theorem dX7_put_44 : decode cX7_put 44 = .ok (.getfield 11, 3) := by decide +kernel
theorem dX7_put_47 : decode cX7_put 47 = .ok (.ifCond .ne 9, 3) := by decide +kernel
theorem dX7_put_50 : decode cX7_put 50 = .ok (.lload_n 2, 1) := by decide +kernel
theorem dX7_put_51 : decode cX7_put 51 = .ok (.l2i, 1) := by decide +kernel
theorem dX7_put_52 : decode cX7_put 52 = .ok (.i2l, 1) := by decide +kernel
theorem dX7_put_53 : decode cX7_put 53 = .ok (.goto 4, 3) := by decide +kernel
theorem dX7_put_56 : decode cX7_put 56 = .ok (.lload_n 2, 1) := by decide +kernel
theorem dX7_put_57 : decode cX7_put 57 = .ok (.lastore, 1) := by decide +kernel
theorem dX7_put_58 : decode cX7_put 58 = .ok (.return_, 1) := by decide +kernel
theorem dX7_divide_0 : decode cX7_divide 0 = .ok (.aload_n 0, 1) := by decide +kernel
theorem dX7_divide_1 : decode cX7_divide 1 = .ok (.getfield 11, 3) := by decide +kernel
theorem dX7_divide_4 : decode cX7_divide 4 = .ok (.iconst 2, 1) := by decide +kernel
theorem dX7_divide_5 : decode cX7_divide 5 = .ok (.if_icmp .ne 29, 3) := by decide +kernel
theorem dX7_divide_8 : decode cX7_divide 8 = .ok (.aload_n 0, 1) := by decide +kernel
theorem dX7_divide_9 : decode cX7_divide 9 = .ok (.getfield 22, 3) := by decide +kernel
theorem dX7_divide_12 : decode cX7_divide 12 = .ok (.iload_n 1, 1) := by decide +kernel
theorem dX7_divide_13 : decode cX7_divide 13 = .ok (.faload, 1) := by decide +kernel
theorem dX7_divide_14 : decode cX7_divide 14 = .ok (.fconst 0, 1) := by decide +kernel
theorem dX7_divide_15 : decode cX7_divide 15 = .ok (.fcmp .l, 1) := by decide +kernel
theorem dX7_divide_16 : decode cX7_divide 16 = .ok (.ifCond .eq 18, 3) := by decide +kernel
theorem dX7_divide_19 : decode cX7_divide 19 = .ok (.aload_n 0, 1) := by decide +kernel
theorem dX7_divide_20 : decode cX7_divide 20 = .ok (.getfield 22, 3) := by decide +kernel
theorem dX7_divide_23 : decode cX7_divide 23 = .ok (.iload_n 1, 1) := by decide +kernel
theorem dX7_divide_24 : decode cX7_divide 24 = .ok (.aload_n 0, 1) := by decide +kernel
theorem dX7_divide_25 : decode cX7_divide 25 = .ok (.getfield 22, 3) := by decide +kernel
theorem dX7_divide_28 : decode cX7_divide 28 = .ok (.iload_n 1, 1) := by decide +kernel
theorem dX7_divide_29 : decode cX7_divide 29 = .ok (.faload, 1) := by decide +kernel
theorem dX7_divide_30 : decode cX7_divide 30 = .ok (.iload_n 2, 1) := by decide +kernel
theorem dX7_divide_31 : decode cX7_divide 31 = .ok (.i2f, 1) := by decide +kernel
theorem dX7_divide_32 : decode cX7_divide 32 = .ok (.fdiv, 1) := by decide +kernel
theorem dX7_divide_33 : decode cX7_divide 33 = .ok (.fastore, 1) := by decide +kernel
theorem dX7_divide_34 : decode cX7_divide 34 = .ok (.aload_n 0, 1) := by decide +kernel
theorem dX7_divide_35 : decode cX7_divide 35 = .ok (.getfield 11, 3) := by decide +kernel
theorem dX7_divide_38 : decode cX7_divide 38 = .ok (.iconst 3, 1) := by decide +kernel
theorem dX7_divide_39 : decode cX7_divide 39 = .ok (.if_icmp .ne 29, 3) := by decide +kernel
theorem dX7_divide_42 : decode cX7_divide 42 = .ok (.aload_n 0, 1) := by decide +kernel
theorem dX7_divide_43 : decode cX7_divide 43 = .ok (.getfield 26, 3) := by decide +kernel
theorem dX7_divide_46 : decode cX7_divide 46 = .ok (.iload_n 1, 1) := by decide +kernel
theorem dX7_divide_47 : decode cX7_divide 47 = .ok (.daload, 1) := by decide +kernel
theorem dX7_divide_48 : decode cX7_divide 48 = .ok (.dconst 0, 1) := by decide +kernel
theorem dX7_divide_49 : decode cX7_divide 49 = .ok (.dcmp .l, 1) := by decide +kernel
theorem dX7_divide_50 : decode cX7_divide 50 = .ok (.ifCond .eq 18, 3) := by decide +kernel
theorem dX7_divide_53 : decode cX7_divide 53 = .ok (.aload_n 0, 1) := by decide +kernel
theorem dX7_divide_54 : decode cX7_divide 54 = .ok (.getfield 26, 3) := by decide +kernel
theorem dX7_divide_57 : decode cX7_divide 57 = .ok (.iload_n 1, 1) := by decide +kernel
theorem dX7_divide_58 : decode cX7_divide 58 = .ok (.aload_n 0, 1) := by decide +kernel
theorem dX7_divide_59 : decode cX7_divide 59 = .ok (.getfield 26, 3) := by decide +kernel
theorem dX7_divide_62 : decode cX7_divide 62 = .ok (.iload_n 1, 1) := by decide +kernel
theorem dX7_divide_63 : decode cX7_divide 63 = .ok (.daload, 1) := by decide +kernel
theorem dX7_divide_64 : decode cX7_divide 64 = .ok (.iload_n 2, 1) := by decide +kernel
theorem dX7_divide_65 : decode cX7_divide 65 = .ok (.i2d, 1) := by decide +kernel
theorem dX7_divide_66 : decode cX7_divide 66 = .ok (.ddiv, 1) := by decide +kernel
theorem dX7_divide_67 : decode cX7_divide 67 = .ok (.dastore, 1) := by decide +kernel
theorem dX7_divide_68 : decode cX7_divide 68 = .ok (.return_, 1) := by decide +kernel
theorem dX7_asLong_0 : decode cX7_asLong 0 = .ok (.aload_n 0, 1) := by decide +kernel
theorem dX7_asLong_1 : decode cX7_asLong 1 = .ok (.getfield 11, 3) := by decide +kernel
theorem dX7_asLong_4 : decode cX7_asLong 4 = .ok (.iconst 2, 1) := by decide +kernel
theorem dX7_asLong_5 : decode cX7_asLong 5 = .ok (.if_icmp .ne 11, 3) := by decide +kernel
theorem dX7_asLong_8 : decode cX7_asLong 8 = .ok (.aload_n 0, 1) := by decide +kernel
theorem dX7_asLong_9 : decode cX7_asLong 9 = .ok (.getfield 22, 3) := by decide +kernel
theorem dX7_asLong_12 : decode cX7_asLong 12 = .ok (.iload_n 1, 1) := by decide +kernel
theorem dX7_asLong_13 : decode cX7_asLong 13 = .ok (.faload, 1) := by decide +kernel
theorem dX7_asLong_14 : decode cX7_asLong 14 = .ok (.f2l, 1) := by decide +kernel
theorem dX7_asLong_15 : decode cX7_asLong 15 = .ok (.lreturn, 1) := by decide +kernel
theorem dX7_asLong_16 : decode cX7_asLong 16 = .ok (.aload_n 0, 1) := by decide +kernel
theorem dX7_asLong_17 : decode cX7_asLong 17 = .ok (.getfield 11, 3) := by decide +kernel
theorem dX7_asLong_20 : decode cX7_asLong 20 = .ok (.iconst 3, 1) := by decide +kernel
theorem dX7_asLong_21 : decode cX7_asLong 21 = .ok (.if_icmp .ne 13, 3) := by decide +kernel
theorem dX7_asLong_24 : decode cX7_asLong 24 = .ok (.aload_n 0, 1) := by decide +kernel
theorem dX7_asLong_25 : decode cX7_asLong 25 = .ok (.getfield 26, 3) := by decide +kernel
theorem dX7_asLong_28 : decode cX7_asLong 28 = .ok (.iload_n 1, 1) := by decide +kernel
theorem dX7_asLong_29 : decode cX7_asLong 29 = .ok (.daload, 1) := by decide +kernel
theorem dX7_asLong_30 : decode cX7_asLong 30 = .ok (.d2l, 1) := by decide +kernel
theorem dX7_asLong_31 : decode cX7_asLong 31 = .ok (.goto 9, 3) := by decide +kernel
theorem dX7_asLong_34 : decode cX7_asLong 34 = .ok (.aload_n 0, 1) := by decide +kernel
theorem dX7_asLong_35 : decode cX7_asLong 35 = .ok (.getfield 18, 3) := by decide +kernel
theorem dX7_asLong_38 : decode cX7_asLong 38 = .ok (.iload_n 1, 1) := by decide +kernel
theorem dX7_asLong_39 : decode cX7_asLong 39 = .ok (.laload, 1) := by decide +kernel
theorem dX7_asLong_40 : decode cX7_asLong 40 = .ok (.lreturn, 1) := by decide +kernel
theorem dX7_copyFrom_0 : decode cX7_copyFrom 0 = .ok (.aload_n 1, 1) := by decide +kernel
theorem dX7_copyFrom_1 : decode cX7_copyFrom 1 = .ok (.getfield 18, 3) := by decide +kernel
theorem dX7_copyFrom_4 : decode cX7_copyFrom 4 = .ok (.iload_n 2, 1) := by decide +kernel
theorem dX7_copyFrom_5 : decode cX7_copyFrom 5 = .ok (.aload_n 0, 1) := by decide +kernel
theorem dX7_copyFrom_6 : decode cX7_copyFrom 6 = .ok (.getfield 18, 3) := by decide +kernel
theorem dX7_copyFrom_9 : decode cX7_copyFrom 9 = .ok (.iload_n 3, 1) := by decide +kernel
theorem dX7_copyFrom_10 : decode cX7_copyFrom 10 = .ok (.iload 4, 2) := by decide +kernel
theorem dX7_copyFrom_12 : decode cX7_copyFrom 12 = .ok (.invokestatic 30, 3) := by decide +kernel
theorem dX7_copyFrom_15 : decode cX7_copyFrom 15 = .ok (.aload_n 1, 1) := by decide +kernel
theorem dX7_copyFrom_16 : decode cX7_copyFrom 16 = .ok (.getfield 22, 3) := by decide +kernel
theorem dX7_copyFrom_19 : decode cX7_copyFrom 19 = .ok (.iload_n 2, 1) := by decide +kernel
theorem dX7_copyFrom_20 : decode cX7_copyFrom 20 = .ok (.aload_n 0, 1) := by decide +kernel
theorem dX7_copyFrom_21 : decode cX7_copyFrom 21 = .ok (.getfield 22, 3) := by decide +kernel
theorem dX7_copyFrom_24 : decode cX7_copyFrom 24 = .ok (.iload_n 3, 1) := by decide +kernel
theorem dX7_copyFrom_25 : decode cX7_copyFrom 25 = .ok (.iload 4, 2) := by decide +kernel
theorem dX7_copyFrom_27 : decode cX7_copyFrom 27 = .ok (.invokestatic 30, 3) := by decide +kernel
theorem dX7_copyFrom_30 : decode cX7_copyFrom 30 = .ok (.aload_n 1, 1) := by decide +kernel
theorem dX7_copyFrom_31 : decode cX7_copyFrom 31 = .ok (.getfield 26, 3) := by decide +kernel
theorem dX7_copyFrom_34 : decode cX7_copyFrom 34 = .ok (.iload_n 2, 1) := by decide +kernel
theorem dX7_copyFrom_35 : decode cX7_copyFrom 35 = .ok (.aload_n 0, 1) := by decide +kernel
theorem dX7_copyFrom_36 : decode cX7_copyFrom 36 = .ok (.getfield 26, 3) := by decide +kernel
theorem dX7_copyFrom_39 : decode cX7_copyFrom 39 = .ok (.iload_n 3, 1) := by decide +kernel
theorem dX7_copyFrom_40 : decode cX7_copyFrom 40 = .ok (.iload 4, 2) := by decide +kernel
theorem dX7_copyFrom_42 : decode cX7_copyFrom 42 = .ok (.invokestatic 30, 3) := by decide +kernel
theorem dX7_copyFrom_45 : decode cX7_copyFrom 45 = .ok (.return_, 1) := by decide +kernel
theorem dX8_sizeOf_0 : decode cX8_sizeOf 0 = .ok (.lload_n 0, 1) := by decide +kernel
theorem dX8_sizeOf_1 : decode cX8_sizeOf 1 = .ok (.bipush 36, 2) := by decide +kernel
theorem dX8_sizeOf_3 : decode cX8_sizeOf 3 = .ok (.lushr, 1) := by decide +kernel
theorem dX8_sizeOf_4 : decode cX8_sizeOf 4 = .ok (.l2i, 1) := by decide +kernel
theorem dX8_sizeOf_5 : decode cX8_sizeOf 5 = .ok (.bipush 15, 2) := by decide +kernel
theorem dX8_sizeOf_7 : decode cX8_sizeOf 7 = .ok (.iand, 1) := by decide +kernel
theorem dX8_sizeOf_8 : decode cX8_sizeOf 8 = .ok (.ireturn, 1) := by decide +kernel
theorem dX8_letterAt_0 : decode cX8_letterAt 0 = .ok (.lload_n 0, 1) := by decide +kernel
theorem dX8_letterAt_1 : decode cX8_letterAt 1 = .ok (.iconst 3, 1) := by decide +kernel
theorem dX8_letterAt_2 : decode cX8_letterAt 2 = .ok (.lload_n 0, 1) := by decide +kernel
theorem dX8_letterAt_3 : decode cX8_letterAt 3 = .ok (.invokestatic 9, 3) := by decide +kernel
theorem dX8_letterAt_6 : decode cX8_letterAt 6 = .ok (.iconst 1, 1) := by decide +kernel
theorem dX8_letterAt_7 : decode cX8_letterAt 7 = .ok (.isub, 1) := by decide +kernel
theorem dX8_letterAt_8 : decode cX8_letterAt 8 = .ok (.iload_n 2, 1) := by decide +kernel
theorem dX8_letterAt_9 : decode cX8_letterAt 9 = .ok (.isub, 1) := by decide +kernel
theorem dX8_letterAt_10 : decode cX8_letterAt 10 = .ok (.imul, 1) := by decide +kernel
theorem dX8_letterAt_11 : decode cX8_letterAt 11 = .ok (.lushr, 1) := by decide +kernel
theorem dX8_letterAt_12 : decode cX8_letterAt 12 = .ok (.l2i, 1) := by decide +kernel
theorem dX8_letterAt_13 : decode cX8_letterAt 13 = .ok (.bipush 7, 2) := by decide +kernel
theorem dX8_letterAt_15 : decode cX8_letterAt 15 = .ok (.iand, 1) := by decide +kernel
theorem dX8_letterAt_16 : decode cX8_letterAt 16 = .ok (.ireturn, 1) := by decide +kernel
theorem dX8_letterFrom_0 : decode cX8_letterFrom 0 = .ok (.iload_n 3, 1) := by decide +kernel
theorem dX8_letterFrom_1 : decode cX8_letterFrom 1 = .ok (.ifCond .ne 14, 3) := by decide +kernel
theorem dX8_letterFrom_4 : decode cX8_letterFrom 4 = .ok (.lload_n 0, 1) := by decide +kernel
theorem dX8_letterFrom_5 : decode cX8_letterFrom 5 = .ok (.invokestatic 9, 3) := by decide +kernel
theorem dX8_letterFrom_8 : decode cX8_letterFrom 8 = .ok (.iconst 1, 1) := by decide +kernel
theorem dX8_letterFrom_9 : decode cX8_letterFrom 9 = .ok (.isub, 1) := by decide +kernel
theorem dX8_letterFrom_10 : decode cX8_letterFrom 10 = .ok (.iload_n 2, 1) := by decide +kernel
theorem dX8_letterFrom_11 : decode cX8_letterFrom 11 = .ok (.isub, 1) := by decide +kernel
theorem dX8_letterFrom_12 : decode cX8_letterFrom 12 = .ok (.goto 4, 3) := by decide +kernel
theorem dX8_letterFrom_15 : decode cX8_letterFrom 15 = .ok (.iload_n 2, 1) := by decide +kernel
theorem dX8_letterFrom_16 : decode cX8_letterFrom 16 = .ok (.istore 4, 2) := by decide +kernel
theorem dX8_letterFrom_18 : decode cX8_letterFrom 18 = .ok (.lload_n 0, 1) := by decide +kernel
theorem dX8_letterFrom_19 : decode cX8_letterFrom 19 = .ok (.iconst 3, 1) := by decide +kernel
theorem dX8_letterFrom_20 : decode cX8_letterFrom 20 = .ok (.iload 4, 2) := by decide +kernel
theorem dX8_letterFrom_22 : decode cX8_letterFrom 22 = .ok (.imul, 1) := by decide +kernel
theorem dX8_letterFrom_23 : decode cX8_letterFrom 23 = .ok (.lushr, 1) := by decide +kernel
theorem dX8_letterFrom_24 : decode cX8_letterFrom 24 = .ok (.l2i, 1) := by decide +kernel
theorem dX8_letterFrom_25 : decode cX8_letterFrom 25 = .ok (.bipush 7, 2) := by decide +kernel
theorem dX8_letterFrom_27 : decode cX8_letterFrom 27 = .ok (.iand, 1) := by decide +kernel
theorem dX8_letterFrom_28 : decode cX8_letterFrom 28 = .ok (.ireturn, 1) := by decide +kernel
theorem dX8_make_0 : decode cX8_make 0 = .ok (.iload_n 0, 1) := by decide +kernel
theorem dX8_make_1 : decode cX8_make 1 = .ok (.i2l, 1) := by decide +kernel
theorem dX8_make_2 : decode cX8_make 2 = .ok (.bipush 36, 2) := by decide +kernel
theorem dX8_make_4 : decode cX8_make 4 = .ok (.lshl, 1) := by decide +kernel
theorem dX8_make_5 : decode cX8_make 5 = .ok (.lload_n 1, 1) := by decide +kernel
theorem dX8_make_6 : decode cX8_make 6 = .ok (.lor, 1) := by decide +kernel
theorem dX8_make_7 : decode cX8_make 7 = .ok (.lreturn, 1) := by decide +kernel
theorem dX8_lettersOf_0 : decode cX8_lettersOf 0 = .ok (.lload_n 0, 1) := by decide +kernel
theorem dX8_lettersOf_1 : decode cX8_lettersOf 1 = .ok (.bipush 12, 2) := by decide +kernel
theorem dX8_lettersOf_3 : decode cX8_lettersOf 3 = .ok (.invokestatic 15, 3) := by decide +kernel
theorem dX8_lettersOf_6 : decode cX8_lettersOf 6 = .ok (.lreturn, 1) := by decide +kernel
theorem dX8_lowest_0 : decode cX8_lowest 0 = .ok (.lload_n 0, 1) := by decide +kernel
theorem dX8_lowest_1 : decode cX8_lowest 1 = .ok (.lconst 1, 1) := by decide +kernel
theorem dX8_lowest_2 : decode cX8_lowest 2 = .ok (.iconst 3, 1) := by decide +kernel
theorem dX8_lowest_3 : decode cX8_lowest 3 = .ok (.iload_n 2, 1) := by decide +kernel
theorem dX8_lowest_4 : decode cX8_lowest 4 = .ok (.imul, 1) := by decide +kernel
theorem dX8_lowest_5 : decode cX8_lowest 5 = .ok (.lshl, 1) := by decide +kernel
theorem dX8_lowest_6 : decode cX8_lowest 6 = .ok (.lconst 1, 1) := by decide +kernel
theorem dX8_lowest_7 : decode cX8_lowest 7 = .ok (.lsub, 1) := by decide +kernel
theorem dX8_lowest_8 : decode cX8_lowest 8 = .ok (.land, 1) := by decide +kernel
theorem dX8_lowest_9 : decode cX8_lowest 9 = .ok (.lreturn, 1) := by decide +kernel
theorem dX8_extended_0 : decode cX8_extended 0 = .ok (.lload_n 0, 1) := by decide +kernel
theorem dX8_extended_1 : decode cX8_extended 1 = .ok (.invokestatic 9, 3) := by decide +kernel
theorem dX8_extended_4 : decode cX8_extended 4 = .ok (.iconst 1, 1) := by decide +kernel
theorem dX8_extended_5 : decode cX8_extended 5 = .ok (.iadd, 1) := by decide +kernel
theorem dX8_extended_6 : decode cX8_extended 6 = .ok (.lload_n 0, 1) := by decide +kernel
theorem dX8_extended_7 : decode cX8_extended 7 = .ok (.invokestatic 19, 3) := by decide +kernel
theorem dX8_extended_10 : decode cX8_extended 10 = .ok (.iconst 3, 1) := by decide +kernel
theorem dX8_extended_11 : decode cX8_extended 11 = .ok (.lshl, 1) := by decide +kernel
