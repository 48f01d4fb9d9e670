theorem dX8_heardBy_81 : decode cX8_heardBy 81 = .ok (.iconst 1, 1) := by decide +kernel
theorem dX8_heardBy_82 : decode cX8_heardBy 82 = .ok (.isub, 1) := by decide +kernel
theorem dX8_heardBy_83 : decode cX8_heardBy 83 = .ok (.invokevirtual 72, 3) := by decide +kernel
theorem dX8_heardBy_86 : decode cX8_heardBy 86 = .ok (.iconst 4, 1) := by decide +kernel
theorem dX8_heardBy_87 : decode cX8_heardBy 87 = .ok (.invokevirtual 75, 3) := by decide +kernel
theorem dX8_heardBy_90 : decode cX8_heardBy 90 = .ok (.ifCond .eq 6, 3) := by decide +kernel
theorem dX8_heardBy_93 : decode cX8_heardBy 93 = .ok (.iinc 5 1, 3) := by decide +kernel
theorem dX8_heardBy_96 : decode cX8_heardBy 96 = .ok (.iinc 6 1, 3) := by decide +kernel
theorem dX8_heardBy_99 : decode cX8_heardBy 99 = .ok (.goto (-77), 3) := by decide +kernel
theorem dX8_heardBy_102 : decode cX8_heardBy 102 = .ok (.iload 5, 2) := by decide +kernel
theorem dX8_heardBy_104 : decode cX8_heardBy 104 = .ok (.ireturn, 1) := by decide +kernel
theorem dX9_init_0 : decode cX9_init 0 = .ok (.aload_n 0, 1) := by decide +kernel
theorem dX9_init_1 : decode cX9_init 1 = .ok (.invokespecial 3, 3) := by decide +kernel
theorem dX9_init_4 : decode cX9_init 4 = .ok (.aload_n 0, 1) := by decide +kernel
theorem dX9_init_5 : decode cX9_init 5 = .ok (.iconst 3, 1) := by decide +kernel
theorem dX9_init_6 : decode cX9_init 6 = .ok (.newarray .int, 2) := by decide +kernel
theorem dX9_init_8 : decode cX9_init 8 = .ok (.putfield 9, 3) := by decide +kernel
theorem dX9_init_11 : decode cX9_init 11 = .ok (.aload_n 0, 1) := by decide +kernel
theorem dX9_init_12 : decode cX9_init 12 = .ok (.sipush 160, 3) := by decide +kernel
theorem dX9_init_15 : decode cX9_init 15 = .ok (.newarray .int, 2) := by decide +kernel
theorem dX9_init_17 : decode cX9_init 17 = .ok (.putfield 15, 3) := by decide +kernel
theorem dX9_init_20 : decode cX9_init 20 = .ok (.aload_n 0, 1) := by decide +kernel
theorem dX9_init_21 : decode cX9_init 21 = .ok (.bipush 12, 2) := by decide +kernel
theorem dX9_init_23 : decode cX9_init 23 = .ok (.sipush 161, 3) := by decide +kernel
theorem dX9_init_26 : decode cX9_init 26 = .ok (.multianewarray 18 2, 4) := by decide +kernel
theorem dX9_init_30 : decode cX9_init 30 = .ok (.putfield 20, 3) := by decide +kernel
theorem dX9_init_33 : decode cX9_init 33 = .ok (.aload_n 0, 1) := by decide +kernel
theorem dX9_init_34 : decode cX9_init 34 = .ok (.sipush 160, 3) := by decide +kernel
theorem dX9_init_37 : decode cX9_init 37 = .ok (.newarray .int, 2) := by decide +kernel
theorem dX9_init_39 : decode cX9_init 39 = .ok (.putfield 23, 3) := by decide +kernel
theorem dX9_init_42 : decode cX9_init 42 = .ok (.aload_n 0, 1) := by decide +kernel
theorem dX9_init_43 : decode cX9_init 43 = .ok (.new 26, 3) := by decide +kernel
theorem dX9_init_46 : decode cX9_init 46 = .ok (.dup, 1) := by decide +kernel
theorem dX9_init_47 : decode cX9_init 47 = .ok (.aload_n 0, 1) := by decide +kernel
theorem dX9_init_48 : decode cX9_init 48 = .ok (.getfield 15, 3) := by decide +kernel
theorem dX9_init_51 : decode cX9_init 51 = .ok (.aload_n 0, 1) := by decide +kernel
theorem dX9_init_52 : decode cX9_init 52 = .ok (.getfield 20, 3) := by decide +kernel
theorem dX9_init_55 : decode cX9_init 55 = .ok (.iconst 0, 1) := by decide +kernel
theorem dX9_init_56 : decode cX9_init 56 = .ok (.aaload, 1) := by decide +kernel
theorem dX9_init_57 : decode cX9_init 57 = .ok (.invokespecial 28, 3) := by decide +kernel
theorem dX9_init_60 : decode cX9_init 60 = .ok (.putfield 31, 3) := by decide +kernel
theorem dX9_init_63 : decode cX9_init 63 = .ok (.aload_n 0, 1) := by decide +kernel
theorem dX9_init_64 : decode cX9_init 64 = .ok (.ldc 35, 2) := by decide +kernel
theorem dX9_init_66 : decode cX9_init 66 = .ok (.invokevirtual 37, 3) := by decide +kernel
theorem dX9_init_69 : decode cX9_init 69 = .ok (.sipush 160, 3) := by decide +kernel
theorem dX9_init_72 : decode cX9_init 72 = .ok (.invokestatic 43, 3) := by decide +kernel
theorem dX9_init_75 : decode cX9_init 75 = .ok (.putfield 49, 3) := by decide +kernel
theorem dX9_init_78 : decode cX9_init 78 = .ok (.iconst 0, 1) := by decide +kernel
theorem dX9_init_79 : decode cX9_init 79 = .ok (.istore_n 1, 1) := by decide +kernel
theorem dX9_init_80 : decode cX9_init 80 = .ok (.iload_n 1, 1) := by decide +kernel
theorem dX9_init_81 : decode cX9_init 81 = .ok (.aload_n 0, 1) := by decide +kernel
theorem dX9_init_82 : decode cX9_init 82 = .ok (.getfield 49, 3) := by decide +kernel
theorem dX9_init_85 : decode cX9_init 85 = .ok (.if_icmp .ge 21, 3) := by decide +kernel
theorem dX9_init_88 : decode cX9_init 88 = .ok (.aload_n 0, 1) := by decide +kernel
theorem dX9_init_89 : decode cX9_init 89 = .ok (.getfield 15, 3) := by decide +kernel
theorem dX9_init_92 : decode cX9_init 92 = .ok (.iload_n 1, 1) := by decide +kernel
theorem dX9_init_93 : decode cX9_init 93 = .ok (.ldc 35, 2) := by decide +kernel
theorem dX9_init_95 : decode cX9_init 95 = .ok (.iload_n 1, 1) := by decide +kernel
theorem dX9_init_96 : decode cX9_init 96 = .ok (.invokevirtual 53, 3) := by decide +kernel
theorem dX9_init_99 : decode cX9_init 99 = .ok (.iastore, 1) := by decide +kernel
theorem dX9_init_100 : decode cX9_init 100 = .ok (.iinc 1 1, 3) := by decide +kernel
theorem dX9_init_103 : decode cX9_init 103 = .ok (.goto (-23), 3) := by decide +kernel
theorem dX9_init_106 : decode cX9_init 106 = .ok (.aload_n 0, 1) := by decide +kernel
theorem dX9_init_107 : decode cX9_init 107 = .ok (.invokevirtual 57, 3) := by decide +kernel
theorem dX9_init_110 : decode cX9_init 110 = .ok (.pop, 1) := by decide +kernel
theorem dX9_init_111 : decode cX9_init 111 = .ok (.return_, 1) := by decide +kernel
theorem dX9_has_0 : decode cX9_has 0 = .ok (.iload_n 1, 1) := by decide +kernel
theorem dX9_has_1 : decode cX9_has 1 = .ok (.iconst 0, 1) := by decide +kernel
theorem dX9_has_2 : decode cX9_has 2 = .ok (.aload_n 0, 1) := by decide +kernel
theorem dX9_has_3 : decode cX9_has 3 = .ok (.getfield 60, 3) := by decide +kernel
theorem dX9_has_6 : decode cX9_has 6 = .ok (.iconst 1, 1) := by decide +kernel
theorem dX9_has_7 : decode cX9_has 7 = .ok (.isub, 1) := by decide +kernel
theorem dX9_has_8 : decode cX9_has 8 = .ok (.invokestatic 63, 3) := by decide +kernel
theorem dX9_has_11 : decode cX9_has 11 = .ok (.ireturn, 1) := by decide +kernel
theorem dX9_feedTape_0 : decode cX9_feedTape 0 = .ok (.aload_n 0, 1) := by decide +kernel
theorem dX9_feedTape_1 : decode cX9_feedTape 1 = .ok (.getfield 49, 3) := by decide +kernel
theorem dX9_feedTape_4 : decode cX9_feedTape 4 = .ok (.iload_n 1, 1) := by decide +kernel
theorem dX9_feedTape_5 : decode cX9_feedTape 5 = .ok (.iadd, 1) := by decide +kernel
theorem dX9_feedTape_6 : decode cX9_feedTape 6 = .ok (.sipush 160, 3) := by decide +kernel
theorem dX9_feedTape_9 : decode cX9_feedTape 9 = .ok (.if_icmp .le 6, 3) := by decide +kernel
theorem dX9_feedTape_12 : decode cX9_feedTape 12 = .ok (.bipush (-4), 2) := by decide +kernel
theorem dX9_feedTape_14 : decode cX9_feedTape 14 = .ok (.ireturn, 1) := by decide +kernel
theorem dX9_feedTape_15 : decode cX9_feedTape 15 = .ok (.iconst 0, 1) := by decide +kernel
theorem dX9_feedTape_16 : decode cX9_feedTape 16 = .ok (.istore 4, 2) := by decide +kernel
theorem dX9_feedTape_18 : decode cX9_feedTape 18 = .ok (.iload 4, 2) := by decide +kernel
theorem dX9_feedTape_20 : decode cX9_feedTape 20 = .ok (.iload_n 1, 1) := by decide +kernel
theorem dX9_feedTape_21 : decode cX9_feedTape 21 = .ok (.if_icmp .ge 37, 3) := by decide +kernel
theorem dX9_feedTape_24 : decode cX9_feedTape 24 = .ok (.aload_n 0, 1) := by decide +kernel
theorem dX9_feedTape_25 : decode cX9_feedTape 25 = .ok (.getfield 15, 3) := by decide +kernel
theorem dX9_feedTape_28 : decode cX9_feedTape 28 = .ok (.aload_n 0, 1) := by decide +kernel
theorem dX9_feedTape_29 : decode cX9_feedTape 29 = .ok (.dup, 1) := by decide +kernel
theorem dX9_feedTape_30 : decode cX9_feedTape 30 = .ok (.getfield 49, 3) := by decide +kernel
theorem dX9_feedTape_33 : decode cX9_feedTape 33 = .ok (.dup_x1, 1) := by decide +kernel
theorem dX9_feedTape_34 : decode cX9_feedTape 34 = .ok (.iconst 1, 1) := by decide +kernel
theorem dX9_feedTape_35 : decode cX9_feedTape 35 = .ok (.iadd, 1) := by decide +kernel
theorem dX9_feedTape_36 : decode cX9_feedTape 36 = .ok (.putfield 49, 3) := by decide +kernel
theorem dX9_feedTape_39 : decode cX9_feedTape 39 = .ok (.lload_n 2, 1) := by decide +kernel
theorem dX9_feedTape_40 : decode cX9_feedTape 40 = .ok (.bipush 8, 2) := by decide +kernel
theorem dX9_feedTape_42 : decode cX9_feedTape 42 = .ok (.iload 4, 2) := by decide +kernel
theorem dX9_feedTape_44 : decode cX9_feedTape 44 = .ok (.imul, 1) := by decide +kernel
theorem dX9_feedTape_45 : decode cX9_feedTape 45 = .ok (.lushr, 1) := by decide +kernel
theorem dX9_feedTape_46 : decode cX9_feedTape 46 = .ok (.ldc2_w 67, 3) := by decide +kernel
theorem dX9_feedTape_49 : decode cX9_feedTape 49 = .ok (.land, 1) := by decide +kernel
theorem dX9_feedTape_50 : decode cX9_feedTape 50 = .ok (.l2i, 1) := by decide +kernel
theorem dX9_feedTape_51 : decode cX9_feedTape 51 = .ok (.iastore, 1) := by decide +kernel
theorem dX9_feedTape_52 : decode cX9_feedTape 52 = .ok (.iinc 4 1, 3) := by decide +kernel
theorem dX9_feedTape_55 : decode cX9_feedTape 55 = .ok (.goto (-37), 3) := by decide +kernel
theorem dX9_feedTape_58 : decode cX9_feedTape 58 = .ok (.aload_n 0, 1) := by decide +kernel
theorem dX9_feedTape_59 : decode cX9_feedTape 59 = .ok (.getfield 49, 3) := by decide +kernel
theorem dX9_feedTape_62 : decode cX9_feedTape 62 = .ok (.ireturn, 1) := by decide +kernel
theorem dX9_readTape_0 : decode cX9_readTape 0 = .ok (.aload_n 0, 1) := by decide +kernel
theorem dX9_readTape_1 : decode cX9_readTape 1 = .ok (.getfield 60, 3) := by decide +kernel
theorem dX9_readTape_4 : decode cX9_readTape 4 = .ok (.bipush 6, 2) := by decide +kernel
theorem dX9_readTape_6 : decode cX9_readTape 6 = .ok (.if_icmp .lt 6, 3) := by decide +kernel
theorem dX9_readTape_9 : decode cX9_readTape 9 = .ok (.bipush (-4), 2) := by decide +kernel
theorem dX9_readTape_11 : decode cX9_readTape 11 = .ok (.ireturn, 1) := by decide +kernel
theorem dX9_readTape_12 : decode cX9_readTape 12 = .ok (.aload_n 0, 1) := by decide +kernel
theorem dX9_readTape_13 : decode cX9_readTape 13 = .ok (.getfield 60, 3) := by decide +kernel
theorem dX9_readTape_16 : decode cX9_readTape 16 = .ok (.iconst 2, 1) := by decide +kernel
theorem dX9_readTape_17 : decode cX9_readTape 17 = .ok (.imul, 1) := by decide +kernel
theorem dX9_readTape_18 : decode cX9_readTape 18 = .ok (.istore_n 1, 1) := by decide +kernel
theorem dX9_readTape_19 : decode cX9_readTape 19 = .ok (.aload_n 0, 1) := by decide +kernel
theorem dX9_readTape_20 : decode cX9_readTape 20 = .ok (.getfield 31, 3) := by decide +kernel
theorem dX9_readTape_23 : decode cX9_readTape 23 = .ok (.aload_n 0, 1) := by decide +kernel
theorem dX9_readTape_24 : decode cX9_readTape 24 = .ok (.getfield 49, 3) := by decide +kernel
theorem dX9_readTape_27 : decode cX9_readTape 27 = .ok (.aload_n 0, 1) := by decide +kernel
theorem dX9_readTape_28 : decode cX9_readTape 28 = .ok (.getfield 20, 3) := by decide +kernel
theorem dX9_readTape_31 : decode cX9_readTape 31 = .ok (.iload_n 1, 1) := by decide +kernel
theorem dX9_readTape_32 : decode cX9_readTape 32 = .ok (.iconst 0, 1) := by decide +kernel
theorem dX9_readTape_33 : decode cX9_readTape 33 = .ok (.iadd, 1) := by decide +kernel
theorem dX9_readTape_34 : decode cX9_readTape 34 = .ok (.aaload, 1) := by decide +kernel
theorem dX9_readTape_35 : decode cX9_readTape 35 = .ok (.aload_n 0, 1) := by decide +kernel
theorem dX9_readTape_36 : decode cX9_readTape 36 = .ok (.getfield 20, 3) := by decide +kernel
theorem dX9_readTape_39 : decode cX9_readTape 39 = .ok (.iload_n 1, 1) := by decide +kernel
theorem dX9_readTape_40 : decode cX9_readTape 40 = .ok (.iconst 1, 1) := by decide +kernel
theorem dX9_readTape_41 : decode cX9_readTape 41 = .ok (.iadd, 1) := by decide +kernel
theorem dX9_readTape_42 : decode cX9_readTape 42 = .ok (.aaload, 1) := by decide +kernel
theorem dX9_readTape_43 : decode cX9_readTape 43 = .ok (.invokevirtual 69, 3) := by decide +kernel
theorem dX9_readTape_46 : decode cX9_readTape 46 = .ok (.istore_n 2, 1) := by decide +kernel
theorem dX9_readTape_47 : decode cX9_readTape 47 = .ok (.aload_n 0, 1) := by decide +kernel
theorem dX9_readTape_48 : decode cX9_readTape 48 = .ok (.iconst 0, 1) := by decide +kernel
theorem dX9_readTape_49 : decode cX9_readTape 49 = .ok (.putfield 49, 3) := by decide +kernel
theorem dX9_readTape_52 : decode cX9_readTape 52 = .ok (.iload_n 2, 1) := by decide +kernel
theorem dX9_readTape_53 : decode cX9_readTape 53 = .ok (.iconst (-1), 1) := by decide +kernel
theorem dX9_readTape_54 : decode cX9_readTape 54 = .ok (.if_icmp .ne 17, 3) := by decide +kernel
theorem dX9_readTape_57 : decode cX9_readTape 57 = .ok (.aload_n 0, 1) := by decide +kernel
theorem dX9_readTape_58 : decode cX9_readTape 58 = .ok (.dup, 1) := by decide +kernel
theorem dX9_readTape_59 : decode cX9_readTape 59 = .ok (.getfield 60, 3) := by decide +kernel
theorem dX9_readTape_62 : decode cX9_readTape 62 = .ok (.dup_x1, 1) := by decide +kernel
theorem dX9_readTape_63 : decode cX9_readTape 63 = .ok (.iconst 1, 1) := by decide +kernel
theorem dX9_readTape_64 : decode cX9_readTape 64 = .ok (.iadd, 1) := by decide +kernel
theorem dX9_readTape_65 : decode cX9_readTape 65 = .ok (.putfield 60, 3) := by decide +kernel
theorem dX9_readTape_68 : decode cX9_readTape 68 = .ok (.goto 7, 3) := by decide +kernel
theorem dX9_readTape_71 : decode cX9_readTape 71 = .ok (.bipush (-100), 2) := by decide +kernel
theorem dX9_readTape_73 : decode cX9_readTape 73 = .ok (.iload_n 2, 1) := by decide +kernel
theorem dX9_readTape_74 : decode cX9_readTape 74 = .ok (.isub, 1) := by decide +kernel
theorem dX9_readTape_75 : decode cX9_readTape 75 = .ok (.ireturn, 1) := by decide +kernel
theorem dX9_valueOf_0 : decode cX9_valueOf 0 = .ok (.aload_n 0, 1) := by decide +kernel
theorem dX9_valueOf_1 : decode cX9_valueOf 1 = .ok (.getfield 20, 3) := by decide +kernel
theorem dX9_valueOf_4 : decode cX9_valueOf 4 = .ok (.iload_n 1, 1) := by decide +kernel
theorem dX9_valueOf_5 : decode cX9_valueOf 5 = .ok (.iconst 2, 1) := by decide +kernel
theorem dX9_valueOf_6 : decode cX9_valueOf 6 = .ok (.imul, 1) := by decide +kernel
theorem dX9_valueOf_7 : decode cX9_valueOf 7 = .ok (.iload_n 2, 1) := by decide +kernel
theorem dX9_valueOf_8 : decode cX9_valueOf 8 = .ok (.iadd, 1) := by decide +kernel
theorem dX9_valueOf_9 : decode cX9_valueOf 9 = .ok (.aaload, 1) := by decide +kernel
theorem dX9_valueOf_10 : decode cX9_valueOf 10 = .ok (.astore 4, 2) := by decide +kernel
theorem dX9_valueOf_12 : decode cX9_valueOf 12 = .ok (.iconst 0, 1) := by decide +kernel
theorem dX9_valueOf_13 : decode cX9_valueOf 13 = .ok (.istore 5, 2) := by decide +kernel
theorem dX9_valueOf_15 : decode cX9_valueOf 15 = .ok (.iconst 0, 1) := by decide +kernel
theorem dX9_valueOf_16 : decode cX9_valueOf 16 = .ok (.istore 6, 2) := by decide +kernel
theorem dX9_valueOf_18 : decode cX9_valueOf 18 = .ok (.iload 6, 2) := by decide +kernel
theorem dX9_valueOf_20 : decode cX9_valueOf 20 = .ok (.aload 4, 2) := by decide +kernel
theorem dX9_valueOf_22 : decode cX9_valueOf 22 = .ok (.arraylength, 1) := by decide +kernel
theorem dX9_valueOf_23 : decode cX9_valueOf 23 = .ok (.if_icmp .ge 165, 3) := by decide +kernel
theorem dX9_valueOf_26 : decode cX9_valueOf 26 = .ok (.aload 4, 2) := by decide +kernel
theorem dX9_valueOf_28 : decode cX9_valueOf 28 = .ok (.iload 6, 2) := by decide +kernel
theorem dX9_valueOf_30 : decode cX9_valueOf 30 = .ok (.iaload, 1) := by decide +kernel
theorem dX9_valueOf_31 : decode cX9_valueOf 31 = .ok (.iconst (-1), 1) := by decide +kernel
theorem dX9_valueOf_32 : decode cX9_valueOf 32 = .ok (.if_icmp .eq 156, 3) := by decide +kernel
theorem dX9_valueOf_35 : decode cX9_valueOf 35 = .ok (.aload 4, 2) := by decide +kernel
theorem dX9_valueOf_37 : decode cX9_valueOf 37 = .ok (.iload 6, 2) := by decide +kernel
theorem dX9_valueOf_39 : decode cX9_valueOf 39 = .ok (.iaload, 1) := by decide +kernel
theorem dX9_valueOf_40 : decode cX9_valueOf 40 = .ok (.istore 7, 2) := by decide +kernel
theorem dX9_valueOf_42 : decode cX9_valueOf 42 = .ok (.iload 7, 2) := by decide +kernel
theorem dX9_valueOf_44 : decode cX9_valueOf 44 = .ok (.ifCond .ge 12, 3) := by decide +kernel
theorem dX9_valueOf_47 : decode cX9_valueOf 47 = .ok (.iload 7, 2) := by decide +kernel
theorem dX9_valueOf_49 : decode cX9_valueOf 49 = .ok (.ineg, 1) := by decide +kernel
theorem dX9_valueOf_50 : decode cX9_valueOf 50 = .ok (.invokestatic 73, 3) := by decide +kernel
theorem dX9_valueOf_53 : decode cX9_valueOf 53 = .ok (.ifCond .eq 43, 3) := by decide +kernel
theorem dX9_valueOf_56 : decode cX9_valueOf 56 = .ok (.iload 5, 2) := by decide +kernel
theorem dX9_valueOf_58 : decode cX9_valueOf 58 = .ok (.aload_n 0, 1) := by decide +kernel
theorem dX9_valueOf_59 : decode cX9_valueOf 59 = .ok (.getfield 23, 3) := by decide +kernel
theorem dX9_valueOf_62 : decode cX9_valueOf 62 = .ok (.arraylength, 1) := by decide +kernel
theorem dX9_valueOf_63 : decode cX9_valueOf 63 = .ok (.if_icmp .ge 119, 3) := by decide +kernel
theorem dX9_valueOf_66 : decode cX9_valueOf 66 = .ok (.aload_n 0, 1) := by decide +kernel
theorem dX9_valueOf_67 : decode cX9_valueOf 67 = .ok (.getfield 23, 3) := by decide +kernel
theorem dX9_valueOf_70 : decode cX9_valueOf 70 = .ok (.iload 5, 2) := by decide +kernel
theorem dX9_valueOf_72 : decode cX9_valueOf 72 = .ok (.iinc 5 1, 3) := by decide +kernel
theorem dX9_valueOf_75 : decode cX9_valueOf 75 = .ok (.iload 7, 2) := by decide +kernel
theorem dX9_valueOf_77 : decode cX9_valueOf 77 = .ok (.ifCond .lt 8, 3) := by decide +kernel
theorem dX9_valueOf_80 : decode cX9_valueOf 80 = .ok (.iload 7, 2) := by decide +kernel
theorem dX9_valueOf_82 : decode cX9_valueOf 82 = .ok (.goto 10, 3) := by decide +kernel
theorem dX9_valueOf_85 : decode cX9_valueOf 85 = .ok (.aload_n 3, 1) := by decide +kernel
theorem dX9_valueOf_86 : decode cX9_valueOf 86 = .ok (.iload 7, 2) := by decide +kernel
theorem dX9_valueOf_88 : decode cX9_valueOf 88 = .ok (.ineg, 1) := by decide +kernel
theorem dX9_valueOf_89 : decode cX9_valueOf 89 = .ok (.iconst 3, 1) := by decide +kernel
theorem dX9_valueOf_90 : decode cX9_valueOf 90 = .ok (.isub, 1) := by decide +kernel
theorem dX9_valueOf_91 : decode cX9_valueOf 91 = .ok (.iaload, 1) := by decide +kernel
theorem dX9_valueOf_92 : decode cX9_valueOf 92 = .ok (.iastore, 1) := by decide +kernel
theorem dX9_valueOf_93 : decode cX9_valueOf 93 = .ok (.goto 89, 3) := by decide +kernel
theorem dX9_valueOf_96 : decode cX9_valueOf 96 = .ok (.iload 7, 2) := by decide +kernel
theorem dX9_valueOf_98 : decode cX9_valueOf 98 = .ok (.bipush (-13), 2) := by decide +kernel
theorem dX9_valueOf_100 : decode cX9_valueOf 100 = .ok (.if_icmp .eq 10, 3) := by decide +kernel
theorem dX9_valueOf_103 : decode cX9_valueOf 103 = .ok (.iload 7, 2) := by decide +kernel
theorem dX9_valueOf_105 : decode cX9_valueOf 105 = .ok (.bipush (-14), 2) := by decide +kernel
theorem dX9_valueOf_107 : decode cX9_valueOf 107 = .ok (.if_icmp .ne 35, 3) := by decide +kernel
theorem dX9_valueOf_110 : decode cX9_valueOf 110 = .ok (.iload 5, 2) := by decide +kernel
theorem dX9_valueOf_112 : decode cX9_valueOf 112 = .ok (.ifCond .le 70, 3) := by decide +kernel
theorem dX9_valueOf_115 : decode cX9_valueOf 115 = .ok (.aload_n 0, 1) := by decide +kernel
theorem dX9_valueOf_116 : decode cX9_valueOf 116 = .ok (.getfield 23, 3) := by decide +kernel
theorem dX9_valueOf_119 : decode cX9_valueOf 119 = .ok (.iload 5, 2) := by decide +kernel
theorem dX9_valueOf_121 : decode cX9_valueOf 121 = .ok (.iconst 1, 1) := by decide +kernel
theorem dX9_valueOf_122 : decode cX9_valueOf 122 = .ok (.isub, 1) := by decide +kernel
theorem dX9_valueOf_123 : decode cX9_valueOf 123 = .ok (.iload 7, 2) := by decide +kernel
theorem dX9_valueOf_125 : decode cX9_valueOf 125 = .ok (.ineg, 1) := by decide +kernel
theorem dX9_valueOf_126 : decode cX9_valueOf 126 = .ok (.aload_n 0, 1) := by decide +kernel
theorem dX9_valueOf_127 : decode cX9_valueOf 127 = .ok (.getfield 23, 3) := by decide +kernel
theorem dX9_valueOf_130 : decode cX9_valueOf 130 = .ok (.iload 5, 2) := by decide +kernel
theorem dX9_valueOf_132 : decode cX9_valueOf 132 = .ok (.iconst 1, 1) := by decide +kernel
theorem dX9_valueOf_133 : decode cX9_valueOf 133 = .ok (.isub, 1) := by decide +kernel
theorem dX9_valueOf_134 : decode cX9_valueOf 134 = .ok (.iaload, 1) := by decide +kernel
theorem dX9_valueOf_135 : decode cX9_valueOf 135 = .ok (.invokestatic 77, 3) := by decide +kernel
theorem dX9_valueOf_138 : decode cX9_valueOf 138 = .ok (.iastore, 1) := by decide +kernel
theorem dX9_valueOf_139 : decode cX9_valueOf 139 = .ok (.goto 43, 3) := by decide +kernel
theorem dX9_valueOf_142 : decode cX9_valueOf 142 = .ok (.iload 5, 2) := by decide +kernel
theorem dX9_valueOf_144 : decode cX9_valueOf 144 = .ok (.iconst 1, 1) := by decide +kernel
theorem dX9_valueOf_145 : decode cX9_valueOf 145 = .ok (.if_icmp .le 37, 3) := by decide +kernel
theorem dX9_valueOf_148 : decode cX9_valueOf 148 = .ok (.iinc 5 (-1), 3) := by decide +kernel
theorem dX9_valueOf_151 : decode cX9_valueOf 151 = .ok (.aload_n 0, 1) := by decide +kernel
theorem dX9_valueOf_152 : decode cX9_valueOf 152 = .ok (.getfield 23, 3) := by decide +kernel
theorem dX9_valueOf_155 : decode cX9_valueOf 155 = .ok (.iload 5, 2) := by decide +kernel
theorem dX9_valueOf_157 : decode cX9_valueOf 157 = .ok (.iconst 1, 1) := by decide +kernel
theorem dX9_valueOf_158 : decode cX9_valueOf 158 = .ok (.isub, 1) := by decide +kernel
theorem dX9_valueOf_159 : decode cX9_valueOf 159 = .ok (.iload 7, 2) := by decide +kernel
theorem dX9_valueOf_161 : decode cX9_valueOf 161 = .ok (.ineg, 1) := by decide +kernel
theorem dX9_valueOf_162 : decode cX9_valueOf 162 = .ok (.aload_n 0, 1) := by decide +kernel
theorem dX9_valueOf_163 : decode cX9_valueOf 163 = .ok (.getfield 23, 3) := by decide +kernel
theorem dX9_valueOf_166 : decode cX9_valueOf 166 = .ok (.iload 5, 2) := by decide +kernel
theorem dX9_valueOf_168 : decode cX9_valueOf 168 = .ok (.iconst 1, 1) := by decide +kernel
theorem dX9_valueOf_169 : decode cX9_valueOf 169 = .ok (.isub, 1) := by decide +kernel
theorem dX9_valueOf_170 : decode cX9_valueOf 170 = .ok (.iaload, 1) := by decide +kernel
theorem dX9_valueOf_171 : decode cX9_valueOf 171 = .ok (.aload_n 0, 1) := by decide +kernel
theorem dX9_valueOf_172 : decode cX9_valueOf 172 = .ok (.getfield 23, 3) := by decide +kernel
theorem dX9_valueOf_175 : decode cX9_valueOf 175 = .ok (.iload 5, 2) := by decide +kernel
theorem dX9_valueOf_177 : decode cX9_valueOf 177 = .ok (.iaload, 1) := by decide +kernel
theorem dX9_valueOf_178 : decode cX9_valueOf 178 = .ok (.invokestatic 80, 3) := by decide +kernel
theorem dX9_valueOf_181 : decode cX9_valueOf 181 = .ok (.iastore, 1) := by decide +kernel
theorem dX9_valueOf_182 : decode cX9_valueOf 182 = .ok (.iinc 6 1, 3) := by decide +kernel
theorem dX9_valueOf_185 : decode cX9_valueOf 185 = .ok (.goto (-167), 3) := by decide +kernel
theorem dX9_valueOf_188 : decode cX9_valueOf 188 = .ok (.iload 5, 2) := by decide +kernel
theorem dX9_valueOf_190 : decode cX9_valueOf 190 = .ok (.ifCond .le 15, 3) := by decide +kernel
theorem dX9_valueOf_193 : decode cX9_valueOf 193 = .ok (.aload_n 0, 1) := by decide +kernel
theorem dX9_valueOf_194 : decode cX9_valueOf 194 = .ok (.getfield 23, 3) := by decide +kernel
theorem dX9_valueOf_197 : decode cX9_valueOf 197 = .ok (.iload 5, 2) := by decide +kernel
theorem dX9_valueOf_199 : decode cX9_valueOf 199 = .ok (.iconst 1, 1) := by decide +kernel
theorem dX9_valueOf_200 : decode cX9_valueOf 200 = .ok (.isub, 1) := by decide +kernel
theorem dX9_valueOf_201 : decode cX9_valueOf 201 = .ok (.iaload, 1) := by decide +kernel
theorem dX9_valueOf_202 : decode cX9_valueOf 202 = .ok (.goto 4, 3) := by decide +kernel
theorem dX9_valueOf_205 : decode cX9_valueOf 205 = .ok (.iconst 0, 1) := by decide +kernel
theorem dX9_valueOf_206 : decode cX9_valueOf 206 = .ok (.ireturn, 1) := by decide +kernel
theorem dX9_ofOne_0 : decode cX9_ofOne 0 = .ok (.iload_n 0, 1) := by decide +kernel
theorem dX9_ofOne_1 : decode cX9_ofOne 1 = .ok (.bipush 13, 2) := by decide +kernel
theorem dX9_ofOne_3 : decode cX9_ofOne 3 = .ok (.if_icmp .ne 18, 3) := by decide +kernel
theorem dX9_ofOne_6 : decode cX9_ofOne 6 = .ok (.iload_n 1, 1) := by decide +kernel
theorem dX9_ofOne_7 : decode cX9_ofOne 7 = .ok (.ifCond .ne 7, 3) := by decide +kernel
theorem dX9_ofOne_10 : decode cX9_ofOne 10 = .ok (.iconst 1, 1) := by decide +kernel
theorem dX9_ofOne_11 : decode cX9_ofOne 11 = .ok (.goto 4, 3) := by decide +kernel
theorem dX9_ofOne_14 : decode cX9_ofOne 14 = .ok (.iconst 0, 1) := by decide +kernel
theorem dX9_ofOne_15 : decode cX9_ofOne 15 = .ok (.invokestatic 84, 3) := by decide +kernel
theorem dX9_ofOne_18 : decode cX9_ofOne 18 = .ok (.goto 5, 3) := by decide +kernel
theorem dX9_ofOne_21 : decode cX9_ofOne 21 = .ok (.iload_n 1, 1) := by decide +kernel
theorem dX9_ofOne_22 : decode cX9_ofOne 22 = .ok (.ineg, 1) := by decide +kernel
theorem dX9_ofOne_23 : decode cX9_ofOne 23 = .ok (.ireturn, 1) := by decide +kernel
theorem dX9_ofTwo_0 : decode cX9_ofTwo 0 = .ok (.iload_n 0, 1) := by decide +kernel
theorem dX9_ofTwo_1 : decode cX9_ofTwo 1 = .ok (.lookupswitch 129 #[(11, 59), (12, 76), (43, 121), (45, 125), (60, 93), (61, 107)], 59) := by decide +kernel
theorem dX9_ofTwo_60 : decode cX9_ofTwo 60 = .ok (.iload_n 1, 1) := by decide +kernel
theorem dX9_ofTwo_61 : decode cX9_ofTwo 61 = .ok (.ifCond .ne 7, 3) := by decide +kernel
theorem dX9_ofTwo_64 : decode cX9_ofTwo 64 = .ok (.iload_n 2, 1) := by decide +kernel
theorem dX9_ofTwo_65 : decode cX9_ofTwo 65 = .ok (.ifCond .eq 7, 3) := by decide +kernel
theorem dX9_ofTwo_68 : decode cX9_ofTwo 68 = .ok (.iconst 1, 1) := by decide +kernel
theorem dX9_ofTwo_69 : decode cX9_ofTwo 69 = .ok (.goto 4, 3) := by decide +kernel
theorem dX9_ofTwo_72 : decode cX9_ofTwo 72 = .ok (.iconst 0, 1) := by decide +kernel
theorem dX9_ofTwo_73 : decode cX9_ofTwo 73 = .ok (.invokestatic 84, 3) := by decide +kernel
theorem dX9_ofTwo_76 : decode cX9_ofTwo 76 = .ok (.ireturn, 1) := by decide +kernel
theorem dX9_ofTwo_77 : decode cX9_ofTwo 77 = .ok (.iload_n 1, 1) := by decide +kernel
theorem dX9_ofTwo_78 : decode cX9_ofTwo 78 = .ok (.ifCond .eq 11, 3) := by decide +kernel
theorem dX9_ofTwo_81 : decode cX9_ofTwo 81 = .ok (.iload_n 2, 1) := by decide +kernel
theorem dX9_ofTwo_82 : decode cX9_ofTwo 82 = .ok (.ifCond .eq 7, 3) := by decide +kernel
theorem dX9_ofTwo_85 : decode cX9_ofTwo 85 = .ok (.iconst 1, 1) := by decide +kernel
theorem dX9_ofTwo_86 : decode cX9_ofTwo 86 = .ok (.goto 4, 3) := by decide +kernel
theorem dX9_ofTwo_89 : decode cX9_ofTwo 89 = .ok (.iconst 0, 1) := by decide +kernel
theorem dX9_ofTwo_90 : decode cX9_ofTwo 90 = .ok (.invokestatic 84, 3) := by decide +kernel
theorem dX9_ofTwo_93 : decode cX9_ofTwo 93 = .ok (.ireturn, 1) := by decide +kernel
theorem dX9_ofTwo_94 : decode cX9_ofTwo 94 = .ok (.iload_n 1, 1) := by decide +kernel
theorem dX9_ofTwo_95 : decode cX9_ofTwo 95 = .ok (.iload_n 2, 1) := by decide +kernel
theorem dX9_ofTwo_96 : decode cX9_ofTwo 96 = .ok (.if_icmp .ge 7, 3) := by decide +kernel
theorem dX9_ofTwo_99 : decode cX9_ofTwo 99 = .ok (.iconst 1, 1) := by decide +kernel
theorem dX9_ofTwo_100 : decode cX9_ofTwo 100 = .ok (.goto 4, 3) := by decide +kernel
theorem dX9_ofTwo_103 : decode cX9_ofTwo 103 = .ok (.iconst 0, 1) := by decide +kernel
theorem dX9_ofTwo_104 : decode cX9_ofTwo 104 = .ok (.invokestatic 84, 3) := by decide +kernel
theorem dX9_ofTwo_107 : decode cX9_ofTwo 107 = .ok (.ireturn, 1) := by decide +kernel
theorem dX9_ofTwo_108 : decode cX9_ofTwo 108 = .ok (.iload_n 1, 1) := by decide +kernel
theorem dX9_ofTwo_109 : decode cX9_ofTwo 109 = .ok (.iload_n 2, 1) := by decide +kernel
theorem dX9_ofTwo_110 : decode cX9_ofTwo 110 = .ok (.if_icmp .ne 7, 3) := by decide +kernel
theorem dX9_ofTwo_113 : decode cX9_ofTwo 113 = .ok (.iconst 1, 1) := by decide +kernel
theorem dX9_ofTwo_114 : decode cX9_ofTwo 114 = .ok (.goto 4, 3) := by decide +kernel
theorem dX9_ofTwo_117 : decode cX9_ofTwo 117 = .ok (.iconst 0, 1) := by decide +kernel
theorem dX9_ofTwo_118 : decode cX9_ofTwo 118 = .ok (.invokestatic 84, 3) := by decide +kernel
theorem dX9_ofTwo_121 : decode cX9_ofTwo 121 = .ok (.ireturn, 1) := by decide +kernel
theorem dX9_ofTwo_122 : decode cX9_ofTwo 122 = .ok (.iload_n 1, 1) := by decide +kernel
theorem dX9_ofTwo_123 : decode cX9_ofTwo 123 = .ok (.iload_n 2, 1) := by decide +kernel
theorem dX9_ofTwo_124 : decode cX9_ofTwo 124 = .ok (.iadd, 1) := by decide +kernel
theorem dX9_ofTwo_125 : decode cX9_ofTwo 125 = .ok (.ireturn, 1) := by decide +kernel
theorem dX9_ofTwo_126 : decode cX9_ofTwo 126 = .ok (.iload_n 1, 1) := by decide +kernel
theorem dX9_ofTwo_127 : decode cX9_ofTwo 127 = .ok (.iload_n 2, 1) := by decide +kernel
theorem dX9_ofTwo_128 : decode cX9_ofTwo 128 = .ok (.isub, 1) := by decide +kernel
theorem dX9_ofTwo_129 : decode cX9_ofTwo 129 = .ok (.ireturn, 1) := by decide +kernel
theorem dX9_ofTwo_130 : decode cX9_ofTwo 130 = .ok (.iload_n 1, 1) := by decide +kernel
theorem dX9_ofTwo_131 : decode cX9_ofTwo 131 = .ok (.iload_n 2, 1) := by decide +kernel
theorem dX9_ofTwo_132 : decode cX9_ofTwo 132 = .ok (.imul, 1) := by decide +kernel
theorem dX9_ofTwo_133 : decode cX9_ofTwo 133 = .ok (.ireturn, 1) := by decide +kernel
theorem dX10_init_0 : decode cX10_init 0 = .ok (.aload_n 0, 1) := by decide +kernel
theorem dX10_init_1 : decode cX10_init 1 = .ok (.invokespecial 3, 3) := by decide +kernel
theorem dX10_init_4 : decode cX10_init 4 = .ok (.aload_n 0, 1) := by decide +kernel
theorem dX10_init_5 : decode cX10_init 5 = .ok (.bipush 64, 2) := by decide +kernel
theorem dX10_init_7 : decode cX10_init 7 = .ok (.newarray .int, 2) := by decide +kernel
theorem dX10_init_9 : decode cX10_init 9 = .ok (.putfield 9, 3) := by decide +kernel
theorem dX10_init_12 : decode cX10_init 12 = .ok (.aload_n 0, 1) := by decide +kernel
theorem dX10_init_13 : decode cX10_init 13 = .ok (.bipush 8, 2) := by decide +kernel
theorem dX10_init_15 : decode cX10_init 15 = .ok (.newarray .int, 2) := by decide +kernel
theorem dX10_init_17 : decode cX10_init 17 = .ok (.putfield 15, 3) := by decide +kernel
theorem dX10_init_20 : decode cX10_init 20 = .ok (.aload_n 0, 1) := by decide +kernel
theorem dX10_init_21 : decode cX10_init 21 = .ok (.iconst 1, 1) := by decide +kernel
theorem dX10_init_22 : decode cX10_init 22 = .ok (.putfield 18, 3) := by decide +kernel
theorem dX10_init_25 : decode cX10_init 25 = .ok (.aload_n 0, 1) := by decide +kernel
theorem dX10_init_26 : decode cX10_init 26 = .ok (.getfield 15, 3) := by decide +kernel
theorem dX10_init_29 : decode cX10_init 29 = .ok (.iconst 4, 1) := by decide +kernel
theorem dX10_init_30 : decode cX10_init 30 = .ok (.invokestatic 22, 3) := by decide +kernel
theorem dX10_init_33 : decode cX10_init 33 = .ok (.return_, 1) := by decide +kernel
theorem dX10_sideOf_0 : decode cX10_sideOf 0 = .ok (.iload_n 1, 1) := by decide +kernel
theorem dX10_sideOf_1 : decode cX10_sideOf 1 = .ok (.bipush 8, 2) := by decide +kernel
theorem dX10_sideOf_3 : decode cX10_sideOf 3 = .ok (.irem, 1) := by decide +kernel
theorem dX10_sideOf_4 : decode cX10_sideOf 4 = .ok (.aload_n 0, 1) := by decide +kernel
theorem dX10_sideOf_5 : decode cX10_sideOf 5 = .ok (.getfield 15, 3) := by decide +kernel
theorem dX10_sideOf_8 : decode cX10_sideOf 8 = .ok (.iload_n 1, 1) := by decide +kernel
theorem dX10_sideOf_9 : decode cX10_sideOf 9 = .ok (.bipush 8, 2) := by decide +kernel
theorem dX10_sideOf_11 : decode cX10_sideOf 11 = .ok (.idiv, 1) := by decide +kernel
theorem dX10_sideOf_12 : decode cX10_sideOf 12 = .ok (.iaload, 1) := by decide +kernel
theorem dX10_sideOf_13 : decode cX10_sideOf 13 = .ok (.if_icmp .ge 7, 3) := by decide +kernel
theorem dX10_sideOf_16 : decode cX10_sideOf 16 = .ok (.iconst 0, 1) := by decide +kernel
theorem dX10_sideOf_17 : decode cX10_sideOf 17 = .ok (.goto 4, 3) := by decide +kernel
theorem dX10_sideOf_20 : decode cX10_sideOf 20 = .ok (.iconst 1, 1) := by decide +kernel
theorem dX10_sideOf_21 : decode cX10_sideOf 21 = .ok (.ireturn, 1) := by decide +kernel
theorem dX10_farOf_0 : decode cX10_farOf 0 = .ok (.iload_n 1, 1) := by decide +kernel
theorem dX10_farOf_1 : decode cX10_farOf 1 = .ok (.bipush 8, 2) := by decide +kernel
theorem dX10_farOf_3 : decode cX10_farOf 3 = .ok (.irem, 1) := by decide +kernel
theorem dX10_farOf_4 : decode cX10_farOf 4 = .ok (.aload_n 0, 1) := by decide +kernel
theorem dX10_farOf_5 : decode cX10_farOf 5 = .ok (.getfield 15, 3) := by decide +kernel
theorem dX10_farOf_8 : decode cX10_farOf 8 = .ok (.iload_n 1, 1) := by decide +kernel
theorem dX10_farOf_9 : decode cX10_farOf 9 = .ok (.bipush 8, 2) := by decide +kernel
theorem dX10_farOf_11 : decode cX10_farOf 11 = .ok (.idiv, 1) := by decide +kernel
theorem dX10_farOf_12 : decode cX10_farOf 12 = .ok (.iaload, 1) := by decide +kernel
theorem dX10_farOf_13 : decode cX10_farOf 13 = .ok (.isub, 1) := by decide +kernel
theorem dX10_farOf_14 : decode cX10_farOf 14 = .ok (.istore_n 2, 1) := by decide +kernel
theorem dX10_farOf_15 : decode cX10_farOf 15 = .ok (.iload_n 2, 1) := by decide +kernel
theorem dX10_farOf_16 : decode cX10_farOf 16 = .ok (.ifCond .ge 10, 3) := by decide +kernel
theorem dX10_farOf_19 : decode cX10_farOf 19 = .ok (.iload_n 2, 1) := by decide +kernel
theorem dX10_farOf_20 : decode cX10_farOf 20 = .ok (.ineg, 1) := by decide +kernel
theorem dX10_farOf_21 : decode cX10_farOf 21 = .ok (.iconst 1, 1) := by decide +kernel
theorem dX10_farOf_22 : decode cX10_farOf 22 = .ok (.isub, 1) := by decide +kernel
theorem dX10_farOf_23 : decode cX10_farOf 23 = .ok (.goto 4, 3) := by decide +kernel
theorem dX10_farOf_26 : decode cX10_farOf 26 = .ok (.iload_n 2, 1) := by decide +kernel
theorem dX10_farOf_27 : decode cX10_farOf 27 = .ok (.ireturn, 1) := by decide +kernel
theorem dX10_isStrip_0 : decode cX10_isStrip 0 = .ok (.aload_n 0, 1) := by decide +kernel
theorem dX10_isStrip_1 : decode cX10_isStrip 1 = .ok (.iload_n 1, 1) := by decide +kernel
theorem dX10_isStrip_2 : decode cX10_isStrip 2 = .ok (.invokevirtual 28, 3) := by decide +kernel
theorem dX10_isStrip_5 : decode cX10_isStrip 5 = .ok (.aload_n 0, 1) := by decide +kernel
theorem dX10_isStrip_6 : decode cX10_isStrip 6 = .ok (.getfield 18, 3) := by decide +kernel
theorem dX10_isStrip_9 : decode cX10_isStrip 9 = .ok (.if_icmp .ge 7, 3) := by decide +kernel
theorem dX10_isStrip_12 : decode cX10_isStrip 12 = .ok (.iconst 1, 1) := by decide +kernel
theorem dX10_isStrip_13 : decode cX10_isStrip 13 = .ok (.goto 4, 3) := by decide +kernel
theorem dX10_isStrip_16 : decode cX10_isStrip 16 = .ok (.iconst 0, 1) := by decide +kernel
theorem dX10_isStrip_17 : decode cX10_isStrip 17 = .ok (.ireturn, 1) := by decide +kernel
theorem dX10_sightFrom_0 : decode cX10_sightFrom 0 = .ok (.iconst 0, 1) := by decide +kernel
theorem dX10_sightFrom_1 : decode cX10_sightFrom 1 = .ok (.iload_n 2, 1) := by decide +kernel
theorem dX10_sightFrom_2 : decode cX10_sightFrom 2 = .ok (.aload_n 0, 1) := by decide +kernel
theorem dX10_sightFrom_3 : decode cX10_sightFrom 3 = .ok (.getfield 9, 3) := by decide +kernel
theorem dX10_sightFrom_6 : decode cX10_sightFrom 6 = .ok (.iload_n 1, 1) := by decide +kernel
theorem dX10_sightFrom_7 : decode cX10_sightFrom 7 = .ok (.iaload, 1) := by decide +kernel
theorem dX10_sightFrom_8 : decode cX10_sightFrom 8 = .ok (.iload_n 3, 1) := by decide +kernel
theorem dX10_sightFrom_9 : decode cX10_sightFrom 9 = .ok (.invokestatic 32, 3) := by decide +kernel
theorem dX10_sightFrom_12 : decode cX10_sightFrom 12 = .ok (.invokestatic 36, 3) := by decide +kernel
theorem dX10_sightFrom_15 : decode cX10_sightFrom 15 = .ok (.aload_n 0, 1) := by decide +kernel
theorem dX10_sightFrom_16 : decode cX10_sightFrom 16 = .ok (.getfield 42, 3) := by decide +kernel
theorem dX10_sightFrom_19 : decode cX10_sightFrom 19 = .ok (.isub, 1) := by decide +kernel
theorem dX10_sightFrom_20 : decode cX10_sightFrom 20 = .ok (.invokestatic 45, 3) := by decide +kernel
theorem dX10_sightFrom_23 : decode cX10_sightFrom 23 = .ok (.ireturn, 1) := by decide +kernel
theorem dX10_canSee_0 : decode cX10_canSee 0 = .ok (.iload_n 1, 1) := by decide +kernel
theorem dX10_canSee_1 : decode cX10_canSee 1 = .ok (.bipush 8, 2) := by decide +kernel
theorem dX10_canSee_3 : decode cX10_canSee 3 = .ok (.irem, 1) := by decide +kernel
theorem dX10_canSee_4 : decode cX10_canSee 4 = .ok (.istore 4, 2) := by decide +kernel
theorem dX10_canSee_6 : decode cX10_canSee 6 = .ok (.iload_n 1, 1) := by decide +kernel
theorem dX10_canSee_7 : decode cX10_canSee 7 = .ok (.bipush 8, 2) := by decide +kernel
theorem dX10_canSee_9 : decode cX10_canSee 9 = .ok (.idiv, 1) := by decide +kernel
theorem dX10_canSee_10 : decode cX10_canSee 10 = .ok (.istore 5, 2) := by decide +kernel
theorem dX10_canSee_12 : decode cX10_canSee 12 = .ok (.iload_n 2, 1) := by decide +kernel
theorem dX10_canSee_13 : decode cX10_canSee 13 = .ok (.bipush 8, 2) := by decide +kernel
theorem dX10_canSee_15 : decode cX10_canSee 15 = .ok (.irem, 1) := by decide +kernel
theorem dX10_canSee_16 : decode cX10_canSee 16 = .ok (.iload 4, 2) := by decide +kernel
theorem dX10_canSee_18 : decode cX10_canSee 18 = .ok (.isub, 1) := by decide +kernel
theorem dX10_canSee_19 : decode cX10_canSee 19 = .ok (.istore 6, 2) := by decide +kernel
theorem dX10_canSee_21 : decode cX10_canSee 21 = .ok (.iload_n 2, 1) := by decide +kernel
theorem dX10_canSee_22 : decode cX10_canSee 22 = .ok (.bipush 8, 2) := by decide +kernel
theorem dX10_canSee_24 : decode cX10_canSee 24 = .ok (.idiv, 1) := by decide +kernel
theorem dX10_canSee_25 : decode cX10_canSee 25 = .ok (.iload 5, 2) := by decide +kernel
theorem dX10_canSee_27 : decode cX10_canSee 27 = .ok (.isub, 1) := by decide +kernel
theorem dX10_canSee_28 : decode cX10_canSee 28 = .ok (.istore 7, 2) := by decide +kernel
theorem dX10_canSee_30 : decode cX10_canSee 30 = .ok (.iload 6, 2) := by decide +kernel
theorem dX10_canSee_32 : decode cX10_canSee 32 = .ok (.invokestatic 51, 3) := by decide +kernel
theorem dX10_canSee_35 : decode cX10_canSee 35 = .ok (.iload 7, 2) := by decide +kernel
theorem dX10_canSee_37 : decode cX10_canSee 37 = .ok (.invokestatic 51, 3) := by decide +kernel
theorem dX10_canSee_40 : decode cX10_canSee 40 = .ok (.invokestatic 45, 3) := by decide +kernel
theorem dX10_canSee_43 : decode cX10_canSee 43 = .ok (.istore 8, 2) := by decide +kernel
theorem dX10_canSee_45 : decode cX10_canSee 45 = .ok (.iload 8, 2) := by decide +kernel
theorem dX10_canSee_47 : decode cX10_canSee 47 = .ok (.iload_n 3, 1) := by decide +kernel
theorem dX10_canSee_48 : decode cX10_canSee 48 = .ok (.if_icmp .le 5, 3) := by decide +kernel
theorem dX10_canSee_51 : decode cX10_canSee 51 = .ok (.iconst 0, 1) := by decide +kernel
theorem dX10_canSee_52 : decode cX10_canSee 52 = .ok (.ireturn, 1) := by decide +kernel
theorem dX10_canSee_53 : decode cX10_canSee 53 = .ok (.aload_n 0, 1) := by decide +kernel
theorem dX10_canSee_54 : decode cX10_canSee 54 = .ok (.getfield 9, 3) := by decide +kernel
theorem dX10_canSee_57 : decode cX10_canSee 57 = .ok (.iload_n 1, 1) := by decide +kernel
theorem dX10_canSee_58 : decode cX10_canSee 58 = .ok (.iaload, 1) := by decide +kernel
theorem dX10_canSee_59 : decode cX10_canSee 59 = .ok (.aload_n 0, 1) := by decide +kernel
theorem dX10_canSee_60 : decode cX10_canSee 60 = .ok (.getfield 9, 3) := by decide +kernel
theorem dX10_canSee_63 : decode cX10_canSee 63 = .ok (.iload_n 2, 1) := by decide +kernel
theorem dX10_canSee_64 : decode cX10_canSee 64 = .ok (.iaload, 1) := by decide +kernel
theorem dX10_canSee_65 : decode cX10_canSee 65 = .ok (.invokestatic 45, 3) := by decide +kernel
theorem dX10_canSee_68 : decode cX10_canSee 68 = .ok (.istore 9, 2) := by decide +kernel
theorem dX10_canSee_70 : decode cX10_canSee 70 = .ok (.iconst 1, 1) := by decide +kernel
theorem dX10_canSee_71 : decode cX10_canSee 71 = .ok (.istore 10, 2) := by decide +kernel
theorem dX10_canSee_73 : decode cX10_canSee 73 = .ok (.iload 10, 2) := by decide +kernel
theorem dX10_canSee_75 : decode cX10_canSee 75 = .ok (.iload 8, 2) := by decide +kernel
theorem dX10_canSee_77 : decode cX10_canSee 77 = .ok (.if_icmp .ge 51, 3) := by decide +kernel
theorem dX10_canSee_80 : decode cX10_canSee 80 = .ok (.iload 5, 2) := by decide +kernel
theorem dX10_canSee_82 : decode cX10_canSee 82 = .ok (.iload 7, 2) := by decide +kernel
theorem dX10_canSee_84 : decode cX10_canSee 84 = .ok (.iload 10, 2) := by decide +kernel
theorem dX10_canSee_86 : decode cX10_canSee 86 = .ok (.imul, 1) := by decide +kernel
theorem dX10_canSee_87 : decode cX10_canSee 87 = .ok (.iload 8, 2) := by decide +kernel
theorem dX10_canSee_89 : decode cX10_canSee 89 = .ok (.idiv, 1) := by decide +kernel
theorem dX10_canSee_90 : decode cX10_canSee 90 = .ok (.iadd, 1) := by decide +kernel
theorem dX10_canSee_91 : decode cX10_canSee 91 = .ok (.bipush 8, 2) := by decide +kernel
theorem dX10_canSee_93 : decode cX10_canSee 93 = .ok (.imul, 1) := by decide +kernel
theorem dX10_canSee_94 : decode cX10_canSee 94 = .ok (.iload 4, 2) := by decide +kernel
theorem dX10_canSee_96 : decode cX10_canSee 96 = .ok (.iadd, 1) := by decide +kernel
theorem dX10_canSee_97 : decode cX10_canSee 97 = .ok (.iload 6, 2) := by decide +kernel
theorem dX10_canSee_99 : decode cX10_canSee 99 = .ok (.iload 10, 2) := by decide +kernel
theorem dX10_canSee_101 : decode cX10_canSee 101 = .ok (.imul, 1) := by decide +kernel
theorem dX10_canSee_102 : decode cX10_canSee 102 = .ok (.iload 8, 2) := by decide +kernel
theorem dX10_canSee_104 : decode cX10_canSee 104 = .ok (.idiv, 1) := by decide +kernel
theorem dX10_canSee_105 : decode cX10_canSee 105 = .ok (.iadd, 1) := by decide +kernel
theorem dX10_canSee_106 : decode cX10_canSee 106 = .ok (.istore 11, 2) := by decide +kernel
theorem dX10_canSee_108 : decode cX10_canSee 108 = .ok (.aload_n 0, 1) := by decide +kernel
theorem dX10_canSee_109 : decode cX10_canSee 109 = .ok (.getfield 9, 3) := by decide +kernel
theorem dX10_canSee_112 : decode cX10_canSee 112 = .ok (.iload 11, 2) := by decide +kernel
theorem dX10_canSee_114 : decode cX10_canSee 114 = .ok (.iaload, 1) := by decide +kernel
theorem dX10_canSee_115 : decode cX10_canSee 115 = .ok (.iload 9, 2) := by decide +kernel
theorem dX10_canSee_117 : decode cX10_canSee 117 = .ok (.if_icmp .le 5, 3) := by decide +kernel
theorem dX10_canSee_120 : decode cX10_canSee 120 = .ok (.iconst 0, 1) := by decide +kernel
theorem dX10_canSee_121 : decode cX10_canSee 121 = .ok (.ireturn, 1) := by decide +kernel
theorem dX10_canSee_122 : decode cX10_canSee 122 = .ok (.iinc 10 1, 3) := by decide +kernel
theorem dX10_canSee_125 : decode cX10_canSee 125 = .ok (.goto (-52), 3) := by decide +kernel
theorem dX10_canSee_128 : decode cX10_canSee 128 = .ok (.iconst 1, 1) := by decide +kernel
theorem dX10_canSee_129 : decode cX10_canSee 129 = .ok (.ireturn, 1) := by decide +kernel
theorem dX10_seenFrom_0 : decode cX10_seenFrom 0 = .ok (.lconst 0, 1) := by decide +kernel
theorem dX10_seenFrom_1 : decode cX10_seenFrom 1 = .ok (.lstore_n 3, 1) := by decide +kernel
theorem dX10_seenFrom_2 : decode cX10_seenFrom 2 = .ok (.iconst 0, 1) := by decide +kernel
theorem dX10_seenFrom_3 : decode cX10_seenFrom 3 = .ok (.istore 5, 2) := by decide +kernel
theorem dX10_seenFrom_5 : decode cX10_seenFrom 5 = .ok (.iload 5, 2) := by decide +kernel
theorem dX10_seenFrom_7 : decode cX10_seenFrom 7 = .ok (.bipush 64, 2) := by decide +kernel
theorem dX10_seenFrom_9 : decode cX10_seenFrom 9 = .ok (.if_icmp .ge 27, 3) := by decide +kernel
theorem dX10_seenFrom_12 : decode cX10_seenFrom 12 = .ok (.aload_n 0, 1) := by decide +kernel
theorem dX10_seenFrom_13 : decode cX10_seenFrom 13 = .ok (.iload_n 1, 1) := by decide +kernel
theorem dX10_seenFrom_14 : decode cX10_seenFrom 14 = .ok (.iload 5, 2) := by decide +kernel
theorem dX10_seenFrom_16 : decode cX10_seenFrom 16 = .ok (.iload_n 2, 1) := by decide +kernel
theorem dX10_seenFrom_17 : decode cX10_seenFrom 17 = .ok (.invokevirtual 54, 3) := by decide +kernel
theorem dX10_seenFrom_20 : decode cX10_seenFrom 20 = .ok (.ifCond .eq 10, 3) := by decide +kernel
theorem dX10_seenFrom_23 : decode cX10_seenFrom 23 = .ok (.lload_n 3, 1) := by decide +kernel
theorem dX10_seenFrom_24 : decode cX10_seenFrom 24 = .ok (.lconst 1, 1) := by decide +kernel
theorem dX10_seenFrom_25 : decode cX10_seenFrom 25 = .ok (.iload 5, 2) := by decide +kernel
theorem dX10_seenFrom_27 : decode cX10_seenFrom 27 = .ok (.lshl, 1) := by decide +kernel
theorem dX10_seenFrom_28 : decode cX10_seenFrom 28 = .ok (.lor, 1) := by decide +kernel
theorem dX10_seenFrom_29 : decode cX10_seenFrom 29 = .ok (.lstore_n 3, 1) := by decide +kernel
theorem dX10_seenFrom_30 : decode cX10_seenFrom 30 = .ok (.iinc 5 1, 3) := by decide +kernel
theorem dX10_seenFrom_33 : decode cX10_seenFrom 33 = .ok (.goto (-28), 3) := by decide +kernel
theorem dX10_seenFrom_36 : decode cX10_seenFrom 36 = .ok (.lload_n 3, 1) := by decide +kernel
theorem dX10_seenFrom_37 : decode cX10_seenFrom 37 = .ok (.lreturn, 1) := by decide +kernel
theorem dX11_init_0 : decode cX11_init 0 = .ok (.aload_n 0, 1) := by decide +kernel
theorem dX11_init_1 : decode cX11_init 1 = .ok (.invokespecial 1, 3) := by decide +kernel
theorem dX11_init_4 : decode cX11_init 4 = .ok (.aload_n 0, 1) := by decide +kernel
theorem dX11_init_5 : decode cX11_init 5 = .ok (.new 7, 3) := by decide +kernel
theorem dX11_init_8 : decode cX11_init 8 = .ok (.dup, 1) := by decide +kernel
theorem dX11_init_9 : decode cX11_init 9 = .ok (.invokespecial 9, 3) := by decide +kernel
theorem dX11_init_12 : decode cX11_init 12 = .ok (.putfield 10, 3) := by decide +kernel
theorem dX11_init_15 : decode cX11_init 15 = .ok (.aload_n 0, 1) := by decide +kernel
theorem dX11_init_16 : decode cX11_init 16 = .ok (.new 16, 3) := by decide +kernel
theorem dX11_init_19 : decode cX11_init 19 = .ok (.dup, 1) := by decide +kernel
theorem dX11_init_20 : decode cX11_init 20 = .ok (.aload_n 0, 1) := by decide +kernel
theorem dX11_init_21 : decode cX11_init 21 = .ok (.getfield 10, 3) := by decide +kernel
theorem dX11_init_24 : decode cX11_init 24 = .ok (.invokespecial 18, 3) := by decide +kernel
theorem dX11_init_27 : decode cX11_init 27 = .ok (.putfield 21, 3) := by decide +kernel
theorem dX11_init_30 : decode cX11_init 30 = .ok (.aload_n 0, 1) := by decide +kernel
theorem dX11_init_31 : decode cX11_init 31 = .ok (.new 25, 3) := by decide +kernel
theorem dX11_init_34 : decode cX11_init 34 = .ok (.dup, 1) := by decide +kernel
theorem dX11_init_35 : decode cX11_init 35 = .ok (.invokespecial 27, 3) := by decide +kernel
theorem dX11_init_38 : decode cX11_init 38 = .ok (.putfield 28, 3) := by decide +kernel
theorem dX11_init_41 : decode cX11_init 41 = .ok (.aload_n 0, 1) := by decide +kernel
theorem dX11_init_42 : decode cX11_init 42 = .ok (.new 32, 3) := by decide +kernel
theorem dX11_init_45 : decode cX11_init 45 = .ok (.dup, 1) := by decide +kernel
theorem dX11_init_46 : decode cX11_init 46 = .ok (.aload_n 0, 1) := by decide +kernel
theorem dX11_init_47 : decode cX11_init 47 = .ok (.getfield 10, 3) := by decide +kernel
theorem dX11_init_50 : decode cX11_init 50 = .ok (.aload_n 0, 1) := by decide +kernel
theorem dX11_init_51 : decode cX11_init 51 = .ok (.getfield 21, 3) := by decide +kernel
theorem dX11_init_54 : decode cX11_init 54 = .ok (.aload_n 0, 1) := by decide +kernel
theorem dX11_init_55 : decode cX11_init 55 = .ok (.getfield 28, 3) := by decide +kernel
theorem dX11_init_58 : decode cX11_init 58 = .ok (.invokespecial 34, 3) := by decide +kernel
theorem dX11_init_61 : decode cX11_init 61 = .ok (.putfield 37, 3) := by decide +kernel
theorem dX11_init_64 : decode cX11_init 64 = .ok (.aload_n 0, 1) := by decide +kernel
theorem dX11_init_65 : decode cX11_init 65 = .ok (.new 41, 3) := by decide +kernel
theorem dX11_init_68 : decode cX11_init 68 = .ok (.dup, 1) := by decide +kernel
theorem dX11_init_69 : decode cX11_init 69 = .ok (.aload_n 0, 1) := by decide +kernel
theorem dX11_init_70 : decode cX11_init 70 = .ok (.getfield 21, 3) := by decide +kernel
theorem dX11_init_73 : decode cX11_init 73 = .ok (.invokespecial 43, 3) := by decide +kernel
theorem dX11_init_76 : decode cX11_init 76 = .ok (.putfield 46, 3) := by decide +kernel
theorem dX11_init_79 : decode cX11_init 79 = .ok (.aload_n 0, 1) := by decide +kernel
theorem dX11_init_80 : decode cX11_init 80 = .ok (.new 50, 3) := by decide +kernel
theorem dX11_init_83 : decode cX11_init 83 = .ok (.dup, 1) := by decide +kernel
theorem dX11_init_84 : decode cX11_init 84 = .ok (.aload_n 0, 1) := by decide +kernel
theorem dX11_init_85 : decode cX11_init 85 = .ok (.getfield 21, 3) := by decide +kernel
theorem dX11_init_88 : decode cX11_init 88 = .ok (.aload_n 0, 1) := by decide +kernel
theorem dX11_init_89 : decode cX11_init 89 = .ok (.getfield 37, 3) := by decide +kernel
theorem dX11_init_92 : decode cX11_init 92 = .ok (.invokespecial 52, 3) := by decide +kernel
theorem dX11_init_95 : decode cX11_init 95 = .ok (.putfield 55, 3) := by decide +kernel
theorem dX11_init_98 : decode cX11_init 98 = .ok (.aload_n 0, 1) := by decide +kernel
theorem dX11_init_99 : decode cX11_init 99 = .ok (.new 59, 3) := by decide +kernel
theorem dX11_init_102 : decode cX11_init 102 = .ok (.dup, 1) := by decide +kernel
theorem dX11_init_103 : decode cX11_init 103 = .ok (.aload_n 0, 1) := by decide +kernel
theorem dX11_init_104 : decode cX11_init 104 = .ok (.getfield 10, 3) := by decide +kernel
theorem dX11_init_107 : decode cX11_init 107 = .ok (.aload_n 0, 1) := by decide +kernel
theorem dX11_init_108 : decode cX11_init 108 = .ok (.getfield 21, 3) := by decide +kernel
theorem dX11_init_111 : decode cX11_init 111 = .ok (.invokespecial 61, 3) := by decide +kernel
theorem dX11_init_114 : decode cX11_init 114 = .ok (.putfield 64, 3) := by decide +kernel
theorem dX11_init_117 : decode cX11_init 117 = .ok (.aload_n 0, 1) := by decide +kernel
theorem dX11_init_118 : decode cX11_init 118 = .ok (.new 68, 3) := by decide +kernel
theorem dX11_init_121 : decode cX11_init 121 = .ok (.dup, 1) := by decide +kernel
theorem dX11_init_122 : decode cX11_init 122 = .ok (.invokespecial 70, 3) := by decide +kernel
theorem dX11_init_125 : decode cX11_init 125 = .ok (.putfield 71, 3) := by decide +kernel
theorem dX11_init_128 : decode cX11_init 128 = .ok (.aload_n 0, 1) := by decide +kernel
theorem dX11_init_129 : decode cX11_init 129 = .ok (.iconst 4, 1) := by decide +kernel
theorem dX11_init_130 : decode cX11_init 130 = .ok (.anewarray 75, 3) := by decide +kernel
theorem dX11_init_133 : decode cX11_init 133 = .ok (.dup, 1) := by decide +kernel
theorem dX11_init_134 : decode cX11_init 134 = .ok (.iconst 0, 1) := by decide +kernel
theorem dX11_init_135 : decode cX11_init 135 = .ok (.new 75, 3) := by decide +kernel
theorem dX11_init_138 : decode cX11_init 138 = .ok (.dup, 1) := by decide +kernel
theorem dX11_init_139 : decode cX11_init 139 = .ok (.invokespecial 77, 3) := by decide +kernel
theorem dX11_init_142 : decode cX11_init 142 = .ok (.aastore, 1) := by decide +kernel
theorem dX11_init_143 : decode cX11_init 143 = .ok (.dup, 1) := by decide +kernel
theorem dX11_init_144 : decode cX11_init 144 = .ok (.iconst 1, 1) := by decide +kernel
theorem dX11_init_145 : decode cX11_init 145 = .ok (.new 75, 3) := by decide +kernel
theorem dX11_init_148 : decode cX11_init 148 = .ok (.dup, 1) := by decide +kernel
theorem dX11_init_149 : decode cX11_init 149 = .ok (.invokespecial 77, 3) := by decide +kernel
theorem dX11_init_152 : decode cX11_init 152 = .ok (.aastore, 1) := by decide +kernel
theorem dX11_init_153 : decode cX11_init 153 = .ok (.dup, 1) := by decide +kernel
theorem dX11_init_154 : decode cX11_init 154 = .ok (.iconst 2, 1) := by decide +kernel
theorem dX11_init_155 : decode cX11_init 155 = .ok (.new 75, 3) := by decide +kernel
theorem dX11_init_158 : decode cX11_init 158 = .ok (.dup, 1) := by decide +kernel
theorem dX11_init_159 : decode cX11_init 159 = .ok (.invokespecial 77, 3) := by decide +kernel
theorem dX11_init_162 : decode cX11_init 162 = .ok (.aastore, 1) := by decide +kernel
theorem dX11_init_163 : decode cX11_init 163 = .ok (.dup, 1) := by decide +kernel
theorem dX11_init_164 : decode cX11_init 164 = .ok (.iconst 3, 1) := by decide +kernel
theorem dX11_init_165 : decode cX11_init 165 = .ok (.new 75, 3) := by decide +kernel
theorem dX11_init_168 : decode cX11_init 168 = .ok (.dup, 1) := by decide +kernel
theorem dX11_init_169 : decode cX11_init 169 = .ok (.invokespecial 77, 3) := by decide +kernel
theorem dX11_init_172 : decode cX11_init 172 = .ok (.aastore, 1) := by decide +kernel
theorem dX11_init_173 : decode cX11_init 173 = .ok (.putfield 78, 3) := by decide +kernel
theorem dX11_init_176 : decode cX11_init 176 = .ok (.return_, 1) := by decide +kernel
theorem dX11_height_0 : decode cX11_height 0 = .ok (.iload_n 1, 1) := by decide +kernel
theorem dX11_height_1 : decode cX11_height 1 = .ok (.invokestatic 82, 3) := by decide +kernel
theorem dX11_height_4 : decode cX11_height 4 = .ok (.ifCond .eq 13, 3) := by decide +kernel
theorem dX11_height_7 : decode cX11_height 7 = .ok (.iload_n 2, 1) := by decide +kernel
theorem dX11_height_8 : decode cX11_height 8 = .ok (.iconst 0, 1) := by decide +kernel
theorem dX11_height_9 : decode cX11_height 9 = .ok (.bipush 9, 2) := by decide +kernel
theorem dX11_height_11 : decode cX11_height 11 = .ok (.invokestatic 86, 3) := by decide +kernel
theorem dX11_height_14 : decode cX11_height 14 = .ok (.ifCond .ne 6, 3) := by decide +kernel
theorem dX11_height_17 : decode cX11_height 17 = .ok (.bipush (-2), 2) := by decide +kernel
theorem dX11_height_19 : decode cX11_height 19 = .ok (.ireturn, 1) := by decide +kernel
theorem dX11_height_20 : decode cX11_height 20 = .ok (.aload_n 0, 1) := by decide +kernel
theorem dX11_height_21 : decode cX11_height 21 = .ok (.getfield 10, 3) := by decide +kernel
theorem dX11_height_24 : decode cX11_height 24 = .ok (.getfield 90, 3) := by decide +kernel
theorem dX11_height_27 : decode cX11_height 27 = .ok (.iload_n 1, 1) := by decide +kernel
theorem dX11_height_28 : decode cX11_height 28 = .ok (.iaload, 1) := by decide +kernel
theorem dX11_height_29 : decode cX11_height 29 = .ok (.istore_n 3, 1) := by decide +kernel
theorem dX11_height_30 : decode cX11_height 30 = .ok (.aload_n 0, 1) := by decide +kernel
theorem dX11_height_31 : decode cX11_height 31 = .ok (.getfield 10, 3) := by decide +kernel
theorem dX11_height_34 : decode cX11_height 34 = .ok (.getfield 90, 3) := by decide +kernel
theorem dX11_height_37 : decode cX11_height 37 = .ok (.iload_n 1, 1) := by decide +kernel
theorem dX11_height_38 : decode cX11_height 38 = .ok (.iload_n 2, 1) := by decide +kernel
theorem dX11_height_39 : decode cX11_height 39 = .ok (.iastore, 1) := by decide +kernel
theorem dX11_height_40 : decode cX11_height 40 = .ok (.iload_n 3, 1) := by decide +kernel
theorem dX11_height_41 : decode cX11_height 41 = .ok (.ireturn, 1) := by decide +kernel
theorem dX11_line_0 : decode cX11_line 0 = .ok (.iload_n 1, 1) := by decide +kernel
theorem dX11_line_1 : decode cX11_line 1 = .ok (.iconst 0, 1) := by decide +kernel
theorem dX11_line_2 : decode cX11_line 2 = .ok (.bipush 7, 2) := by decide +kernel
theorem dX11_line_4 : decode cX11_line 4 = .ok (.invokestatic 86, 3) := by decide +kernel
theorem dX11_line_7 : decode cX11_line 7 = .ok (.ifCond .eq 13, 3) := by decide +kernel
theorem dX11_line_10 : decode cX11_line 10 = .ok (.iload_n 2, 1) := by decide +kernel
theorem dX11_line_11 : decode cX11_line 11 = .ok (.iconst 0, 1) := by decide +kernel
theorem dX11_line_12 : decode cX11_line 12 = .ok (.bipush 8, 2) := by decide +kernel
theorem dX11_line_14 : decode cX11_line 14 = .ok (.invokestatic 86, 3) := by decide +kernel
theorem dX11_line_17 : decode cX11_line 17 = .ok (.ifCond .ne 6, 3) := by decide +kernel
theorem dX11_line_20 : decode cX11_line 20 = .ok (.bipush (-2), 2) := by decide +kernel
theorem dX11_line_22 : decode cX11_line 22 = .ok (.ireturn, 1) := by decide +kernel
theorem dX11_line_23 : decode cX11_line 23 = .ok (.aload_n 0, 1) := by decide +kernel
theorem dX11_line_24 : decode cX11_line 24 = .ok (.getfield 10, 3) := by decide +kernel
theorem dX11_line_27 : decode cX11_line 27 = .ok (.getfield 94, 3) := by decide +kernel
theorem dX11_line_30 : decode cX11_line 30 = .ok (.iload_n 1, 1) := by decide +kernel
theorem dX11_line_31 : decode cX11_line 31 = .ok (.iaload, 1) := by decide +kernel
theorem dX11_line_32 : decode cX11_line 32 = .ok (.istore_n 3, 1) := by decide +kernel
theorem dX11_line_33 : decode cX11_line 33 = .ok (.aload_n 0, 1) := by decide +kernel
theorem dX11_line_34 : decode cX11_line 34 = .ok (.getfield 10, 3) := by decide +kernel
theorem dX11_line_37 : decode cX11_line 37 = .ok (.getfield 94, 3) := by decide +kernel
theorem dX11_line_40 : decode cX11_line 40 = .ok (.iload_n 1, 1) := by decide +kernel
theorem dX11_line_41 : decode cX11_line 41 = .ok (.iload_n 2, 1) := by decide +kernel
theorem dX11_line_42 : decode cX11_line 42 = .ok (.iastore, 1) := by decide +kernel
theorem dX11_line_43 : decode cX11_line 43 = .ok (.iload_n 3, 1) := by decide +kernel
theorem dX11_line_44 : decode cX11_line 44 = .ok (.ireturn, 1) := by decide +kernel
theorem dX11_set_0 : decode cX11_set 0 = .ok (.iload_n 1, 1) := by decide +kernel
theorem dX11_set_1 : decode cX11_set 1 = .ok (.ifCond .ne 30, 3) := by decide +kernel
theorem dX11_set_4 : decode cX11_set 4 = .ok (.iload_n 2, 1) := by decide +kernel
theorem dX11_set_5 : decode cX11_set 5 = .ok (.iconst 0, 1) := by decide +kernel
theorem dX11_set_6 : decode cX11_set 6 = .ok (.iconst 4, 1) := by decide +kernel
theorem dX11_set_7 : decode cX11_set 7 = .ok (.invokestatic 86, 3) := by decide +kernel
theorem dX11_set_10 : decode cX11_set 10 = .ok (.ifCond .eq 21, 3) := by decide +kernel
theorem dX11_set_13 : decode cX11_set 13 = .ok (.aload_n 0, 1) := by decide +kernel
theorem dX11_set_14 : decode cX11_set 14 = .ok (.getfield 10, 3) := by decide +kernel
theorem dX11_set_17 : decode cX11_set 17 = .ok (.getfield 97, 3) := by decide +kernel
theorem dX11_set_20 : decode cX11_set 20 = .ok (.istore_n 3, 1) := by decide +kernel
theorem dX11_set_21 : decode cX11_set 21 = .ok (.aload_n 0, 1) := by decide +kernel
theorem dX11_set_22 : decode cX11_set 22 = .ok (.getfield 10, 3) := by decide +kernel
theorem dX11_set_25 : decode cX11_set 25 = .ok (.iload_n 2, 1) := by decide +kernel
theorem dX11_set_26 : decode cX11_set 26 = .ok (.putfield 97, 3) := by decide +kernel
theorem dX11_set_29 : decode cX11_set 29 = .ok (.iload_n 3, 1) := by decide +kernel
theorem dX11_set_30 : decode cX11_set 30 = .ok (.ireturn, 1) := by decide +kernel
theorem dX11_set_31 : decode cX11_set 31 = .ok (.iload_n 1, 1) := by decide +kernel
theorem dX11_set_32 : decode cX11_set 32 = .ok (.iconst 1, 1) := by decide +kernel
theorem dX11_set_33 : decode cX11_set 33 = .ok (.if_icmp .ne 30, 3) := by decide +kernel
theorem dX11_set_36 : decode cX11_set 36 = .ok (.iload_n 2, 1) := by decide +kernel
theorem dX11_set_37 : decode cX11_set 37 = .ok (.iconst 0, 1) := by decide +kernel
theorem dX11_set_38 : decode cX11_set 38 = .ok (.iconst 5, 1) := by decide +kernel
theorem dX11_set_39 : decode cX11_set 39 = .ok (.invokestatic 86, 3) := by decide +kernel
theorem dX11_set_42 : decode cX11_set 42 = .ok (.ifCond .eq 21, 3) := by decide +kernel
theorem dX11_set_45 : decode cX11_set 45 = .ok (.aload_n 0, 1) := by decide +kernel
theorem dX11_set_46 : decode cX11_set 46 = .ok (.getfield 10, 3) := by decide +kernel
theorem dX11_set_49 : decode cX11_set 49 = .ok (.getfield 101, 3) := by decide +kernel
theorem dX11_set_52 : decode cX11_set 52 = .ok (.istore_n 3, 1) := by decide +kernel
theorem dX11_set_53 : decode cX11_set 53 = .ok (.aload_n 0, 1) := by decide +kernel
theorem dX11_set_54 : decode cX11_set 54 = .ok (.getfield 10, 3) := by decide +kernel
theorem dX11_set_57 : decode cX11_set 57 = .ok (.iload_n 2, 1) := by decide +kernel
theorem dX11_set_58 : decode cX11_set 58 = .ok (.putfield 101, 3) := by decide +kernel
theorem dX11_set_61 : decode cX11_set 61 = .ok (.iload_n 3, 1) := by decide +kernel
theorem dX11_set_62 : decode cX11_set 62 = .ok (.ireturn, 1) := by decide +kernel
theorem dX11_set_63 : decode cX11_set 63 = .ok (.bipush (-2), 2) := by decide +kernel
theorem dX11_set_65 : decode cX11_set 65 = .ok (.ireturn, 1) := by decide +kernel
theorem dX11_cellTold_0 : decode cX11_cellTold 0 = .ok (.iload_n 1, 1) := by decide +kernel
theorem dX11_cellTold_1 : decode cX11_cellTold 1 = .ok (.invokestatic 82, 3) := by decide +kernel
theorem dX11_cellTold_4 : decode cX11_cellTold 4 = .ok (.ifCond .ne 6, 3) := by decide +kernel
theorem dX11_cellTold_7 : decode cX11_cellTold 7 = .ok (.bipush (-2), 2) := by decide +kernel
theorem dX11_cellTold_9 : decode cX11_cellTold 9 = .ok (.ireturn, 1) := by decide +kernel
theorem dX11_cellTold_10 : decode cX11_cellTold 10 = .ok (.iload_n 2, 1) := by decide +kernel
theorem dX11_cellTold_11 : decode cX11_cellTold 11 = .ok (.tableswitch 69 0 3 #[29, 39, 48, 57], 29) := by decide +kernel
theorem dX11_cellTold_40 : decode cX11_cellTold 40 = .ok (.aload_n 0, 1) := by decide +kernel
theorem dX11_cellTold_41 : decode cX11_cellTold 41 = .ok (.getfield 10, 3) := by decide +kernel
theorem dX11_cellTold_44 : decode cX11_cellTold 44 = .ok (.getfield 90, 3) := by decide +kernel
theorem dX11_cellTold_47 : decode cX11_cellTold 47 = .ok (.iload_n 1, 1) := by decide +kernel
theorem dX11_cellTold_48 : decode cX11_cellTold 48 = .ok (.iaload, 1) := by decide +kernel
theorem dX11_cellTold_49 : decode cX11_cellTold 49 = .ok (.ireturn, 1) := by decide +kernel
theorem dX11_cellTold_50 : decode cX11_cellTold 50 = .ok (.aload_n 0, 1) := by decide +kernel
theorem dX11_cellTold_51 : decode cX11_cellTold 51 = .ok (.getfield 10, 3) := by decide +kernel
theorem dX11_cellTold_54 : decode cX11_cellTold 54 = .ok (.iload_n 1, 1) := by decide +kernel
theorem dX11_cellTold_55 : decode cX11_cellTold 55 = .ok (.invokevirtual 104, 3) := by decide +kernel
theorem dX11_cellTold_58 : decode cX11_cellTold 58 = .ok (.ireturn, 1) := by decide +kernel
theorem dX11_cellTold_59 : decode cX11_cellTold 59 = .ok (.aload_n 0, 1) := by decide +kernel
theorem dX11_cellTold_60 : decode cX11_cellTold 60 = .ok (.getfield 10, 3) := by decide +kernel
theorem dX11_cellTold_63 : decode cX11_cellTold 63 = .ok (.iload_n 1, 1) := by decide +kernel
theorem dX11_cellTold_64 : decode cX11_cellTold 64 = .ok (.invokevirtual 108, 3) := by decide +kernel
theorem dX11_cellTold_67 : decode cX11_cellTold 67 = .ok (.ireturn, 1) := by decide +kernel
theorem dX11_cellTold_68 : decode cX11_cellTold 68 = .ok (.aload_n 0, 1) := by decide +kernel
theorem dX11_cellTold_69 : decode cX11_cellTold 69 = .ok (.getfield 10, 3) := by decide +kernel
theorem dX11_cellTold_72 : decode cX11_cellTold 72 = .ok (.iload_n 1, 1) := by decide +kernel
theorem dX11_cellTold_73 : decode cX11_cellTold 73 = .ok (.invokevirtual 111, 3) := by decide +kernel
theorem dX11_cellTold_76 : decode cX11_cellTold 76 = .ok (.invokestatic 114, 3) := by decide +kernel
theorem dX11_cellTold_79 : decode cX11_cellTold 79 = .ok (.ireturn, 1) := by decide +kernel
theorem dX11_cellTold_80 : decode cX11_cellTold 80 = .ok (.bipush (-2), 2) := by decide +kernel
theorem dX11_cellTold_82 : decode cX11_cellTold 82 = .ok (.ireturn, 1) := by decide +kernel
theorem dX11_mark_0 : decode cX11_mark 0 = .ok (.iload_n 1, 1) := by decide +kernel
theorem dX11_mark_1 : decode cX11_mark 1 = .ok (.invokestatic 118, 3) := by decide +kernel
theorem dX11_mark_4 : decode cX11_mark 4 = .ok (.ifCond .eq 17, 3) := by decide +kernel
theorem dX11_mark_7 : decode cX11_mark 7 = .ok (.iload_n 2, 1) := by decide +kernel
theorem dX11_mark_8 : decode cX11_mark 8 = .ok (.invokestatic 121, 3) := by decide +kernel
theorem dX11_mark_11 : decode cX11_mark 11 = .ok (.ifCond .eq 10, 3) := by decide +kernel
theorem dX11_mark_14 : decode cX11_mark 14 = .ok (.iload_n 3, 1) := by decide +kernel
theorem dX11_mark_15 : decode cX11_mark 15 = .ok (.invokestatic 82, 3) := by decide +kernel
theorem dX11_mark_18 : decode cX11_mark 18 = .ok (.ifCond .ne 6, 3) := by decide +kernel
theorem dX11_mark_21 : decode cX11_mark 21 = .ok (.bipush (-2), 2) := by decide +kernel
theorem dX11_mark_23 : decode cX11_mark 23 = .ok (.ireturn, 1) := by decide +kernel
theorem dX11_mark_24 : decode cX11_mark 24 = .ok (.iload 4, 2) := by decide +kernel
theorem dX11_mark_26 : decode cX11_mark 26 = .ok (.iconst 0, 1) := by decide +kernel
theorem dX11_mark_27 : decode cX11_mark 27 = .ok (.bipush 99, 2) := by decide +kernel
theorem dX11_mark_29 : decode cX11_mark 29 = .ok (.invokestatic 86, 3) := by decide +kernel
theorem dX11_mark_32 : decode cX11_mark 32 = .ok (.ifCond .ne 6, 3) := by decide +kernel
theorem dX11_mark_35 : decode cX11_mark 35 = .ok (.bipush (-2), 2) := by decide +kernel
theorem dX11_mark_37 : decode cX11_mark 37 = .ok (.ireturn, 1) := by decide +kernel
theorem dX11_mark_38 : decode cX11_mark 38 = .ok (.aload_n 0, 1) := by decide +kernel
theorem dX11_mark_39 : decode cX11_mark 39 = .ok (.getfield 21, 3) := by decide +kernel
theorem dX11_mark_42 : decode cX11_mark 42 = .ok (.iload_n 1, 1) := by decide +kernel
theorem dX11_mark_43 : decode cX11_mark 43 = .ok (.iload_n 2, 1) := by decide +kernel
theorem dX11_mark_44 : decode cX11_mark 44 = .ok (.iload_n 3, 1) := by decide +kernel
theorem dX11_mark_45 : decode cX11_mark 45 = .ok (.iload 4, 2) := by decide +kernel
theorem dX11_mark_47 : decode cX11_mark 47 = .ok (.invokevirtual 124, 3) := by decide +kernel
theorem dX11_mark_50 : decode cX11_mark 50 = .ok (.ireturn, 1) := by decide +kernel
theorem dX11_walk_0 : decode cX11_walk 0 = .ok (.aload_n 0, 1) := by decide +kernel
theorem dX11_walk_1 : decode cX11_walk 1 = .ok (.getfield 21, 3) := by decide +kernel
theorem dX11_walk_4 : decode cX11_walk 4 = .ok (.iload_n 1, 1) := by decide +kernel
theorem dX11_walk_5 : decode cX11_walk 5 = .ok (.invokevirtual 128, 3) := by decide +kernel
theorem dX11_walk_8 : decode cX11_walk 8 = .ok (.ifCond .eq 10, 3) := by decide +kernel
theorem dX11_walk_11 : decode cX11_walk 11 = .ok (.iload_n 2, 1) := by decide +kernel
theorem dX11_walk_12 : decode cX11_walk 12 = .ok (.invokestatic 82, 3) := by decide +kernel
theorem dX11_walk_15 : decode cX11_walk 15 = .ok (.ifCond .ne 6, 3) := by decide +kernel
theorem dX11_walk_18 : decode cX11_walk 18 = .ok (.bipush (-2), 2) := by decide +kernel
theorem dX11_walk_20 : decode cX11_walk 20 = .ok (.ireturn, 1) := by decide +kernel
theorem dX11_walk_21 : decode cX11_walk 21 = .ok (.aload_n 0, 1) := by decide +kernel
theorem dX11_walk_22 : decode cX11_walk 22 = .ok (.getfield 21, 3) := by decide +kernel
theorem dX11_walk_25 : decode cX11_walk 25 = .ok (.getfield 131, 3) := by decide +kernel
theorem dX11_walk_28 : decode cX11_walk 28 = .ok (.iload_n 1, 1) := by decide +kernel
theorem dX11_walk_29 : decode cX11_walk 29 = .ok (.aaload, 1) := by decide +kernel
theorem dX11_walk_30 : decode cX11_walk 30 = .ok (.astore_n 3, 1) := by decide +kernel
theorem dX11_walk_31 : decode cX11_walk 31 = .ok (.aload_n 3, 1) := by decide +kernel
theorem dX11_walk_32 : decode cX11_walk 32 = .ok (.getfield 135, 3) := by decide +kernel
theorem dX11_walk_35 : decode cX11_walk 35 = .ok (.iconst 3, 1) := by decide +kernel
theorem dX11_walk_36 : decode cX11_walk 36 = .ok (.invokestatic 140, 3) := by decide +kernel
theorem dX11_walk_39 : decode cX11_walk 39 = .ok (.ifCond .ne 6, 3) := by decide +kernel
theorem dX11_walk_42 : decode cX11_walk 42 = .ok (.bipush (-13), 2) := by decide +kernel
theorem dX11_walk_44 : decode cX11_walk 44 = .ok (.ireturn, 1) := by decide +kernel
theorem dX11_walk_45 : decode cX11_walk 45 = .ok (.aload_n 3, 1) := by decide +kernel
theorem dX11_walk_46 : decode cX11_walk 46 = .ok (.iload_n 2, 1) := by decide +kernel
theorem dX11_walk_47 : decode cX11_walk 47 = .ok (.invokevirtual 144, 3) := by decide +kernel
theorem dX11_walk_50 : decode cX11_walk 50 = .ok (.ireturn, 1) := by decide +kernel
theorem dX11_gone_0 : decode cX11_gone 0 = .ok (.aload_n 0, 1) := by decide +kernel
theorem dX11_gone_1 : decode cX11_gone 1 = .ok (.getfield 21, 3) := by decide +kernel
theorem dX11_gone_4 : decode cX11_gone 4 = .ok (.iload_n 1, 1) := by decide +kernel
theorem dX11_gone_5 : decode cX11_gone 5 = .ok (.invokevirtual 128, 3) := by decide +kernel
theorem dX11_gone_8 : decode cX11_gone 8 = .ok (.ifCond .eq 10, 3) := by decide +kernel
theorem dX11_gone_11 : decode cX11_gone 11 = .ok (.iload_n 2, 1) := by decide +kernel
theorem dX11_gone_12 : decode cX11_gone 12 = .ok (.invokestatic 147, 3) := by decide +kernel
theorem dX11_gone_15 : decode cX11_gone 15 = .ok (.ifCond .ne 6, 3) := by decide +kernel
theorem dX11_gone_18 : decode cX11_gone 18 = .ok (.bipush (-2), 2) := by decide +kernel
theorem dX11_gone_20 : decode cX11_gone 20 = .ok (.ireturn, 1) := by decide +kernel
theorem dX11_gone_21 : decode cX11_gone 21 = .ok (.aload_n 0, 1) := by decide +kernel
theorem dX11_gone_22 : decode cX11_gone 22 = .ok (.getfield 21, 3) := by decide +kernel
theorem dX11_gone_25 : decode cX11_gone 25 = .ok (.getfield 131, 3) := by decide +kernel
theorem dX11_gone_28 : decode cX11_gone 28 = .ok (.iload_n 1, 1) := by decide +kernel
theorem dX11_gone_29 : decode cX11_gone 29 = .ok (.aaload, 1) := by decide +kernel
theorem dX11_gone_30 : decode cX11_gone 30 = .ok (.astore_n 3, 1) := by decide +kernel
theorem dX11_gone_31 : decode cX11_gone 31 = .ok (.aload_n 3, 1) := by decide +kernel
theorem dX11_gone_32 : decode cX11_gone 32 = .ok (.getfield 150, 3) := by decide +kernel
theorem dX11_gone_35 : decode cX11_gone 35 = .ok (.invokestatic 114, 3) := by decide +kernel
theorem dX11_gone_38 : decode cX11_gone 38 = .ok (.istore 4, 2) := by decide +kernel
theorem dX11_gone_40 : decode cX11_gone 40 = .ok (.aload_n 3, 1) := by decide +kernel
theorem dX11_gone_41 : decode cX11_gone 41 = .ok (.iload_n 2, 1) := by decide +kernel
theorem dX11_gone_42 : decode cX11_gone 42 = .ok (.iconst 1, 1) := by decide +kernel
theorem dX11_gone_43 : decode cX11_gone 43 = .ok (.if_icmp .ne 7, 3) := by decide +kernel
theorem dX11_gone_46 : decode cX11_gone 46 = .ok (.iconst 1, 1) := by decide +kernel
theorem dX11_gone_47 : decode cX11_gone 47 = .ok (.goto 4, 3) := by decide +kernel
theorem dX11_gone_50 : decode cX11_gone 50 = .ok (.iconst 0, 1) := by decide +kernel
theorem dX11_gone_51 : decode cX11_gone 51 = .ok (.putfield 150, 3) := by decide +kernel
theorem dX11_gone_54 : decode cX11_gone 54 = .ok (.iload 4, 2) := by decide +kernel
theorem dX11_gone_56 : decode cX11_gone 56 = .ok (.ireturn, 1) := by decide +kernel
theorem dX11_markTold_0 : decode cX11_markTold 0 = .ok (.aload_n 0, 1) := by decide +kernel
theorem dX11_markTold_1 : decode cX11_markTold 1 = .ok (.getfield 21, 3) := by decide +kernel
theorem dX11_markTold_4 : decode cX11_markTold 4 = .ok (.iload_n 1, 1) := by decide +kernel
theorem dX11_markTold_5 : decode cX11_markTold 5 = .ok (.invokevirtual 128, 3) := by decide +kernel
theorem dX11_markTold_8 : decode cX11_markTold 8 = .ok (.ifCond .ne 6, 3) := by decide +kernel
theorem dX11_markTold_11 : decode cX11_markTold 11 = .ok (.bipush (-2), 2) := by decide +kernel
theorem dX11_markTold_13 : decode cX11_markTold 13 = .ok (.ireturn, 1) := by decide +kernel
theorem dX11_markTold_14 : decode cX11_markTold 14 = .ok (.aload_n 0, 1) := by decide +kernel
theorem dX11_markTold_15 : decode cX11_markTold 15 = .ok (.getfield 21, 3) := by decide +kernel
theorem dX11_markTold_18 : decode cX11_markTold 18 = .ok (.getfield 131, 3) := by decide +kernel
theorem dX11_markTold_21 : decode cX11_markTold 21 = .ok (.iload_n 1, 1) := by decide +kernel
theorem dX11_markTold_22 : decode cX11_markTold 22 = .ok (.aaload, 1) := by decide +kernel
theorem dX11_markTold_23 : decode cX11_markTold 23 = .ok (.astore_n 3, 1) := by decide +kernel
theorem dX11_markTold_24 : decode cX11_markTold 24 = .ok (.iload_n 2, 1) := by decide +kernel
theorem dX11_markTold_25 : decode cX11_markTold 25 = .ok (.tableswitch 75 0 5 #[39, 44, 49, 54, 62, 67], 39) := by decide +kernel
theorem dX11_markTold_64 : decode cX11_markTold 64 = .ok (.aload_n 3, 1) := by decide +kernel
theorem dX11_markTold_65 : decode cX11_markTold 65 = .ok (.getfield 135, 3) := by decide +kernel
theorem dX11_markTold_68 : decode cX11_markTold 68 = .ok (.ireturn, 1) := by decide +kernel
theorem dX11_markTold_69 : decode cX11_markTold 69 = .ok (.aload_n 3, 1) := by decide +kernel
theorem dX11_markTold_70 : decode cX11_markTold 70 = .ok (.getfield 154, 3) := by decide +kernel
theorem dX11_markTold_73 : decode cX11_markTold 73 = .ok (.ireturn, 1) := by decide +kernel
theorem dX11_markTold_74 : decode cX11_markTold 74 = .ok (.aload_n 3, 1) := by decide +kernel
theorem dX11_markTold_75 : decode cX11_markTold 75 = .ok (.getfield 157, 3) := by decide +kernel
theorem dX11_markTold_78 : decode cX11_markTold 78 = .ok (.ireturn, 1) := by decide +kernel
theorem dX11_markTold_79 : decode cX11_markTold 79 = .ok (.aload_n 3, 1) := by decide +kernel
theorem dX11_markTold_80 : decode cX11_markTold 80 = .ok (.getfield 150, 3) := by decide +kernel
theorem dX11_markTold_83 : decode cX11_markTold 83 = .ok (.invokestatic 114, 3) := by decide +kernel
theorem dX11_markTold_86 : decode cX11_markTold 86 = .ok (.ireturn, 1) := by decide +kernel
theorem dX11_markTold_87 : decode cX11_markTold 87 = .ok (.aload_n 3, 1) := by decide +kernel
theorem dX11_markTold_88 : decode cX11_markTold 88 = .ok (.getfield 160, 3) := by decide +kernel
theorem dX11_markTold_91 : decode cX11_markTold 91 = .ok (.ireturn, 1) := by decide +kernel
theorem dX11_markTold_92 : decode cX11_markTold 92 = .ok (.aload_n 3, 1) := by decide +kernel
theorem dX11_markTold_93 : decode cX11_markTold 93 = .ok (.getfield 163, 3) := by decide +kernel
theorem dX11_markTold_96 : decode cX11_markTold 96 = .ok (.invokestatic 114, 3) := by decide +kernel
theorem dX11_markTold_99 : decode cX11_markTold 99 = .ok (.ireturn, 1) := by decide +kernel
theorem dX11_markTold_100 : decode cX11_markTold 100 = .ok (.bipush (-2), 2) := by decide +kernel
theorem dX11_markTold_102 : decode cX11_markTold 102 = .ok (.ireturn, 1) := by decide +kernel
theorem dX11_at_0 : decode cX11_at 0 = .ok (.aload_n 0, 1) := by decide +kernel
theorem dX11_at_1 : decode cX11_at 1 = .ok (.getfield 21, 3) := by decide +kernel
theorem dX11_at_4 : decode cX11_at 4 = .ok (.iload_n 1, 1) := by decide +kernel
theorem dX11_at_5 : decode cX11_at 5 = .ok (.invokevirtual 128, 3) := by decide +kernel
theorem dX11_at_8 : decode cX11_at 8 = .ok (.ifCond .eq 10, 3) := by decide +kernel
theorem dX11_at_11 : decode cX11_at 11 = .ok (.iload_n 2, 1) := by decide +kernel
theorem dX11_at_12 : decode cX11_at 12 = .ok (.invokestatic 166, 3) := by decide +kernel
theorem dX11_at_15 : decode cX11_at 15 = .ok (.ifCond .ne 6, 3) := by decide +kernel
theorem dX11_at_18 : decode cX11_at 18 = .ok (.bipush (-2), 2) := by decide +kernel
theorem dX11_at_20 : decode cX11_at 20 = .ok (.ireturn, 1) := by decide +kernel
theorem dX11_at_21 : decode cX11_at 21 = .ok (.aload_n 0, 1) := by decide +kernel
theorem dX11_at_22 : decode cX11_at 22 = .ok (.getfield 21, 3) := by decide +kernel
theorem dX11_at_25 : decode cX11_at 25 = .ok (.getfield 131, 3) := by decide +kernel
theorem dX11_at_28 : decode cX11_at 28 = .ok (.iload_n 1, 1) := by decide +kernel
theorem dX11_at_29 : decode cX11_at 29 = .ok (.aaload, 1) := by decide +kernel
theorem dX11_at_30 : decode cX11_at 30 = .ok (.iload_n 2, 1) := by decide +kernel
theorem dX11_at_31 : decode cX11_at 31 = .ok (.invokevirtual 169, 3) := by decide +kernel
theorem dX11_at_34 : decode cX11_at 34 = .ok (.ireturn, 1) := by decide +kernel
theorem dX11_sight_0 : decode cX11_sight 0 = .ok (.aload_n 0, 1) := by decide +kernel
theorem dX11_sight_1 : decode cX11_sight 1 = .ok (.getfield 21, 3) := by decide +kernel
theorem dX11_sight_4 : decode cX11_sight 4 = .ok (.iload_n 1, 1) := by decide +kernel
theorem dX11_sight_5 : decode cX11_sight 5 = .ok (.invokevirtual 128, 3) := by decide +kernel
theorem dX11_sight_8 : decode cX11_sight 8 = .ok (.ifCond .eq 10, 3) := by decide +kernel
theorem dX11_sight_11 : decode cX11_sight 11 = .ok (.iload_n 2, 1) := by decide +kernel
theorem dX11_sight_12 : decode cX11_sight 12 = .ok (.invokestatic 166, 3) := by decide +kernel
theorem dX11_sight_15 : decode cX11_sight 15 = .ok (.ifCond .ne 6, 3) := by decide +kernel
theorem dX11_sight_18 : decode cX11_sight 18 = .ok (.bipush (-2), 2) := by decide +kernel
theorem dX11_sight_20 : decode cX11_sight 20 = .ok (.ireturn, 1) := by decide +kernel
theorem dX11_sight_21 : decode cX11_sight 21 = .ok (.aload_n 0, 1) := by decide +kernel
theorem dX11_sight_22 : decode cX11_sight 22 = .ok (.getfield 21, 3) := by decide +kernel
theorem dX11_sight_25 : decode cX11_sight 25 = .ok (.iload_n 1, 1) := by decide +kernel
theorem dX11_sight_26 : decode cX11_sight 26 = .ok (.iload_n 2, 1) := by decide +kernel
theorem dX11_sight_27 : decode cX11_sight 27 = .ok (.invokevirtual 172, 3) := by decide +kernel
theorem dX11_sight_30 : decode cX11_sight 30 = .ok (.ireturn, 1) := by decide +kernel
theorem dX11_sees_0 : decode cX11_sees 0 = .ok (.aload_n 0, 1) := by decide +kernel
theorem dX11_sees_1 : decode cX11_sees 1 = .ok (.getfield 21, 3) := by decide +kernel
theorem dX11_sees_4 : decode cX11_sees 4 = .ok (.iload_n 1, 1) := by decide +kernel
theorem dX11_sees_5 : decode cX11_sees 5 = .ok (.invokevirtual 128, 3) := by decide +kernel
theorem dX11_sees_8 : decode cX11_sees 8 = .ok (.ifCond .eq 10, 3) := by decide +kernel
theorem dX11_sees_11 : decode cX11_sees 11 = .ok (.iload_n 2, 1) := by decide +kernel
theorem dX11_sees_12 : decode cX11_sees 12 = .ok (.invokestatic 166, 3) := by decide +kernel
theorem dX11_sees_15 : decode cX11_sees 15 = .ok (.ifCond .ne 7, 3) := by decide +kernel
theorem dX11_sees_18 : decode cX11_sees 18 = .ok (.ldc2_w 176, 3) := by decide +kernel
theorem dX11_sees_21 : decode cX11_sees 21 = .ok (.lreturn, 1) := by decide +kernel
theorem dX11_sees_22 : decode cX11_sees 22 = .ok (.aload_n 0, 1) := by decide +kernel
theorem dX11_sees_23 : decode cX11_sees 23 = .ok (.getfield 21, 3) := by decide +kernel
theorem dX11_sees_26 : decode cX11_sees 26 = .ok (.iload_n 1, 1) := by decide +kernel
theorem dX11_sees_27 : decode cX11_sees 27 = .ok (.iload_n 2, 1) := by decide +kernel
theorem dX11_sees_28 : decode cX11_sees 28 = .ok (.invokevirtual 178, 3) := by decide +kernel
theorem dX11_sees_31 : decode cX11_sees 31 = .ok (.lreturn, 1) := by decide +kernel
theorem dX11_view_0 : decode cX11_view 0 = .ok (.iload_n 1, 1) := by decide +kernel
theorem dX11_view_1 : decode cX11_view 1 = .ok (.invokestatic 121, 3) := by decide +kernel
theorem dX11_view_4 : decode cX11_view 4 = .ok (.ifCond .eq 10, 3) := by decide +kernel
theorem dX11_view_7 : decode cX11_view 7 = .ok (.iload_n 2, 1) := by decide +kernel
theorem dX11_view_8 : decode cX11_view 8 = .ok (.invokestatic 166, 3) := by decide +kernel
theorem dX11_view_11 : decode cX11_view 11 = .ok (.ifCond .ne 7, 3) := by decide +kernel
theorem dX11_view_14 : decode cX11_view 14 = .ok (.ldc2_w 176, 3) := by decide +kernel
theorem dX11_view_17 : decode cX11_view 17 = .ok (.lreturn, 1) := by decide +kernel
theorem dX11_view_18 : decode cX11_view 18 = .ok (.aload_n 0, 1) := by decide +kernel
theorem dX11_view_19 : decode cX11_view 19 = .ok (.getfield 21, 3) := by decide +kernel
theorem dX11_view_22 : decode cX11_view 22 = .ok (.iload_n 1, 1) := by decide +kernel
theorem dX11_view_23 : decode cX11_view 23 = .ok (.iload_n 2, 1) := by decide +kernel
theorem dX11_view_24 : decode cX11_view 24 = .ok (.invokevirtual 182, 3) := by decide +kernel
theorem dX11_view_27 : decode cX11_view 27 = .ok (.lreturn, 1) := by decide +kernel
theorem dX11_feed_0 : decode cX11_feed 0 = .ok (.iload_n 1, 1) := by decide +kernel
theorem dX11_feed_1 : decode cX11_feed 1 = .ok (.iconst 1, 1) := by decide +kernel
theorem dX11_feed_2 : decode cX11_feed 2 = .ok (.bipush 8, 2) := by decide +kernel
theorem dX11_feed_4 : decode cX11_feed 4 = .ok (.invokestatic 86, 3) := by decide +kernel
theorem dX11_feed_7 : decode cX11_feed 7 = .ok (.ifCond .ne 6, 3) := by decide +kernel
theorem dX11_feed_10 : decode cX11_feed 10 = .ok (.bipush (-2), 2) := by decide +kernel
theorem dX11_feed_12 : decode cX11_feed 12 = .ok (.ireturn, 1) := by decide +kernel
theorem dX11_feed_13 : decode cX11_feed 13 = .ok (.aload_n 0, 1) := by decide +kernel
theorem dX11_feed_14 : decode cX11_feed 14 = .ok (.getfield 28, 3) := by decide +kernel
theorem dX11_feed_17 : decode cX11_feed 17 = .ok (.iload_n 1, 1) := by decide +kernel
theorem dX11_feed_18 : decode cX11_feed 18 = .ok (.lload_n 2, 1) := by decide +kernel
theorem dX11_feed_19 : decode cX11_feed 19 = .ok (.invokevirtual 185, 3) := by decide +kernel
theorem dX11_feed_22 : decode cX11_feed 22 = .ok (.ireturn, 1) := by decide +kernel
theorem dX11_text_0 : decode cX11_text 0 = .ok (.aload_n 0, 1) := by decide +kernel
theorem dX11_text_1 : decode cX11_text 1 = .ok (.getfield 28, 3) := by decide +kernel
theorem dX11_text_4 : decode cX11_text 4 = .ok (.invokevirtual 189, 3) := by decide +kernel
theorem dX11_text_7 : decode cX11_text 7 = .ok (.ireturn, 1) := by decide +kernel
theorem dX11_force_0 : decode cX11_force 0 = .ok (.iload_n 1, 1) := by decide +kernel
theorem dX11_force_1 : decode cX11_force 1 = .ok (.iconst 0, 1) := by decide +kernel
theorem dX11_force_2 : decode cX11_force 2 = .ok (.iconst 2, 1) := by decide +kernel
theorem dX11_force_3 : decode cX11_force 3 = .ok (.invokestatic 86, 3) := by decide +kernel
theorem dX11_force_6 : decode cX11_force 6 = .ok (.ifCond .eq 14, 3) := by decide +kernel
theorem dX11_force_9 : decode cX11_force 9 = .ok (.aload_n 0, 1) := by decide +kernel
theorem dX11_force_10 : decode cX11_force 10 = .ok (.getfield 28, 3) := by decide +kernel
theorem dX11_force_13 : decode cX11_force 13 = .ok (.iload_n 2, 1) := by decide +kernel
theorem dX11_force_14 : decode cX11_force 14 = .ok (.invokevirtual 193, 3) := by decide +kernel
theorem dX11_force_17 : decode cX11_force 17 = .ok (.ifCond .ne 6, 3) := by decide +kernel
theorem dX11_force_20 : decode cX11_force 20 = .ok (.bipush (-2), 2) := by decide +kernel
theorem dX11_force_22 : decode cX11_force 22 = .ok (.ireturn, 1) := by decide +kernel
theorem dX11_force_23 : decode cX11_force 23 = .ok (.aload_n 0, 1) := by decide +kernel
theorem dX11_force_24 : decode cX11_force 24 = .ok (.getfield 28, 3) := by decide +kernel
theorem dX11_force_27 : decode cX11_force 27 = .ok (.getfield 194, 3) := by decide +kernel
theorem dX11_force_30 : decode cX11_force 30 = .ok (.iload_n 1, 1) := by decide +kernel
theorem dX11_force_31 : decode cX11_force 31 = .ok (.iaload, 1) := by decide +kernel
theorem dX11_force_32 : decode cX11_force 32 = .ok (.istore_n 3, 1) := by decide +kernel
theorem dX11_force_33 : decode cX11_force 33 = .ok (.aload_n 0, 1) := by decide +kernel
theorem dX11_force_34 : decode cX11_force 34 = .ok (.getfield 28, 3) := by decide +kernel
theorem dX11_force_37 : decode cX11_force 37 = .ok (.getfield 194, 3) := by decide +kernel
theorem dX11_force_40 : decode cX11_force 40 = .ok (.iload_n 1, 1) := by decide +kernel
theorem dX11_force_41 : decode cX11_force 41 = .ok (.iload_n 2, 1) := by decide +kernel
theorem dX11_force_42 : decode cX11_force 42 = .ok (.iastore, 1) := by decide +kernel
theorem dX11_force_43 : decode cX11_force 43 = .ok (.iload_n 3, 1) := by decide +kernel
theorem dX11_force_44 : decode cX11_force 44 = .ok (.ireturn, 1) := by decide +kernel
theorem dX11_says_0 : decode cX11_says 0 = .ok (.aload_n 0, 1) := by decide +kernel
theorem dX11_says_1 : decode cX11_says 1 = .ok (.getfield 21, 3) := by decide +kernel
theorem dX11_says_4 : decode cX11_says 4 = .ok (.iload_n 1, 1) := by decide +kernel
theorem dX11_says_5 : decode cX11_says 5 = .ok (.invokevirtual 128, 3) := by decide +kernel
theorem dX11_says_8 : decode cX11_says 8 = .ok (.ifCond .eq 10, 3) := by decide +kernel
theorem dX11_says_11 : decode cX11_says 11 = .ok (.iload_n 2, 1) := by decide +kernel
theorem dX11_says_12 : decode cX11_says 12 = .ok (.invokestatic 166, 3) := by decide +kernel
theorem dX11_says_15 : decode cX11_says 15 = .ok (.ifCond .ne 7, 3) := by decide +kernel
theorem dX11_says_18 : decode cX11_says 18 = .ok (.ldc2_w 176, 3) := by decide +kernel
theorem dX11_says_21 : decode cX11_says 21 = .ok (.lreturn, 1) := by decide +kernel
theorem dX11_says_22 : decode cX11_says 22 = .ok (.iload_n 3, 1) := by decide +kernel
theorem dX11_says_23 : decode cX11_says 23 = .ok (.iconst 0, 1) := by decide +kernel
theorem dX11_says_24 : decode cX11_says 24 = .ok (.iconst 1, 1) := by decide +kernel
theorem dX11_says_25 : decode cX11_says 25 = .ok (.invokestatic 86, 3) := by decide +kernel
theorem dX11_says_28 : decode cX11_says 28 = .ok (.ifCond .eq 14, 3) := by decide +kernel
theorem dX11_says_31 : decode cX11_says 31 = .ok (.iload 4, 2) := by decide +kernel
theorem dX11_says_33 : decode cX11_says 33 = .ok (.iconst 0, 1) := by decide +kernel
theorem dX11_says_34 : decode cX11_says 34 = .ok (.bipush 99, 2) := by decide +kernel
theorem dX11_says_36 : decode cX11_says 36 = .ok (.invokestatic 86, 3) := by decide +kernel
theorem dX11_says_39 : decode cX11_says 39 = .ok (.ifCond .ne 7, 3) := by decide +kernel
theorem dX11_says_42 : decode cX11_says 42 = .ok (.ldc2_w 176, 3) := by decide +kernel
theorem dX11_says_45 : decode cX11_says 45 = .ok (.lreturn, 1) := by decide +kernel
theorem dX11_says_46 : decode cX11_says 46 = .ok (.aload_n 0, 1) := by decide +kernel
theorem dX11_says_47 : decode cX11_says 47 = .ok (.getfield 37, 3) := by decide +kernel
theorem dX11_says_50 : decode cX11_says 50 = .ok (.iload_n 1, 1) := by decide +kernel
theorem dX11_says_51 : decode cX11_says 51 = .ok (.iload_n 2, 1) := by decide +kernel
theorem dX11_says_52 : decode cX11_says 52 = .ok (.iload_n 3, 1) := by decide +kernel
theorem dX11_says_53 : decode cX11_says 53 = .ok (.iload 4, 2) := by decide +kernel
theorem dX11_says_55 : decode cX11_says 55 = .ok (.invokevirtual 197, 3) := by decide +kernel
theorem dX11_says_58 : decode cX11_says 58 = .ok (.i2l, 1) := by decide +kernel
theorem dX11_says_59 : decode cX11_says 59 = .ok (.lreturn, 1) := by decide +kernel
theorem dX11_breaches_0 : decode cX11_breaches 0 = .ok (.iload_n 1, 1) := by decide +kernel
theorem dX11_breaches_1 : decode cX11_breaches 1 = .ok (.iconst (-1), 1) := by decide +kernel
theorem dX11_breaches_2 : decode cX11_breaches 2 = .ok (.if_icmp .eq 10, 3) := by decide +kernel
theorem dX11_breaches_5 : decode cX11_breaches 5 = .ok (.iload_n 1, 1) := by decide +kernel
theorem dX11_breaches_6 : decode cX11_breaches 6 = .ok (.invokestatic 121, 3) := by decide +kernel
theorem dX11_breaches_9 : decode cX11_breaches 9 = .ok (.ifCond .eq 10, 3) := by decide +kernel
theorem dX11_breaches_12 : decode cX11_breaches 12 = .ok (.iload_n 2, 1) := by decide +kernel
theorem dX11_breaches_13 : decode cX11_breaches 13 = .ok (.invokestatic 166, 3) := by decide +kernel
theorem dX11_breaches_16 : decode cX11_breaches 16 = .ok (.ifCond .ne 6, 3) := by decide +kernel
theorem dX11_breaches_19 : decode cX11_breaches 19 = .ok (.bipush (-2), 2) := by decide +kernel
theorem dX11_breaches_21 : decode cX11_breaches 21 = .ok (.ireturn, 1) := by decide +kernel
theorem dX11_breaches_22 : decode cX11_breaches 22 = .ok (.iload_n 1, 1) := by decide +kernel
theorem dX11_breaches_23 : decode cX11_breaches 23 = .ok (.iconst (-1), 1) := by decide +kernel
theorem dX11_breaches_24 : decode cX11_breaches 24 = .ok (.if_icmp .ne 14, 3) := by decide +kernel
theorem dX11_breaches_27 : decode cX11_breaches 27 = .ok (.aload_n 0, 1) := by decide +kernel
theorem dX11_breaches_28 : decode cX11_breaches 28 = .ok (.getfield 37, 3) := by decide +kernel
theorem dX11_breaches_31 : decode cX11_breaches 31 = .ok (.iload_n 2, 1) := by decide +kernel
theorem dX11_breaches_32 : decode cX11_breaches 32 = .ok (.invokevirtual 200, 3) := by decide +kernel
theorem dX11_breaches_35 : decode cX11_breaches 35 = .ok (.goto 12, 3) := by decide +kernel
theorem dX11_breaches_38 : decode cX11_breaches 38 = .ok (.aload_n 0, 1) := by decide +kernel
theorem dX11_breaches_39 : decode cX11_breaches 39 = .ok (.getfield 37, 3) := by decide +kernel
theorem dX11_breaches_42 : decode cX11_breaches 42 = .ok (.iload_n 1, 1) := by decide +kernel
theorem dX11_breaches_43 : decode cX11_breaches 43 = .ok (.iload_n 2, 1) := by decide +kernel
theorem dX11_breaches_44 : decode cX11_breaches 44 = .ok (.invokevirtual 203, 3) := by decide +kernel
theorem dX11_breaches_47 : decode cX11_breaches 47 = .ok (.ireturn, 1) := by decide +kernel
theorem dX11_astray_0 : decode cX11_astray 0 = .ok (.iload_n 1, 1) := by decide +kernel
theorem dX11_astray_1 : decode cX11_astray 1 = .ok (.invokestatic 166, 3) := by decide +kernel
theorem dX11_astray_4 : decode cX11_astray 4 = .ok (.ifCond .eq 14, 3) := by decide +kernel
theorem dX11_astray_7 : decode cX11_astray 7 = .ok (.aload_n 0, 1) := by decide +kernel
theorem dX11_astray_8 : decode cX11_astray 8 = .ok (.getfield 37, 3) := by decide +kernel
theorem dX11_astray_11 : decode cX11_astray 11 = .ok (.iload_n 1, 1) := by decide +kernel
theorem dX11_astray_12 : decode cX11_astray 12 = .ok (.invokevirtual 206, 3) := by decide +kernel
theorem dX11_astray_15 : decode cX11_astray 15 = .ok (.goto 5, 3) := by decide +kernel
theorem dX11_astray_18 : decode cX11_astray 18 = .ok (.bipush (-2), 2) := by decide +kernel
theorem dX11_astray_20 : decode cX11_astray 20 = .ok (.ireturn, 1) := by decide +kernel
theorem dX11_permit_0 : decode cX11_permit 0 = .ok (.iload_n 1, 1) := by decide +kernel
theorem dX11_permit_1 : decode cX11_permit 1 = .ok (.iconst 0, 1) := by decide +kernel
theorem dX11_permit_2 : decode cX11_permit 2 = .ok (.bipush 99, 2) := by decide +kernel
theorem dX11_permit_4 : decode cX11_permit 4 = .ok (.invokestatic 86, 3) := by decide +kernel
theorem dX11_permit_7 : decode cX11_permit 7 = .ok (.ifCond .ne 6, 3) := by decide +kernel
theorem dX11_permit_10 : decode cX11_permit 10 = .ok (.bipush (-2), 2) := by decide +kernel
theorem dX11_permit_12 : decode cX11_permit 12 = .ok (.ireturn, 1) := by decide +kernel
theorem dX11_permit_13 : decode cX11_permit 13 = .ok (.iload_n 2, 1) := by decide +kernel
theorem dX11_permit_14 : decode cX11_permit 14 = .ok (.iconst 0, 1) := by decide +kernel
theorem dX11_permit_15 : decode cX11_permit 15 = .ok (.bipush 7, 2) := by decide +kernel
theorem dX11_permit_17 : decode cX11_permit 17 = .ok (.invokestatic 86, 3) := by decide +kernel
theorem dX11_permit_20 : decode cX11_permit 20 = .ok (.ifCond .eq 13, 3) := by decide +kernel
theorem dX11_permit_23 : decode cX11_permit 23 = .ok (.iload_n 3, 1) := by decide +kernel
theorem dX11_permit_24 : decode cX11_permit 24 = .ok (.iload_n 2, 1) := by decide +kernel
theorem dX11_permit_25 : decode cX11_permit 25 = .ok (.bipush 7, 2) := by decide +kernel
theorem dX11_permit_27 : decode cX11_permit 27 = .ok (.invokestatic 86, 3) := by decide +kernel
theorem dX11_permit_30 : decode cX11_permit 30 = .ok (.ifCond .ne 6, 3) := by decide +kernel
theorem dX11_permit_33 : decode cX11_permit 33 = .ok (.bipush (-2), 2) := by decide +kernel
theorem dX11_permit_35 : decode cX11_permit 35 = .ok (.ireturn, 1) := by decide +kernel
theorem dX11_permit_36 : decode cX11_permit 36 = .ok (.iload 4, 2) := by decide +kernel
theorem dX11_permit_38 : decode cX11_permit 38 = .ok (.invokestatic 166, 3) := by decide +kernel
theorem dX11_permit_41 : decode cX11_permit 41 = .ok (.ifCond .eq 18, 3) := by decide +kernel
theorem dX11_permit_44 : decode cX11_permit 44 = .ok (.iload 5, 2) := by decide +kernel
theorem dX11_permit_46 : decode cX11_permit 46 = .ok (.invokestatic 166, 3) := by decide +kernel
theorem dX11_permit_49 : decode cX11_permit 49 = .ok (.ifCond .eq 10, 3) := by decide +kernel
theorem dX11_permit_52 : decode cX11_permit 52 = .ok (.iload 5, 2) := by decide +kernel
theorem dX11_permit_54 : decode cX11_permit 54 = .ok (.iload 4, 2) := by decide +kernel
theorem dX11_permit_56 : decode cX11_permit 56 = .ok (.if_icmp .gt 6, 3) := by decide +kernel
theorem dX11_permit_59 : decode cX11_permit 59 = .ok (.bipush (-2), 2) := by decide +kernel
theorem dX11_permit_61 : decode cX11_permit 61 = .ok (.ireturn, 1) := by decide +kernel
theorem dX11_permit_62 : decode cX11_permit 62 = .ok (.aload_n 0, 1) := by decide +kernel
theorem dX11_permit_63 : decode cX11_permit 63 = .ok (.getfield 71, 3) := by decide +kernel
theorem dX11_permit_66 : decode cX11_permit 66 = .ok (.iload_n 1, 1) := by decide +kernel
theorem dX11_permit_67 : decode cX11_permit 67 = .ok (.iload_n 2, 1) := by decide +kernel
theorem dX11_permit_68 : decode cX11_permit 68 = .ok (.iload_n 3, 1) := by decide +kernel
theorem dX11_permit_69 : decode cX11_permit 69 = .ok (.iload 4, 2) := by decide +kernel
theorem dX11_permit_71 : decode cX11_permit 71 = .ok (.iload 5, 2) := by decide +kernel
theorem dX11_permit_73 : decode cX11_permit 73 = .ok (.invokevirtual 209, 3) := by decide +kernel
theorem dX11_permit_76 : decode cX11_permit 76 = .ok (.ireturn, 1) := by decide +kernel
theorem dX11_may_0 : decode cX11_may 0 = .ok (.iload_n 1, 1) := by decide +kernel
theorem dX11_may_1 : decode cX11_may 1 = .ok (.iconst 0, 1) := by decide +kernel
theorem dX11_may_2 : decode cX11_may 2 = .ok (.bipush 99, 2) := by decide +kernel
theorem dX11_may_4 : decode cX11_may 4 = .ok (.invokestatic 86, 3) := by decide +kernel
theorem dX11_may_7 : decode cX11_may 7 = .ok (.ifCond .eq 17, 3) := by decide +kernel
theorem dX11_may_10 : decode cX11_may 10 = .ok (.iload_n 2, 1) := by decide +kernel
theorem dX11_may_11 : decode cX11_may 11 = .ok (.invokestatic 82, 3) := by decide +kernel
theorem dX11_may_14 : decode cX11_may 14 = .ok (.ifCond .eq 10, 3) := by decide +kernel
theorem dX11_may_17 : decode cX11_may 17 = .ok (.iload_n 3, 1) := by decide +kernel
theorem dX11_may_18 : decode cX11_may 18 = .ok (.invokestatic 166, 3) := by decide +kernel
theorem dX11_may_21 : decode cX11_may 21 = .ok (.ifCond .ne 6, 3) := by decide +kernel
theorem dX11_may_24 : decode cX11_may 24 = .ok (.bipush (-2), 2) := by decide +kernel
theorem dX11_may_26 : decode cX11_may 26 = .ok (.ireturn, 1) := by decide +kernel
theorem dX11_may_27 : decode cX11_may 27 = .ok (.aload_n 0, 1) := by decide +kernel
theorem dX11_may_28 : decode cX11_may 28 = .ok (.getfield 71, 3) := by decide +kernel
theorem dX11_may_31 : decode cX11_may 31 = .ok (.iload_n 1, 1) := by decide +kernel
theorem dX11_may_32 : decode cX11_may 32 = .ok (.iload_n 2, 1) := by decide +kernel
theorem dX11_may_33 : decode cX11_may 33 = .ok (.bipush 8, 2) := by decide +kernel
theorem dX11_may_35 : decode cX11_may 35 = .ok (.idiv, 1) := by decide +kernel
theorem dX11_may_36 : decode cX11_may 36 = .ok (.iload_n 3, 1) := by decide +kernel
theorem dX11_may_37 : decode cX11_may 37 = .ok (.invokevirtual 213, 3) := by decide +kernel
theorem dX11_may_40 : decode cX11_may 40 = .ok (.ireturn, 1) := by decide +kernel
theorem dX11_doing_0 : decode cX11_doing 0 = .ok (.iload_n 1, 1) := by decide +kernel
theorem dX11_doing_1 : decode cX11_doing 1 = .ok (.iconst 0, 1) := by decide +kernel
theorem dX11_doing_2 : decode cX11_doing 2 = .ok (.iconst 3, 1) := by decide +kernel
theorem dX11_doing_3 : decode cX11_doing 3 = .ok (.invokestatic 86, 3) := by decide +kernel
theorem dX11_doing_6 : decode cX11_doing 6 = .ok (.ifCond .ne 6, 3) := by decide +kernel
theorem dX11_doing_9 : decode cX11_doing 9 = .ok (.bipush (-2), 2) := by decide +kernel
theorem dX11_doing_11 : decode cX11_doing 11 = .ok (.ireturn, 1) := by decide +kernel
theorem dX11_doing_12 : decode cX11_doing 12 = .ok (.iload_n 2, 1) := by decide +kernel
theorem dX11_doing_13 : decode cX11_doing 13 = .ok (.invokestatic 82, 3) := by decide +kernel
theorem dX11_doing_16 : decode cX11_doing 16 = .ok (.ifCond .eq 10, 3) := by decide +kernel
theorem dX11_doing_19 : decode cX11_doing 19 = .ok (.iload_n 3, 1) := by decide +kernel
theorem dX11_doing_20 : decode cX11_doing 20 = .ok (.invokestatic 166, 3) := by decide +kernel
theorem dX11_doing_23 : decode cX11_doing 23 = .ok (.ifCond .ne 6, 3) := by decide +kernel
theorem dX11_doing_26 : decode cX11_doing 26 = .ok (.bipush (-2), 2) := by decide +kernel
theorem dX11_doing_28 : decode cX11_doing 28 = .ok (.ireturn, 1) := by decide +kernel
theorem dX11_doing_29 : decode cX11_doing 29 = .ok (.aload_n 0, 1) := by decide +kernel
theorem dX11_doing_30 : decode cX11_doing 30 = .ok (.getfield 46, 3) := by decide +kernel
theorem dX11_doing_33 : decode cX11_doing 33 = .ok (.iload_n 1, 1) := by decide +kernel
theorem dX11_doing_34 : decode cX11_doing 34 = .ok (.iload_n 2, 1) := by decide +kernel
theorem dX11_doing_35 : decode cX11_doing 35 = .ok (.iload_n 3, 1) := by decide +kernel
theorem dX11_doing_36 : decode cX11_doing 36 = .ok (.invokevirtual 217, 3) := by decide +kernel
theorem dX11_doing_39 : decode cX11_doing 39 = .ok (.ireturn, 1) := by decide +kernel
theorem dX11_report_0 : decode cX11_report 0 = .ok (.aload_n 0, 1) := by decide +kernel
theorem dX11_report_1 : decode cX11_report 1 = .ok (.getfield 21, 3) := by decide +kernel
theorem dX11_report_4 : decode cX11_report 4 = .ok (.iload_n 1, 1) := by decide +kernel
theorem dX11_report_5 : decode cX11_report 5 = .ok (.invokevirtual 128, 3) := by decide +kernel
theorem dX11_report_8 : decode cX11_report 8 = .ok (.ifCond .eq 25, 3) := by decide +kernel
theorem dX11_report_11 : decode cX11_report 11 = .ok (.iload_n 2, 1) := by decide +kernel
theorem dX11_report_12 : decode cX11_report 12 = .ok (.invokestatic 166, 3) := by decide +kernel
theorem dX11_report_15 : decode cX11_report 15 = .ok (.ifCond .eq 18, 3) := by decide +kernel
theorem dX11_report_18 : decode cX11_report 18 = .ok (.iload_n 3, 1) := by decide +kernel
theorem dX11_report_19 : decode cX11_report 19 = .ok (.invokestatic 147, 3) := by decide +kernel
theorem dX11_report_22 : decode cX11_report 22 = .ok (.ifCond .eq 11, 3) := by decide +kernel
theorem dX11_report_25 : decode cX11_report 25 = .ok (.iload 4, 2) := by decide +kernel
theorem dX11_report_27 : decode cX11_report 27 = .ok (.invokestatic 147, 3) := by decide +kernel
theorem dX11_report_30 : decode cX11_report 30 = .ok (.ifCond .ne 6, 3) := by decide +kernel
theorem dX11_report_33 : decode cX11_report 33 = .ok (.bipush (-2), 2) := by decide +kernel
theorem dX11_report_35 : decode cX11_report 35 = .ok (.ireturn, 1) := by decide +kernel
theorem dX11_report_36 : decode cX11_report 36 = .ok (.aload_n 0, 1) := by decide +kernel
theorem dX11_report_37 : decode cX11_report 37 = .ok (.getfield 46, 3) := by decide +kernel
theorem dX11_report_40 : decode cX11_report 40 = .ok (.iload_n 1, 1) := by decide +kernel
theorem dX11_report_41 : decode cX11_report 41 = .ok (.iload_n 2, 1) := by decide +kernel
theorem dX11_report_42 : decode cX11_report 42 = .ok (.iload_n 3, 1) := by decide +kernel
theorem dX11_report_43 : decode cX11_report 43 = .ok (.iload 4, 2) := by decide +kernel
theorem dX11_report_45 : decode cX11_report 45 = .ok (.iconst 1, 1) := by decide +kernel
theorem dX11_report_46 : decode cX11_report 46 = .ok (.if_icmp .ne 7, 3) := by decide +kernel
theorem dX11_report_49 : decode cX11_report 49 = .ok (.iconst 1, 1) := by decide +kernel
theorem dX11_report_50 : decode cX11_report 50 = .ok (.goto 4, 3) := by decide +kernel
theorem dX11_report_53 : decode cX11_report 53 = .ok (.iconst 0, 1) := by decide +kernel
theorem dX11_report_54 : decode cX11_report 54 = .ok (.invokevirtual 220, 3) := by decide +kernel
theorem dX11_report_57 : decode cX11_report 57 = .ok (.ireturn, 1) := by decide +kernel
theorem dX11_takeBack_0 : decode cX11_takeBack 0 = .ok (.iload_n 1, 1) := by decide +kernel
theorem dX11_takeBack_1 : decode cX11_takeBack 1 = .ok (.iconst 0, 1) := by decide +kernel
theorem dX11_takeBack_2 : decode cX11_takeBack 2 = .ok (.aload_n 0, 1) := by decide +kernel
theorem dX11_takeBack_3 : decode cX11_takeBack 3 = .ok (.getfield 46, 3) := by decide +kernel
theorem dX11_takeBack_6 : decode cX11_takeBack 6 = .ok (.getfield 224, 3) := by decide +kernel
theorem dX11_takeBack_9 : decode cX11_takeBack 9 = .ok (.iconst 1, 1) := by decide +kernel
theorem dX11_takeBack_10 : decode cX11_takeBack 10 = .ok (.isub, 1) := by decide +kernel
theorem dX11_takeBack_11 : decode cX11_takeBack 11 = .ok (.invokestatic 86, 3) := by decide +kernel
theorem dX11_takeBack_14 : decode cX11_takeBack 14 = .ok (.ifCond .ne 6, 3) := by decide +kernel
theorem dX11_takeBack_17 : decode cX11_takeBack 17 = .ok (.bipush (-2), 2) := by decide +kernel
theorem dX11_takeBack_19 : decode cX11_takeBack 19 = .ok (.ireturn, 1) := by decide +kernel
theorem dX11_takeBack_20 : decode cX11_takeBack 20 = .ok (.aload_n 0, 1) := by decide +kernel
theorem dX11_takeBack_21 : decode cX11_takeBack 21 = .ok (.getfield 46, 3) := by decide +kernel
theorem dX11_takeBack_24 : decode cX11_takeBack 24 = .ok (.iload_n 1, 1) := by decide +kernel
theorem dX11_takeBack_25 : decode cX11_takeBack 25 = .ok (.invokevirtual 227, 3) := by decide +kernel
theorem dX11_takeBack_28 : decode cX11_takeBack 28 = .ok (.ireturn, 1) := by decide +kernel
theorem dX11_lets_0 : decode cX11_lets 0 = .ok (.iload_n 1, 1) := by decide +kernel
theorem dX11_lets_1 : decode cX11_lets 1 = .ok (.iconst 0, 1) := by decide +kernel
theorem dX11_lets_2 : decode cX11_lets 2 = .ok (.aload_n 0, 1) := by decide +kernel
theorem dX11_lets_3 : decode cX11_lets 3 = .ok (.getfield 46, 3) := by decide +kernel
theorem dX11_lets_6 : decode cX11_lets 6 = .ok (.getfield 224, 3) := by decide +kernel
theorem dX11_lets_9 : decode cX11_lets 9 = .ok (.iconst 1, 1) := by decide +kernel
theorem dX11_lets_10 : decode cX11_lets 10 = .ok (.isub, 1) := by decide +kernel
theorem dX11_lets_11 : decode cX11_lets 11 = .ok (.invokestatic 86, 3) := by decide +kernel
theorem dX11_lets_14 : decode cX11_lets 14 = .ok (.ifCond .ne 6, 3) := by decide +kernel
theorem dX11_lets_17 : decode cX11_lets 17 = .ok (.bipush (-2), 2) := by decide +kernel
theorem dX11_lets_19 : decode cX11_lets 19 = .ok (.ireturn, 1) := by decide +kernel
theorem dX11_lets_20 : decode cX11_lets 20 = .ok (.iload_n 2, 1) := by decide +kernel
theorem dX11_lets_21 : decode cX11_lets 21 = .ok (.iconst 0, 1) := by decide +kernel
theorem dX11_lets_22 : decode cX11_lets 22 = .ok (.aload_n 0, 1) := by decide +kernel
theorem dX11_lets_23 : decode cX11_lets 23 = .ok (.getfield 46, 3) := by decide +kernel
theorem dX11_lets_26 : decode cX11_lets 26 = .ok (.getfield 230, 3) := by decide +kernel
theorem dX11_lets_29 : decode cX11_lets 29 = .ok (.iconst 1, 1) := by decide +kernel
theorem dX11_lets_30 : decode cX11_lets 30 = .ok (.isub, 1) := by decide +kernel
theorem dX11_lets_31 : decode cX11_lets 31 = .ok (.invokestatic 86, 3) := by decide +kernel
theorem dX11_lets_34 : decode cX11_lets 34 = .ok (.ifCond .ne 6, 3) := by decide +kernel
theorem dX11_lets_37 : decode cX11_lets 37 = .ok (.bipush (-2), 2) := by decide +kernel
theorem dX11_lets_39 : decode cX11_lets 39 = .ok (.ireturn, 1) := by decide +kernel
theorem dX11_lets_40 : decode cX11_lets 40 = .ok (.aload_n 0, 1) := by decide +kernel
theorem dX11_lets_41 : decode cX11_lets 41 = .ok (.getfield 46, 3) := by decide +kernel
theorem dX11_lets_44 : decode cX11_lets 44 = .ok (.iload_n 2, 1) := by decide +kernel
theorem dX11_lets_45 : decode cX11_lets 45 = .ok (.iload_n 1, 1) := by decide +kernel
theorem dX11_lets_46 : decode cX11_lets 46 = .ok (.invokevirtual 233, 3) := by decide +kernel
theorem dX11_lets_49 : decode cX11_lets 49 = .ok (.invokestatic 114, 3) := by decide +kernel
theorem dX11_lets_52 : decode cX11_lets 52 = .ok (.ireturn, 1) := by decide +kernel
theorem dX11_left_0 : decode cX11_left 0 = .ok (.aload_n 0, 1) := by decide +kernel
theorem dX11_left_1 : decode cX11_left 1 = .ok (.getfield 46, 3) := by decide +kernel
theorem dX11_left_4 : decode cX11_left 4 = .ok (.invokevirtual 236, 3) := by decide +kernel
theorem dX11_left_7 : decode cX11_left 7 = .ok (.ireturn, 1) := by decide +kernel
theorem dX11_worst_0 : decode cX11_worst 0 = .ok (.aload_n 0, 1) := by decide +kernel
theorem dX11_worst_1 : decode cX11_worst 1 = .ok (.getfield 21, 3) := by decide +kernel
theorem dX11_worst_4 : decode cX11_worst 4 = .ok (.iload_n 1, 1) := by decide +kernel
theorem dX11_worst_5 : decode cX11_worst 5 = .ok (.invokevirtual 128, 3) := by decide +kernel
theorem dX11_worst_8 : decode cX11_worst 8 = .ok (.ifCond .eq 18, 3) := by decide +kernel
theorem dX11_worst_11 : decode cX11_worst 11 = .ok (.aload_n 0, 1) := by decide +kernel
theorem dX11_worst_12 : decode cX11_worst 12 = .ok (.getfield 21, 3) := by decide +kernel
theorem dX11_worst_15 : decode cX11_worst 15 = .ok (.getfield 131, 3) := by decide +kernel
theorem dX11_worst_18 : decode cX11_worst 18 = .ok (.iload_n 1, 1) := by decide +kernel
theorem dX11_worst_19 : decode cX11_worst 19 = .ok (.aaload, 1) := by decide +kernel
theorem dX11_worst_20 : decode cX11_worst 20 = .ok (.getfield 150, 3) := by decide +kernel
theorem dX11_worst_23 : decode cX11_worst 23 = .ok (.ifCond .eq 6, 3) := by decide +kernel
theorem dX11_worst_26 : decode cX11_worst 26 = .ok (.bipush (-2), 2) := by decide +kernel
theorem dX11_worst_28 : decode cX11_worst 28 = .ok (.ireturn, 1) := by decide +kernel
theorem dX11_worst_29 : decode cX11_worst 29 = .ok (.iload_n 2, 1) := by decide +kernel
theorem dX11_worst_30 : decode cX11_worst 30 = .ok (.invokestatic 166, 3) := by decide +kernel
theorem dX11_worst_33 : decode cX11_worst 33 = .ok (.ifCond .eq 10, 3) := by decide +kernel
theorem dX11_worst_36 : decode cX11_worst 36 = .ok (.iload_n 3, 1) := by decide +kernel
theorem dX11_worst_37 : decode cX11_worst 37 = .ok (.invokestatic 147, 3) := by decide +kernel
theorem dX11_worst_40 : decode cX11_worst 40 = .ok (.ifCond .ne 6, 3) := by decide +kernel
theorem dX11_worst_43 : decode cX11_worst 43 = .ok (.bipush (-2), 2) := by decide +kernel
theorem dX11_worst_45 : decode cX11_worst 45 = .ok (.ireturn, 1) := by decide +kernel
theorem dX11_worst_46 : decode cX11_worst 46 = .ok (.aload_n 0, 1) := by decide +kernel
theorem dX11_worst_47 : decode cX11_worst 47 = .ok (.getfield 46, 3) := by decide +kernel
theorem dX11_worst_50 : decode cX11_worst 50 = .ok (.iload_n 1, 1) := by decide +kernel
theorem dX11_worst_51 : decode cX11_worst 51 = .ok (.iload_n 2, 1) := by decide +kernel
theorem dX11_worst_52 : decode cX11_worst 52 = .ok (.iload_n 3, 1) := by decide +kernel
theorem dX11_worst_53 : decode cX11_worst 53 = .ok (.aload_n 0, 1) := by decide +kernel
theorem dX11_worst_54 : decode cX11_worst 54 = .ok (.getfield 46, 3) := by decide +kernel
theorem dX11_worst_57 : decode cX11_worst 57 = .ok (.invokevirtual 236, 3) := by decide +kernel
theorem dX11_worst_60 : decode cX11_worst 60 = .ok (.invokevirtual 239, 3) := by decide +kernel
theorem dX11_worst_63 : decode cX11_worst 63 = .ok (.ireturn, 1) := by decide +kernel
theorem dX11_look_0 : decode cX11_look 0 = .ok (.iload_n 1, 1) := by decide +kernel
theorem dX11_look_1 : decode cX11_look 1 = .ok (.invokestatic 166, 3) := by decide +kernel
theorem dX11_look_4 : decode cX11_look 4 = .ok (.ifCond .eq 21, 3) := by decide +kernel
theorem dX11_look_7 : decode cX11_look 7 = .ok (.aload_n 0, 1) := by decide +kernel
theorem dX11_look_8 : decode cX11_look 8 = .ok (.getfield 46, 3) := by decide +kernel
theorem dX11_look_11 : decode cX11_look 11 = .ok (.iload_n 1, 1) := by decide +kernel
theorem dX11_look_12 : decode cX11_look 12 = .ok (.aload_n 0, 1) := by decide +kernel
theorem dX11_look_13 : decode cX11_look 13 = .ok (.getfield 46, 3) := by decide +kernel
theorem dX11_look_16 : decode cX11_look 16 = .ok (.invokevirtual 236, 3) := by decide +kernel
theorem dX11_look_19 : decode cX11_look 19 = .ok (.invokevirtual 242, 3) := by decide +kernel
theorem dX11_look_22 : decode cX11_look 22 = .ok (.goto 5, 3) := by decide +kernel
theorem dX11_look_25 : decode cX11_look 25 = .ok (.bipush (-2), 2) := by decide +kernel
theorem dX11_look_27 : decode cX11_look 27 = .ok (.ireturn, 1) := by decide +kernel
theorem dX11_finding_0 : decode cX11_finding 0 = .ok (.iload_n 1, 1) := by decide +kernel
theorem dX11_finding_1 : decode cX11_finding 1 = .ok (.iconst 0, 1) := by decide +kernel
theorem dX11_finding_2 : decode cX11_finding 2 = .ok (.aload_n 0, 1) := by decide +kernel
theorem dX11_finding_3 : decode cX11_finding 3 = .ok (.getfield 46, 3) := by decide +kernel
theorem dX11_finding_6 : decode cX11_finding 6 = .ok (.getfield 230, 3) := by decide +kernel
theorem dX11_finding_9 : decode cX11_finding 9 = .ok (.iconst 1, 1) := by decide +kernel
theorem dX11_finding_10 : decode cX11_finding 10 = .ok (.isub, 1) := by decide +kernel
theorem dX11_finding_11 : decode cX11_finding 11 = .ok (.invokestatic 86, 3) := by decide +kernel
theorem dX11_finding_14 : decode cX11_finding 14 = .ok (.ifCond .ne 6, 3) := by decide +kernel
theorem dX11_finding_17 : decode cX11_finding 17 = .ok (.bipush (-2), 2) := by decide +kernel
theorem dX11_finding_19 : decode cX11_finding 19 = .ok (.ireturn, 1) := by decide +kernel
theorem dX11_finding_20 : decode cX11_finding 20 = .ok (.iload_n 2, 1) := by decide +kernel
theorem dX11_finding_21 : decode cX11_finding 21 = .ok (.aload_n 0, 1) := by decide +kernel
theorem dX11_finding_22 : decode cX11_finding 22 = .ok (.getfield 46, 3) := by decide +kernel
theorem dX11_finding_25 : decode cX11_finding 25 = .ok (.getfield 224, 3) := by decide +kernel
theorem dX11_finding_28 : decode cX11_finding 28 = .ok (.invokestatic 245, 3) := by decide +kernel
theorem dX11_finding_31 : decode cX11_finding 31 = .ok (.ifCond .eq 17, 3) := by decide +kernel
theorem dX11_finding_34 : decode cX11_finding 34 = .ok (.iload_n 3, 1) := by decide +kernel
theorem dX11_finding_35 : decode cX11_finding 35 = .ok (.aload_n 0, 1) := by decide +kernel
theorem dX11_finding_36 : decode cX11_finding 36 = .ok (.getfield 46, 3) := by decide +kernel
theorem dX11_finding_39 : decode cX11_finding 39 = .ok (.getfield 248, 3) := by decide +kernel
theorem dX11_finding_42 : decode cX11_finding 42 = .ok (.invokestatic 245, 3) := by decide +kernel
theorem dX11_finding_45 : decode cX11_finding 45 = .ok (.ifCond .ne 6, 3) := by decide +kernel
theorem dX11_finding_48 : decode cX11_finding 48 = .ok (.bipush (-2), 2) := by decide +kernel
theorem dX11_finding_50 : decode cX11_finding 50 = .ok (.ireturn, 1) := by decide +kernel
theorem dX11_finding_51 : decode cX11_finding 51 = .ok (.aload_n 0, 1) := by decide +kernel
theorem dX11_finding_52 : decode cX11_finding 52 = .ok (.getfield 46, 3) := by decide +kernel
theorem dX11_finding_55 : decode cX11_finding 55 = .ok (.iload_n 1, 1) := by decide +kernel
theorem dX11_finding_56 : decode cX11_finding 56 = .ok (.iload_n 2, 1) := by decide +kernel
theorem dX11_finding_57 : decode cX11_finding 57 = .ok (.iload_n 3, 1) := by decide +kernel
theorem dX11_finding_58 : decode cX11_finding 58 = .ok (.invokevirtual 251, 3) := by decide +kernel
theorem dX11_finding_61 : decode cX11_finding 61 = .ok (.ireturn, 1) := by decide +kernel
theorem dX11_standing_0 : decode cX11_standing 0 = .ok (.aload_n 0, 1) := by decide +kernel
theorem dX11_standing_1 : decode cX11_standing 1 = .ok (.getfield 46, 3) := by decide +kernel
theorem dX11_standing_4 : decode cX11_standing 4 = .ok (.invokevirtual 254, 3) := by decide +kernel
theorem dX11_standing_7 : decode cX11_standing 7 = .ok (.ireturn, 1) := by decide +kernel
theorem dX11_hold_0 : decode cX11_hold 0 = .ok (.aload_n 0, 1) := by decide +kernel
theorem dX11_hold_1 : decode cX11_hold 1 = .ok (.getfield 21, 3) := by decide +kernel
theorem dX11_hold_4 : decode cX11_hold 4 = .ok (.iload_n 1, 1) := by decide +kernel
theorem dX11_hold_5 : decode cX11_hold 5 = .ok (.invokevirtual 128, 3) := by decide +kernel
theorem dX11_hold_8 : decode cX11_hold 8 = .ok (.ifCond .eq 10, 3) := by decide +kernel
theorem dX11_hold_11 : decode cX11_hold 11 = .ok (.iload_n 2, 1) := by decide +kernel
theorem dX11_hold_12 : decode cX11_hold 12 = .ok (.invokestatic 147, 3) := by decide +kernel
theorem dX11_hold_15 : decode cX11_hold 15 = .ok (.ifCond .ne 6, 3) := by decide +kernel
theorem dX11_hold_18 : decode cX11_hold 18 = .ok (.bipush (-2), 2) := by decide +kernel
theorem dX11_hold_20 : decode cX11_hold 20 = .ok (.ireturn, 1) := by decide +kernel
theorem dX11_hold_21 : decode cX11_hold 21 = .ok (.aload_n 0, 1) := by decide +kernel
theorem dX11_hold_22 : decode cX11_hold 22 = .ok (.getfield 21, 3) := by decide +kernel
theorem dX11_hold_25 : decode cX11_hold 25 = .ok (.getfield 131, 3) := by decide +kernel
theorem dX11_hold_28 : decode cX11_hold 28 = .ok (.iload_n 1, 1) := by decide +kernel
theorem dX11_hold_29 : decode cX11_hold 29 = .ok (.aaload, 1) := by decide +kernel
theorem dX11_hold_30 : decode cX11_hold 30 = .ok (.astore_n 3, 1) := by decide +kernel
theorem dX11_hold_31 : decode cX11_hold 31 = .ok (.aload_n 3, 1) := by decide +kernel
theorem dX11_hold_32 : decode cX11_hold 32 = .ok (.getfield 163, 3) := by decide +kernel
theorem dX11_hold_35 : decode cX11_hold 35 = .ok (.invokestatic 114, 3) := by decide +kernel
theorem dX11_hold_38 : decode cX11_hold 38 = .ok (.istore 4, 2) := by decide +kernel
theorem dX11_hold_40 : decode cX11_hold 40 = .ok (.aload_n 3, 1) := by decide +kernel
theorem dX11_hold_41 : decode cX11_hold 41 = .ok (.iload_n 2, 1) := by decide +kernel
theorem dX11_hold_42 : decode cX11_hold 42 = .ok (.iconst 1, 1) := by decide +kernel
theorem dX11_hold_43 : decode cX11_hold 43 = .ok (.if_icmp .ne 7, 3) := by decide +kernel
theorem dX11_hold_46 : decode cX11_hold 46 = .ok (.iconst 1, 1) := by decide +kernel
theorem dX11_hold_47 : decode cX11_hold 47 = .ok (.goto 4, 3) := by decide +kernel
theorem dX11_hold_50 : decode cX11_hold 50 = .ok (.iconst 0, 1) := by decide +kernel
theorem dX11_hold_51 : decode cX11_hold 51 = .ok (.putfield 163, 3) := by decide +kernel
theorem dX11_hold_54 : decode cX11_hold 54 = .ok (.iload 4, 2) := by decide +kernel
theorem dX11_hold_56 : decode cX11_hold 56 = .ok (.ireturn, 1) := by decide +kernel
theorem dX11_shots_0 : decode cX11_shots 0 = .ok (.aload_n 0, 1) := by decide +kernel
theorem dX11_shots_1 : decode cX11_shots 1 = .ok (.getfield 21, 3) := by decide +kernel
theorem dX11_shots_4 : decode cX11_shots 4 = .ok (.iload_n 1, 1) := by decide +kernel
theorem dX11_shots_5 : decode cX11_shots 5 = .ok (.invokevirtual 257, 3) := by decide +kernel
theorem dX11_shots_8 : decode cX11_shots 8 = .ok (.ifCond .eq 20, 3) := by decide +kernel
theorem dX11_shots_11 : decode cX11_shots 11 = .ok (.iload_n 2, 1) := by decide +kernel
theorem dX11_shots_12 : decode cX11_shots 12 = .ok (.invokestatic 166, 3) := by decide +kernel
theorem dX11_shots_15 : decode cX11_shots 15 = .ok (.ifCond .eq 13, 3) := by decide +kernel
theorem dX11_shots_18 : decode cX11_shots 18 = .ok (.iload_n 3, 1) := by decide +kernel
theorem dX11_shots_19 : decode cX11_shots 19 = .ok (.iconst 0, 1) := by decide +kernel
theorem dX11_shots_20 : decode cX11_shots 20 = .ok (.bipush 24, 2) := by decide +kernel
theorem dX11_shots_22 : decode cX11_shots 22 = .ok (.invokestatic 86, 3) := by decide +kernel
theorem dX11_shots_25 : decode cX11_shots 25 = .ok (.ifCond .ne 6, 3) := by decide +kernel
theorem dX11_shots_28 : decode cX11_shots 28 = .ok (.bipush (-2), 2) := by decide +kernel
theorem dX11_shots_30 : decode cX11_shots 30 = .ok (.ireturn, 1) := by decide +kernel
theorem dX11_shots_31 : decode cX11_shots 31 = .ok (.aload_n 0, 1) := by decide +kernel
theorem dX11_shots_32 : decode cX11_shots 32 = .ok (.getfield 55, 3) := by decide +kernel
theorem dX11_shots_35 : decode cX11_shots 35 = .ok (.iload_n 1, 1) := by decide +kernel
theorem dX11_shots_36 : decode cX11_shots 36 = .ok (.iload_n 2, 1) := by decide +kernel
theorem dX11_shots_37 : decode cX11_shots 37 = .ok (.iload_n 3, 1) := by decide +kernel
theorem dX11_shots_38 : decode cX11_shots 38 = .ok (.aload_n 0, 1) := by decide +kernel
theorem dX11_shots_39 : decode cX11_shots 39 = .ok (.getfield 21, 3) := by decide +kernel
theorem dX11_shots_42 : decode cX11_shots 42 = .ok (.invokevirtual 260, 3) := by decide +kernel
theorem dX11_shots_45 : decode cX11_shots 45 = .ok (.invokevirtual 263, 3) := by decide +kernel
theorem dX11_shots_48 : decode cX11_shots 48 = .ok (.ireturn, 1) := by decide +kernel
theorem dX11_calm_0 : decode cX11_calm 0 = .ok (.aload_n 0, 1) := by decide +kernel
theorem dX11_calm_1 : decode cX11_calm 1 = .ok (.getfield 21, 3) := by decide +kernel
theorem dX11_calm_4 : decode cX11_calm 4 = .ok (.iload_n 1, 1) := by decide +kernel
theorem dX11_calm_5 : decode cX11_calm 5 = .ok (.invokevirtual 257, 3) := by decide +kernel
theorem dX11_calm_8 : decode cX11_calm 8 = .ok (.ifCond .eq 10, 3) := by decide +kernel
theorem dX11_calm_11 : decode cX11_calm 11 = .ok (.iload_n 2, 1) := by decide +kernel
theorem dX11_calm_12 : decode cX11_calm 12 = .ok (.invokestatic 166, 3) := by decide +kernel
theorem dX11_calm_15 : decode cX11_calm 15 = .ok (.ifCond .ne 6, 3) := by decide +kernel
theorem dX11_calm_18 : decode cX11_calm 18 = .ok (.bipush (-2), 2) := by decide +kernel
theorem dX11_calm_20 : decode cX11_calm 20 = .ok (.ireturn, 1) := by decide +kernel
theorem dX11_calm_21 : decode cX11_calm 21 = .ok (.iload_n 3, 1) := by decide +kernel
theorem dX11_calm_22 : decode cX11_calm 22 = .ok (.aload_n 0, 1) := by decide +kernel
theorem dX11_calm_23 : decode cX11_calm 23 = .ok (.getfield 21, 3) := by decide +kernel
theorem dX11_calm_26 : decode cX11_calm 26 = .ok (.getfield 266, 3) := by decide +kernel
theorem dX11_calm_29 : decode cX11_calm 29 = .ok (.invokestatic 245, 3) := by decide +kernel
theorem dX11_calm_32 : decode cX11_calm 32 = .ok (.ifCond .eq 12, 3) := by decide +kernel
theorem dX11_calm_35 : decode cX11_calm 35 = .ok (.iload_n 3, 1) := by decide +kernel
theorem dX11_calm_36 : decode cX11_calm 36 = .ok (.invokestatic 269, 3) := by decide +kernel
theorem dX11_calm_39 : decode cX11_calm 39 = .ok (.bipush 6, 2) := by decide +kernel
theorem dX11_calm_41 : decode cX11_calm 41 = .ok (.if_icmp .le 6, 3) := by decide +kernel
theorem dX11_calm_44 : decode cX11_calm 44 = .ok (.bipush (-2), 2) := by decide +kernel
theorem dX11_calm_46 : decode cX11_calm 46 = .ok (.ireturn, 1) := by decide +kernel
theorem dX11_calm_47 : decode cX11_calm 47 = .ok (.iload 4, 2) := by decide +kernel
theorem dX11_calm_49 : decode cX11_calm 49 = .ok (.iconst 1, 1) := by decide +kernel
theorem dX11_calm_50 : decode cX11_calm 50 = .ok (.bipush 24, 2) := by decide +kernel
theorem dX11_calm_52 : decode cX11_calm 52 = .ok (.invokestatic 86, 3) := by decide +kernel
theorem dX11_calm_55 : decode cX11_calm 55 = .ok (.ifCond .ne 6, 3) := by decide +kernel
theorem dX11_calm_58 : decode cX11_calm 58 = .ok (.bipush (-2), 2) := by decide +kernel
theorem dX11_calm_60 : decode cX11_calm 60 = .ok (.ireturn, 1) := by decide +kernel
theorem dX11_calm_61 : decode cX11_calm 61 = .ok (.aload_n 0, 1) := by decide +kernel
theorem dX11_calm_62 : decode cX11_calm 62 = .ok (.getfield 55, 3) := by decide +kernel
theorem dX11_calm_65 : decode cX11_calm 65 = .ok (.iload_n 1, 1) := by decide +kernel
theorem dX11_calm_66 : decode cX11_calm 66 = .ok (.iload_n 2, 1) := by decide +kernel
theorem dX11_calm_67 : decode cX11_calm 67 = .ok (.iload_n 3, 1) := by decide +kernel
theorem dX11_calm_68 : decode cX11_calm 68 = .ok (.iload 4, 2) := by decide +kernel
theorem dX11_calm_70 : decode cX11_calm 70 = .ok (.invokevirtual 274, 3) := by decide +kernel
theorem dX11_calm_73 : decode cX11_calm 73 = .ok (.ireturn, 1) := by decide +kernel
theorem dX11_list_0 : decode cX11_list 0 = .ok (.iload_n 1, 1) := by decide +kernel
theorem dX11_list_1 : decode cX11_list 1 = .ok (.invokestatic 82, 3) := by decide +kernel
theorem dX11_list_4 : decode cX11_list 4 = .ok (.ifCond .eq 14, 3) := by decide +kernel
theorem dX11_list_7 : decode cX11_list 7 = .ok (.aload_n 0, 1) := by decide +kernel
theorem dX11_list_8 : decode cX11_list 8 = .ok (.getfield 64, 3) := by decide +kernel
theorem dX11_list_11 : decode cX11_list 11 = .ok (.iload_n 1, 1) := by decide +kernel
theorem dX11_list_12 : decode cX11_list 12 = .ok (.invokevirtual 277, 3) := by decide +kernel
theorem dX11_list_15 : decode cX11_list 15 = .ok (.goto 5, 3) := by decide +kernel
theorem dX11_list_18 : decode cX11_list 18 = .ok (.bipush (-2), 2) := by decide +kernel
theorem dX11_list_20 : decode cX11_list 20 = .ok (.ireturn, 1) := by decide +kernel
theorem dX11_cover_0 : decode cX11_cover 0 = .ok (.iload_n 1, 1) := by decide +kernel
theorem dX11_cover_1 : decode cX11_cover 1 = .ok (.iconst 0, 1) := by decide +kernel
theorem dX11_cover_2 : decode cX11_cover 2 = .ok (.bipush 10, 2) := by decide +kernel
theorem dX11_cover_4 : decode cX11_cover 4 = .ok (.invokestatic 86, 3) := by decide +kernel
theorem dX11_cover_7 : decode cX11_cover 7 = .ok (.ifCond .eq 17, 3) := by decide +kernel
theorem dX11_cover_10 : decode cX11_cover 10 = .ok (.iload_n 2, 1) := by decide +kernel
theorem dX11_cover_11 : decode cX11_cover 11 = .ok (.invokestatic 166, 3) := by decide +kernel
theorem dX11_cover_14 : decode cX11_cover 14 = .ok (.ifCond .eq 10, 3) := by decide +kernel
theorem dX11_cover_17 : decode cX11_cover 17 = .ok (.iload_n 3, 1) := by decide +kernel
theorem dX11_cover_18 : decode cX11_cover 18 = .ok (.invokestatic 147, 3) := by decide +kernel
theorem dX11_cover_21 : decode cX11_cover 21 = .ok (.ifCond .ne 6, 3) := by decide +kernel
theorem dX11_cover_24 : decode cX11_cover 24 = .ok (.bipush (-2), 2) := by decide +kernel
theorem dX11_cover_26 : decode cX11_cover 26 = .ok (.ireturn, 1) := by decide +kernel
theorem dX11_cover_27 : decode cX11_cover 27 = .ok (.iload_n 1, 1) := by decide +kernel
theorem dX11_cover_28 : decode cX11_cover 28 = .ok (.aload_n 0, 1) := by decide +kernel
theorem dX11_cover_29 : decode cX11_cover 29 = .ok (.getfield 64, 3) := by decide +kernel
theorem dX11_cover_32 : decode cX11_cover 32 = .ok (.getfield 280, 3) := by decide +kernel
theorem dX11_cover_35 : decode cX11_cover 35 = .ok (.if_icmp .le 5, 3) := by decide +kernel
theorem dX11_cover_38 : decode cX11_cover 38 = .ok (.iconst (-1), 1) := by decide +kernel
theorem dX11_cover_39 : decode cX11_cover 39 = .ok (.ireturn, 1) := by decide +kernel
theorem dX11_cover_40 : decode cX11_cover 40 = .ok (.aload_n 0, 1) := by decide +kernel
theorem dX11_cover_41 : decode cX11_cover 41 = .ok (.getfield 64, 3) := by decide +kernel
theorem dX11_cover_44 : decode cX11_cover 44 = .ok (.iload_n 1, 1) := by decide +kernel
theorem dX11_cover_45 : decode cX11_cover 45 = .ok (.iload_n 2, 1) := by decide +kernel
theorem dX11_cover_46 : decode cX11_cover 46 = .ok (.invokevirtual 283, 3) := by decide +kernel
theorem dX11_cover_49 : decode cX11_cover 49 = .ok (.istore 4, 2) := by decide +kernel
theorem dX11_cover_51 : decode cX11_cover 51 = .ok (.iload_n 3, 1) := by decide +kernel
theorem dX11_cover_52 : decode cX11_cover 52 = .ok (.ifCond .ne 8, 3) := by decide +kernel
theorem dX11_cover_55 : decode cX11_cover 55 = .ok (.iload 4, 2) := by decide +kernel
theorem dX11_cover_57 : decode cX11_cover 57 = .ok (.goto 15, 3) := by decide +kernel
theorem dX11_cover_60 : decode cX11_cover 60 = .ok (.aload_n 0, 1) := by decide +kernel
theorem dX11_cover_61 : decode cX11_cover 61 = .ok (.getfield 64, 3) := by decide +kernel
theorem dX11_cover_64 : decode cX11_cover 64 = .ok (.iload 4, 2) := by decide +kernel
theorem dX11_cover_66 : decode cX11_cover 66 = .ok (.invokevirtual 286, 3) := by decide +kernel
theorem dX11_cover_69 : decode cX11_cover 69 = .ok (.invokestatic 290, 3) := by decide +kernel
theorem dX11_cover_72 : decode cX11_cover 72 = .ok (.ireturn, 1) := by decide +kernel
theorem dX11_drawBack_0 : decode cX11_drawBack 0 = .ok (.aload_n 0, 1) := by decide +kernel
theorem dX11_drawBack_1 : decode cX11_drawBack 1 = .ok (.getfield 64, 3) := by decide +kernel
theorem dX11_drawBack_4 : decode cX11_drawBack 4 = .ok (.iload_n 1, 1) := by decide +kernel
theorem dX11_drawBack_5 : decode cX11_drawBack 5 = .ok (.invokevirtual 295, 3) := by decide +kernel
theorem dX11_drawBack_8 : decode cX11_drawBack 8 = .ok (.ifCond .eq 14, 3) := by decide +kernel
theorem dX11_drawBack_11 : decode cX11_drawBack 11 = .ok (.iload_n 2, 1) := by decide +kernel
theorem dX11_drawBack_12 : decode cX11_drawBack 12 = .ok (.iconst 0, 1) := by decide +kernel
theorem dX11_drawBack_13 : decode cX11_drawBack 13 = .ok (.sipush 9999, 3) := by decide +kernel
theorem dX11_drawBack_16 : decode cX11_drawBack 16 = .ok (.invokestatic 86, 3) := by decide +kernel
theorem dX11_drawBack_19 : decode cX11_drawBack 19 = .ok (.ifCond .ne 6, 3) := by decide +kernel
theorem dX11_drawBack_22 : decode cX11_drawBack 22 = .ok (.bipush (-2), 2) := by decide +kernel
theorem dX11_drawBack_24 : decode cX11_drawBack 24 = .ok (.ireturn, 1) := by decide +kernel
theorem dX11_drawBack_25 : decode cX11_drawBack 25 = .ok (.aload_n 0, 1) := by decide +kernel
theorem dX11_drawBack_26 : decode cX11_drawBack 26 = .ok (.getfield 64, 3) := by decide +kernel
theorem dX11_drawBack_29 : decode cX11_drawBack 29 = .ok (.iload_n 1, 1) := by decide +kernel
theorem dX11_drawBack_30 : decode cX11_drawBack 30 = .ok (.iload_n 2, 1) := by decide +kernel
theorem dX11_drawBack_31 : decode cX11_drawBack 31 = .ok (.iload_n 3, 1) := by decide +kernel
theorem dX11_drawBack_32 : decode cX11_drawBack 32 = .ok (.invokevirtual 298, 3) := by decide +kernel
theorem dX11_drawBack_35 : decode cX11_drawBack 35 = .ok (.ireturn, 1) := by decide +kernel
theorem dX11_strength_0 : decode cX11_strength 0 = .ok (.iload_n 1, 1) := by decide +kernel
theorem dX11_strength_1 : decode cX11_strength 1 = .ok (.invokestatic 121, 3) := by decide +kernel
theorem dX11_strength_4 : decode cX11_strength 4 = .ok (.ifCond .eq 14, 3) := by decide +kernel
theorem dX11_strength_7 : decode cX11_strength 7 = .ok (.aload_n 0, 1) := by decide +kernel
theorem dX11_strength_8 : decode cX11_strength 8 = .ok (.getfield 64, 3) := by decide +kernel
theorem dX11_strength_11 : decode cX11_strength 11 = .ok (.iload_n 1, 1) := by decide +kernel
theorem dX11_strength_12 : decode cX11_strength 12 = .ok (.invokevirtual 301, 3) := by decide +kernel
theorem dX11_strength_15 : decode cX11_strength 15 = .ok (.goto 5, 3) := by decide +kernel
theorem dX11_strength_18 : decode cX11_strength 18 = .ok (.bipush (-2), 2) := by decide +kernel
theorem dX11_strength_20 : decode cX11_strength 20 = .ok (.ireturn, 1) := by decide +kernel
theorem dX11_protest_0 : decode cX11_protest 0 = .ok (.iload_n 1, 1) := by decide +kernel
theorem dX11_protest_1 : decode cX11_protest 1 = .ok (.invokestatic 304, 3) := by decide +kernel
theorem dX11_protest_4 : decode cX11_protest 4 = .ok (.ifCond .eq 19, 3) := by decide +kernel
theorem dX11_protest_7 : decode cX11_protest 7 = .ok (.iload_n 2, 1) := by decide +kernel
theorem dX11_protest_8 : decode cX11_protest 8 = .ok (.invokestatic 166, 3) := by decide +kernel
theorem dX11_protest_11 : decode cX11_protest 11 = .ok (.ifCond .eq 12, 3) := by decide +kernel
theorem dX11_protest_14 : decode cX11_protest 14 = .ok (.iload_n 3, 1) := by decide +kernel
theorem dX11_protest_15 : decode cX11_protest 15 = .ok (.iconst 0, 1) := by decide +kernel
theorem dX11_protest_16 : decode cX11_protest 16 = .ok (.iload_n 2, 1) := by decide +kernel
theorem dX11_protest_17 : decode cX11_protest 17 = .ok (.invokestatic 86, 3) := by decide +kernel
theorem dX11_protest_20 : decode cX11_protest 20 = .ok (.ifCond .ne 6, 3) := by decide +kernel
theorem dX11_protest_23 : decode cX11_protest 23 = .ok (.bipush (-2), 2) := by decide +kernel
theorem dX11_protest_25 : decode cX11_protest 25 = .ok (.ireturn, 1) := by decide +kernel
theorem dX11_protest_26 : decode cX11_protest 26 = .ok (.aload_n 0, 1) := by decide +kernel
theorem dX11_protest_27 : decode cX11_protest 27 = .ok (.getfield 71, 3) := by decide +kernel
theorem dX11_protest_30 : decode cX11_protest 30 = .ok (.iload_n 1, 1) := by decide +kernel
theorem dX11_protest_31 : decode cX11_protest 31 = .ok (.iload_n 2, 1) := by decide +kernel
theorem dX11_protest_32 : decode cX11_protest 32 = .ok (.iload_n 3, 1) := by decide +kernel
theorem dX11_protest_33 : decode cX11_protest 33 = .ok (.invokevirtual 307, 3) := by decide +kernel
theorem dX11_protest_36 : decode cX11_protest 36 = .ok (.ireturn, 1) := by decide +kernel
theorem dX11_answer_0 : decode cX11_answer 0 = .ok (.aload_n 0, 1) := by decide +kernel
theorem dX11_answer_1 : decode cX11_answer 1 = .ok (.getfield 71, 3) := by decide +kernel
theorem dX11_answer_4 : decode cX11_answer 4 = .ok (.iload_n 1, 1) := by decide +kernel
theorem dX11_answer_5 : decode cX11_answer 5 = .ok (.invokevirtual 310, 3) := by decide +kernel
theorem dX11_answer_8 : decode cX11_answer 8 = .ok (.ifCond .eq 10, 3) := by decide +kernel
theorem dX11_answer_11 : decode cX11_answer 11 = .ok (.iload_n 2, 1) := by decide +kernel
theorem dX11_answer_12 : decode cX11_answer 12 = .ok (.invokestatic 166, 3) := by decide +kernel
theorem dX11_answer_15 : decode cX11_answer 15 = .ok (.ifCond .ne 6, 3) := by decide +kernel
theorem dX11_answer_18 : decode cX11_answer 18 = .ok (.bipush (-2), 2) := by decide +kernel
theorem dX11_answer_20 : decode cX11_answer 20 = .ok (.ireturn, 1) := by decide +kernel
theorem dX11_answer_21 : decode cX11_answer 21 = .ok (.iload_n 2, 1) := by decide +kernel
theorem dX11_answer_22 : decode cX11_answer 22 = .ok (.aload_n 0, 1) := by decide +kernel
theorem dX11_answer_23 : decode cX11_answer 23 = .ok (.getfield 71, 3) := by decide +kernel
theorem dX11_answer_26 : decode cX11_answer 26 = .ok (.getfield 313, 3) := by decide +kernel
theorem dX11_answer_29 : decode cX11_answer 29 = .ok (.iload_n 1, 1) := by decide +kernel
theorem dX11_answer_30 : decode cX11_answer 30 = .ok (.iaload, 1) := by decide +kernel
theorem dX11_answer_31 : decode cX11_answer 31 = .ok (.if_icmp .ge 6, 3) := by decide +kernel
theorem dX11_answer_34 : decode cX11_answer 34 = .ok (.bipush (-2), 2) := by decide +kernel
theorem dX11_answer_36 : decode cX11_answer 36 = .ok (.ireturn, 1) := by decide +kernel
theorem dX11_answer_37 : decode cX11_answer 37 = .ok (.aload_n 0, 1) := by decide +kernel
theorem dX11_answer_38 : decode cX11_answer 38 = .ok (.getfield 71, 3) := by decide +kernel
theorem dX11_answer_41 : decode cX11_answer 41 = .ok (.iload_n 1, 1) := by decide +kernel
theorem dX11_answer_42 : decode cX11_answer 42 = .ok (.iload_n 2, 1) := by decide +kernel
theorem dX11_answer_43 : decode cX11_answer 43 = .ok (.invokevirtual 316, 3) := by decide +kernel
theorem dX11_answer_46 : decode cX11_answer 46 = .ok (.ireturn, 1) := by decide +kernel
theorem dX11_late_0 : decode cX11_late 0 = .ok (.iload_n 1, 1) := by decide +kernel
theorem dX11_late_1 : decode cX11_late 1 = .ok (.invokestatic 166, 3) := by decide +kernel
theorem dX11_late_4 : decode cX11_late 4 = .ok (.ifCond .eq 14, 3) := by decide +kernel
theorem dX11_late_7 : decode cX11_late 7 = .ok (.aload_n 0, 1) := by decide +kernel
theorem dX11_late_8 : decode cX11_late 8 = .ok (.getfield 71, 3) := by decide +kernel
theorem dX11_late_11 : decode cX11_late 11 = .ok (.iload_n 1, 1) := by decide +kernel
theorem dX11_late_12 : decode cX11_late 12 = .ok (.invokevirtual 319, 3) := by decide +kernel
theorem dX11_late_15 : decode cX11_late 15 = .ok (.goto 5, 3) := by decide +kernel
theorem dX11_late_18 : decode cX11_late 18 = .ok (.bipush (-2), 2) := by decide +kernel
theorem dX11_late_20 : decode cX11_late 20 = .ok (.ireturn, 1) := by decide +kernel
theorem dX11_blame_0 : decode cX11_blame 0 = .ok (.aload_n 0, 1) := by decide +kernel
theorem dX11_blame_1 : decode cX11_blame 1 = .ok (.getfield 71, 3) := by decide +kernel
theorem dX11_blame_4 : decode cX11_blame 4 = .ok (.iload_n 1, 1) := by decide +kernel
theorem dX11_blame_5 : decode cX11_blame 5 = .ok (.invokevirtual 310, 3) := by decide +kernel
theorem dX11_blame_8 : decode cX11_blame 8 = .ok (.ifCond .eq 14, 3) := by decide +kernel
theorem dX11_blame_11 : decode cX11_blame 11 = .ok (.aload_n 0, 1) := by decide +kernel
theorem dX11_blame_12 : decode cX11_blame 12 = .ok (.getfield 71, 3) := by decide +kernel
theorem dX11_blame_15 : decode cX11_blame 15 = .ok (.iload_n 1, 1) := by decide +kernel
theorem dX11_blame_16 : decode cX11_blame 16 = .ok (.invokevirtual 322, 3) := by decide +kernel
theorem dX11_blame_19 : decode cX11_blame 19 = .ok (.goto 5, 3) := by decide +kernel
theorem dX11_blame_22 : decode cX11_blame 22 = .ok (.bipush (-2), 2) := by decide +kernel
theorem dX11_blame_24 : decode cX11_blame 24 = .ok (.ireturn, 1) := by decide +kernel
theorem dX11_listed_0 : decode cX11_listed 0 = .ok (.iload_n 1, 1) := by decide +kernel
theorem dX11_listed_1 : decode cX11_listed 1 = .ok (.invokestatic 304, 3) := by decide +kernel
theorem dX11_listed_4 : decode cX11_listed 4 = .ok (.ifCond .eq 20, 3) := by decide +kernel
theorem dX11_listed_7 : decode cX11_listed 7 = .ok (.iload_n 2, 1) := by decide +kernel
theorem dX11_listed_8 : decode cX11_listed 8 = .ok (.iconst 0, 1) := by decide +kernel
theorem dX11_listed_9 : decode cX11_listed 9 = .ok (.bipush 63, 2) := by decide +kernel
theorem dX11_listed_11 : decode cX11_listed 11 = .ok (.invokestatic 86, 3) := by decide +kernel
theorem dX11_listed_14 : decode cX11_listed 14 = .ok (.ifCond .eq 10, 3) := by decide +kernel
theorem dX11_listed_17 : decode cX11_listed 17 = .ok (.iload_n 3, 1) := by decide +kernel
theorem dX11_listed_18 : decode cX11_listed 18 = .ok (.invokestatic 147, 3) := by decide +kernel
theorem dX11_listed_21 : decode cX11_listed 21 = .ok (.ifCond .ne 6, 3) := by decide +kernel
theorem dX11_listed_24 : decode cX11_listed 24 = .ok (.bipush (-2), 2) := by decide +kernel
theorem dX11_listed_26 : decode cX11_listed 26 = .ok (.ireturn, 1) := by decide +kernel
theorem dX11_listed_27 : decode cX11_listed 27 = .ok (.aload_n 0, 1) := by decide +kernel
theorem dX11_listed_28 : decode cX11_listed 28 = .ok (.getfield 71, 3) := by decide +kernel
theorem dX11_listed_31 : decode cX11_listed 31 = .ok (.iload_n 1, 1) := by decide +kernel
theorem dX11_listed_32 : decode cX11_listed 32 = .ok (.iload_n 2, 1) := by decide +kernel
theorem dX11_listed_33 : decode cX11_listed 33 = .ok (.iload_n 3, 1) := by decide +kernel
theorem dX11_listed_34 : decode cX11_listed 34 = .ok (.iconst 1, 1) := by decide +kernel
theorem dX11_listed_35 : decode cX11_listed 35 = .ok (.if_icmp .ne 7, 3) := by decide +kernel
theorem dX11_listed_38 : decode cX11_listed 38 = .ok (.iconst 1, 1) := by decide +kernel
theorem dX11_listed_39 : decode cX11_listed 39 = .ok (.goto 4, 3) := by decide +kernel
theorem dX11_listed_42 : decode cX11_listed 42 = .ok (.iconst 0, 1) := by decide +kernel
theorem dX11_listed_43 : decode cX11_listed 43 = .ok (.invokevirtual 325, 3) := by decide +kernel
theorem dX11_listed_46 : decode cX11_listed 46 = .ok (.ireturn, 1) := by decide +kernel
theorem dX11_alone_0 : decode cX11_alone 0 = .ok (.iload_n 1, 1) := by decide +kernel
theorem dX11_alone_1 : decode cX11_alone 1 = .ok (.tableswitch 95 (-1) 1 #[27, 47, 71], 27) := by decide +kernel
theorem dX11_alone_28 : decode cX11_alone 28 = .ok (.aload_n 0, 1) := by decide +kernel
theorem dX11_alone_29 : decode cX11_alone 29 = .ok (.getfield 71, 3) := by decide +kernel
theorem dX11_alone_32 : decode cX11_alone 32 = .ok (.getfield 329, 3) := by decide +kernel
theorem dX11_alone_35 : decode cX11_alone 35 = .ok (.iconst 0, 1) := by decide +kernel
theorem dX11_alone_36 : decode cX11_alone 36 = .ok (.laload, 1) := by decide +kernel
theorem dX11_alone_37 : decode cX11_alone 37 = .ok (.aload_n 0, 1) := by decide +kernel
theorem dX11_alone_38 : decode cX11_alone 38 = .ok (.getfield 71, 3) := by decide +kernel
theorem dX11_alone_41 : decode cX11_alone 41 = .ok (.getfield 329, 3) := by decide +kernel
theorem dX11_alone_44 : decode cX11_alone 44 = .ok (.iconst 1, 1) := by decide +kernel
theorem dX11_alone_45 : decode cX11_alone 45 = .ok (.laload, 1) := by decide +kernel
theorem dX11_alone_46 : decode cX11_alone 46 = .ok (.lxor, 1) := by decide +kernel
theorem dX11_alone_47 : decode cX11_alone 47 = .ok (.lreturn, 1) := by decide +kernel
theorem dX11_alone_48 : decode cX11_alone 48 = .ok (.aload_n 0, 1) := by decide +kernel
theorem dX11_alone_49 : decode cX11_alone 49 = .ok (.getfield 71, 3) := by decide +kernel
theorem dX11_alone_52 : decode cX11_alone 52 = .ok (.getfield 329, 3) := by decide +kernel
theorem dX11_alone_55 : decode cX11_alone 55 = .ok (.iconst 0, 1) := by decide +kernel
theorem dX11_alone_56 : decode cX11_alone 56 = .ok (.laload, 1) := by decide +kernel
theorem dX11_alone_57 : decode cX11_alone 57 = .ok (.aload_n 0, 1) := by decide +kernel
theorem dX11_alone_58 : decode cX11_alone 58 = .ok (.getfield 71, 3) := by decide +kernel
theorem dX11_alone_61 : decode cX11_alone 61 = .ok (.getfield 329, 3) := by decide +kernel
theorem dX11_alone_64 : decode cX11_alone 64 = .ok (.iconst 1, 1) := by decide +kernel
theorem dX11_alone_65 : decode cX11_alone 65 = .ok (.laload, 1) := by decide +kernel
theorem dX11_alone_66 : decode cX11_alone 66 = .ok (.ldc2_w 333, 3) := by decide +kernel
theorem dX11_alone_69 : decode cX11_alone 69 = .ok (.lxor, 1) := by decide +kernel
theorem dX11_alone_70 : decode cX11_alone 70 = .ok (.land, 1) := by decide +kernel
theorem dX11_alone_71 : decode cX11_alone 71 = .ok (.lreturn, 1) := by decide +kernel
theorem dX11_alone_72 : decode cX11_alone 72 = .ok (.aload_n 0, 1) := by decide +kernel
theorem dX11_alone_73 : decode cX11_alone 73 = .ok (.getfield 71, 3) := by decide +kernel
theorem dX11_alone_76 : decode cX11_alone 76 = .ok (.getfield 329, 3) := by decide +kernel
theorem dX11_alone_79 : decode cX11_alone 79 = .ok (.iconst 1, 1) := by decide +kernel
theorem dX11_alone_80 : decode cX11_alone 80 = .ok (.laload, 1) := by decide +kernel
theorem dX11_alone_81 : decode cX11_alone 81 = .ok (.aload_n 0, 1) := by decide +kernel
theorem dX11_alone_82 : decode cX11_alone 82 = .ok (.getfield 71, 3) := by decide +kernel
theorem dX11_alone_85 : decode cX11_alone 85 = .ok (.getfield 329, 3) := by decide +kernel
theorem dX11_alone_88 : decode cX11_alone 88 = .ok (.iconst 0, 1) := by decide +kernel
theorem dX11_alone_89 : decode cX11_alone 89 = .ok (.laload, 1) := by decide +kernel
theorem dX11_alone_90 : decode cX11_alone 90 = .ok (.ldc2_w 333, 3) := by decide +kernel
theorem dX11_alone_93 : decode cX11_alone 93 = .ok (.lxor, 1) := by decide +kernel
theorem dX11_alone_94 : decode cX11_alone 94 = .ok (.land, 1) := by decide +kernel
theorem dX11_alone_95 : decode cX11_alone 95 = .ok (.lreturn, 1) := by decide +kernel
theorem dX11_alone_96 : decode cX11_alone 96 = .ok (.ldc2_w 176, 3) := by decide +kernel
theorem dX11_alone_99 : decode cX11_alone 99 = .ok (.lreturn, 1) := by decide +kernel
theorem dX11_count_0 : decode cX11_count 0 = .ok (.iload_n 1, 1) := by decide +kernel
theorem dX11_count_1 : decode cX11_count 1 = .ok (.tableswitch 165 0 11 #[63, 71, 79, 87, 95, 103, 111, 119, 127, 135, 145, 155], 63) := by decide +kernel
theorem dX11_count_64 : decode cX11_count 64 = .ok (.aload_n 0, 1) := by decide +kernel
theorem dX11_count_65 : decode cX11_count 65 = .ok (.getfield 21, 3) := by decide +kernel
theorem dX11_count_68 : decode cX11_count 68 = .ok (.getfield 266, 3) := by decide +kernel
theorem dX11_count_71 : decode cX11_count 71 = .ok (.ireturn, 1) := by decide +kernel
theorem dX11_count_72 : decode cX11_count 72 = .ok (.aload_n 0, 1) := by decide +kernel
theorem dX11_count_73 : decode cX11_count 73 = .ok (.getfield 71, 3) := by decide +kernel
theorem dX11_count_76 : decode cX11_count 76 = .ok (.getfield 335, 3) := by decide +kernel
theorem dX11_count_79 : decode cX11_count 79 = .ok (.ireturn, 1) := by decide +kernel
theorem dX11_count_80 : decode cX11_count 80 = .ok (.aload_n 0, 1) := by decide +kernel
theorem dX11_count_81 : decode cX11_count 81 = .ok (.getfield 46, 3) := by decide +kernel
theorem dX11_count_84 : decode cX11_count 84 = .ok (.getfield 230, 3) := by decide +kernel
theorem dX11_count_87 : decode cX11_count 87 = .ok (.ireturn, 1) := by decide +kernel
theorem dX11_count_88 : decode cX11_count 88 = .ok (.aload_n 0, 1) := by decide +kernel
theorem dX11_count_89 : decode cX11_count 89 = .ok (.getfield 46, 3) := by decide +kernel
theorem dX11_count_92 : decode cX11_count 92 = .ok (.getfield 224, 3) := by decide +kernel
theorem dX11_count_95 : decode cX11_count 95 = .ok (.ireturn, 1) := by decide +kernel
theorem dX11_count_96 : decode cX11_count 96 = .ok (.aload_n 0, 1) := by decide +kernel
theorem dX11_count_97 : decode cX11_count 97 = .ok (.getfield 46, 3) := by decide +kernel
theorem dX11_count_100 : decode cX11_count 100 = .ok (.getfield 248, 3) := by decide +kernel
theorem dX11_count_103 : decode cX11_count 103 = .ok (.ireturn, 1) := by decide +kernel
theorem dX11_count_104 : decode cX11_count 104 = .ok (.aload_n 0, 1) := by decide +kernel
theorem dX11_count_105 : decode cX11_count 105 = .ok (.getfield 71, 3) := by decide +kernel
theorem dX11_count_108 : decode cX11_count 108 = .ok (.getfield 338, 3) := by decide +kernel
theorem dX11_count_111 : decode cX11_count 111 = .ok (.ireturn, 1) := by decide +kernel
theorem dX11_count_112 : decode cX11_count 112 = .ok (.aload_n 0, 1) := by decide +kernel
theorem dX11_count_113 : decode cX11_count 113 = .ok (.getfield 64, 3) := by decide +kernel
theorem dX11_count_116 : decode cX11_count 116 = .ok (.getfield 280, 3) := by decide +kernel
theorem dX11_count_119 : decode cX11_count 119 = .ok (.ireturn, 1) := by decide +kernel
theorem dX11_count_120 : decode cX11_count 120 = .ok (.aload_n 0, 1) := by decide +kernel
theorem dX11_count_121 : decode cX11_count 121 = .ok (.getfield 28, 3) := by decide +kernel
theorem dX11_count_124 : decode cX11_count 124 = .ok (.getfield 341, 3) := by decide +kernel
theorem dX11_count_127 : decode cX11_count 127 = .ok (.ireturn, 1) := by decide +kernel
theorem dX11_count_128 : decode cX11_count 128 = .ok (.aload_n 0, 1) := by decide +kernel
theorem dX11_count_129 : decode cX11_count 129 = .ok (.getfield 28, 3) := by decide +kernel
theorem dX11_count_132 : decode cX11_count 132 = .ok (.getfield 342, 3) := by decide +kernel
theorem dX11_count_135 : decode cX11_count 135 = .ok (.ireturn, 1) := by decide +kernel
theorem dX11_count_136 : decode cX11_count 136 = .ok (.aload_n 0, 1) := by decide +kernel
theorem dX11_count_137 : decode cX11_count 137 = .ok (.getfield 28, 3) := by decide +kernel
theorem dX11_count_140 : decode cX11_count 140 = .ok (.getfield 194, 3) := by decide +kernel
theorem dX11_count_143 : decode cX11_count 143 = .ok (.iconst 0, 1) := by decide +kernel
theorem dX11_count_144 : decode cX11_count 144 = .ok (.iaload, 1) := by decide +kernel
theorem dX11_count_145 : decode cX11_count 145 = .ok (.ireturn, 1) := by decide +kernel
theorem dX11_count_146 : decode cX11_count 146 = .ok (.aload_n 0, 1) := by decide +kernel
theorem dX11_count_147 : decode cX11_count 147 = .ok (.getfield 28, 3) := by decide +kernel
theorem dX11_count_150 : decode cX11_count 150 = .ok (.getfield 194, 3) := by decide +kernel
theorem dX11_count_153 : decode cX11_count 153 = .ok (.iconst 1, 1) := by decide +kernel
theorem dX11_count_154 : decode cX11_count 154 = .ok (.iaload, 1) := by decide +kernel
theorem dX11_count_155 : decode cX11_count 155 = .ok (.ireturn, 1) := by decide +kernel
theorem dX11_count_156 : decode cX11_count 156 = .ok (.aload_n 0, 1) := by decide +kernel
theorem dX11_count_157 : decode cX11_count 157 = .ok (.getfield 28, 3) := by decide +kernel
theorem dX11_count_160 : decode cX11_count 160 = .ok (.getfield 194, 3) := by decide +kernel
theorem dX11_count_163 : decode cX11_count 163 = .ok (.iconst 2, 1) := by decide +kernel
theorem dX11_count_164 : decode cX11_count 164 = .ok (.iaload, 1) := by decide +kernel
theorem dX11_count_165 : decode cX11_count 165 = .ok (.ireturn, 1) := by decide +kernel
theorem dX11_count_166 : decode cX11_count 166 = .ok (.bipush (-2), 2) := by decide +kernel
theorem dX11_count_168 : decode cX11_count 168 = .ok (.ireturn, 1) := by decide +kernel
theorem dX11_sheet_0 : decode cX11_sheet 0 = .ok (.iload_n 1, 1) := by decide +kernel
theorem dX11_sheet_1 : decode cX11_sheet 1 = .ok (.invokestatic 345, 3) := by decide +kernel
theorem dX11_sheet_4 : decode cX11_sheet 4 = .ok (.ifCond .eq 12, 3) := by decide +kernel
theorem dX11_sheet_7 : decode cX11_sheet 7 = .ok (.iload_n 2, 1) := by decide +kernel
theorem dX11_sheet_8 : decode cX11_sheet 8 = .ok (.iconst (-1), 1) := by decide +kernel
theorem dX11_sheet_9 : decode cX11_sheet 9 = .ok (.iconst 2, 1) := by decide +kernel
theorem dX11_sheet_10 : decode cX11_sheet 10 = .ok (.invokestatic 86, 3) := by decide +kernel
theorem dX11_sheet_13 : decode cX11_sheet 13 = .ok (.ifCond .ne 6, 3) := by decide +kernel
theorem dX11_sheet_16 : decode cX11_sheet 16 = .ok (.bipush (-2), 2) := by decide +kernel
theorem dX11_sheet_18 : decode cX11_sheet 18 = .ok (.ireturn, 1) := by decide +kernel
theorem dX11_sheet_19 : decode cX11_sheet 19 = .ok (.iload_n 2, 1) := by decide +kernel
theorem dX11_sheet_20 : decode cX11_sheet 20 = .ok (.iconst (-1), 1) := by decide +kernel
theorem dX11_sheet_21 : decode cX11_sheet 21 = .ok (.if_icmp .ne 15, 3) := by decide +kernel
theorem dX11_sheet_24 : decode cX11_sheet 24 = .ok (.aload_n 0, 1) := by decide +kernel
theorem dX11_sheet_25 : decode cX11_sheet 25 = .ok (.getfield 78, 3) := by decide +kernel
theorem dX11_sheet_28 : decode cX11_sheet 28 = .ok (.iload_n 1, 1) := by decide +kernel
theorem dX11_sheet_29 : decode cX11_sheet 29 = .ok (.aaload, 1) := by decide +kernel
theorem dX11_sheet_30 : decode cX11_sheet 30 = .ok (.iload_n 2, 1) := by decide +kernel
theorem dX11_sheet_31 : decode cX11_sheet 31 = .ok (.iconst 0, 1) := by decide +kernel
theorem dX11_sheet_32 : decode cX11_sheet 32 = .ok (.invokevirtual 348, 3) := by decide +kernel
theorem dX11_sheet_35 : decode cX11_sheet 35 = .ok (.ireturn, 1) := by decide +kernel
theorem dX11_sheet_36 : decode cX11_sheet 36 = .ok (.iload_n 3, 1) := by decide +kernel
theorem dX11_sheet_37 : decode cX11_sheet 37 = .ok (.bipush 40, 2) := by decide +kernel
theorem dX11_sheet_39 : decode cX11_sheet 39 = .ok (.if_icmp .le 6, 3) := by decide +kernel
theorem dX11_sheet_42 : decode cX11_sheet 42 = .ok (.bipush (-2), 2) := by decide +kernel
theorem dX11_sheet_44 : decode cX11_sheet 44 = .ok (.ireturn, 1) := by decide +kernel
theorem dX11_sheet_45 : decode cX11_sheet 45 = .ok (.iload_n 3, 1) := by decide +kernel
theorem dX11_sheet_46 : decode cX11_sheet 46 = .ok (.ifCond .ge 6, 3) := by decide +kernel
theorem dX11_sheet_49 : decode cX11_sheet 49 = .ok (.bipush (-14), 2) := by decide +kernel
theorem dX11_sheet_51 : decode cX11_sheet 51 = .ok (.ireturn, 1) := by decide +kernel
theorem dX11_sheet_52 : decode cX11_sheet 52 = .ok (.aload_n 0, 1) := by decide +kernel
theorem dX11_sheet_53 : decode cX11_sheet 53 = .ok (.getfield 78, 3) := by decide +kernel
theorem dX11_sheet_56 : decode cX11_sheet 56 = .ok (.iload_n 1, 1) := by decide +kernel
theorem dX11_sheet_57 : decode cX11_sheet 57 = .ok (.aaload, 1) := by decide +kernel
theorem dX11_sheet_58 : decode cX11_sheet 58 = .ok (.iload_n 2, 1) := by decide +kernel
theorem dX11_sheet_59 : decode cX11_sheet 59 = .ok (.iload_n 3, 1) := by decide +kernel
theorem dX11_sheet_60 : decode cX11_sheet 60 = .ok (.invokevirtual 348, 3) := by decide +kernel
theorem dX11_sheet_63 : decode cX11_sheet 63 = .ok (.ireturn, 1) := by decide +kernel
theorem dX11_cell_0 : decode cX11_cell 0 = .ok (.iload_n 1, 1) := by decide +kernel
theorem dX11_cell_1 : decode cX11_cell 1 = .ok (.invokestatic 345, 3) := by decide +kernel
theorem dX11_cell_4 : decode cX11_cell 4 = .ok (.ifCond .ne 6, 3) := by decide +kernel
theorem dX11_cell_7 : decode cX11_cell 7 = .ok (.bipush (-2), 2) := by decide +kernel
theorem dX11_cell_9 : decode cX11_cell 9 = .ok (.ireturn, 1) := by decide +kernel
theorem dX11_cell_10 : decode cX11_cell 10 = .ok (.aload_n 0, 1) := by decide +kernel
theorem dX11_cell_11 : decode cX11_cell 11 = .ok (.getfield 78, 3) := by decide +kernel
theorem dX11_cell_14 : decode cX11_cell 14 = .ok (.iload_n 1, 1) := by decide +kernel
theorem dX11_cell_15 : decode cX11_cell 15 = .ok (.aaload, 1) := by decide +kernel
theorem dX11_cell_16 : decode cX11_cell 16 = .ok (.astore 4, 2) := by decide +kernel
theorem dX11_cell_18 : decode cX11_cell 18 = .ok (.aload 4, 2) := by decide +kernel
theorem dX11_cell_20 : decode cX11_cell 20 = .ok (.invokevirtual 351, 3) := by decide +kernel
theorem dX11_cell_23 : decode cX11_cell 23 = .ok (.ifCond .eq 6, 3) := by decide +kernel
theorem dX11_cell_26 : decode cX11_cell 26 = .ok (.bipush (-11), 2) := by decide +kernel
theorem dX11_cell_28 : decode cX11_cell 28 = .ok (.ireturn, 1) := by decide +kernel
theorem dX11_cell_29 : decode cX11_cell 29 = .ok (.aload 4, 2) := by decide +kernel
theorem dX11_cell_31 : decode cX11_cell 31 = .ok (.iload_n 2, 1) := by decide +kernel
theorem dX11_cell_32 : decode cX11_cell 32 = .ok (.invokevirtual 355, 3) := by decide +kernel
theorem dX11_cell_35 : decode cX11_cell 35 = .ok (.ifCond .ne 6, 3) := by decide +kernel
theorem dX11_cell_38 : decode cX11_cell 38 = .ok (.bipush (-12), 2) := by decide +kernel
theorem dX11_cell_40 : decode cX11_cell 40 = .ok (.ireturn, 1) := by decide +kernel
theorem dX11_cell_41 : decode cX11_cell 41 = .ok (.aload 4, 2) := by decide +kernel
theorem dX11_cell_43 : decode cX11_cell 43 = .ok (.iload_n 2, 1) := by decide +kernel
theorem dX11_cell_44 : decode cX11_cell 44 = .ok (.iload_n 3, 1) := by decide +kernel
theorem dX11_cell_45 : decode cX11_cell 45 = .ok (.invokevirtual 356, 3) := by decide +kernel
theorem dX11_cell_48 : decode cX11_cell 48 = .ok (.ireturn, 1) := by decide +kernel
theorem dX11_copy_0 : decode cX11_copy 0 = .ok (.iload_n 1, 1) := by decide +kernel
theorem dX11_copy_1 : decode cX11_copy 1 = .ok (.invokestatic 345, 3) := by decide +kernel
theorem dX11_copy_4 : decode cX11_copy 4 = .ok (.ifCond .eq 10, 3) := by decide +kernel
theorem dX11_copy_7 : decode cX11_copy 7 = .ok (.iload_n 3, 1) := by decide +kernel
theorem dX11_copy_8 : decode cX11_copy 8 = .ok (.invokestatic 345, 3) := by decide +kernel
theorem dX11_copy_11 : decode cX11_copy 11 = .ok (.ifCond .ne 6, 3) := by decide +kernel
theorem dX11_copy_14 : decode cX11_copy 14 = .ok (.bipush (-2), 2) := by decide +kernel
theorem dX11_copy_16 : decode cX11_copy 16 = .ok (.ireturn, 1) := by decide +kernel
theorem dX11_copy_17 : decode cX11_copy 17 = .ok (.aload_n 0, 1) := by decide +kernel
theorem dX11_copy_18 : decode cX11_copy 18 = .ok (.getfield 78, 3) := by decide +kernel
theorem dX11_copy_21 : decode cX11_copy 21 = .ok (.iload_n 1, 1) := by decide +kernel
theorem dX11_copy_22 : decode cX11_copy 22 = .ok (.aaload, 1) := by decide +kernel
theorem dX11_copy_23 : decode cX11_copy 23 = .ok (.astore 6, 2) := by decide +kernel
theorem dX11_copy_25 : decode cX11_copy 25 = .ok (.aload_n 0, 1) := by decide +kernel
theorem dX11_copy_26 : decode cX11_copy 26 = .ok (.getfield 78, 3) := by decide +kernel
theorem dX11_copy_29 : decode cX11_copy 29 = .ok (.iload_n 3, 1) := by decide +kernel
theorem dX11_copy_30 : decode cX11_copy 30 = .ok (.aaload, 1) := by decide +kernel
theorem dX11_copy_31 : decode cX11_copy 31 = .ok (.astore 7, 2) := by decide +kernel
theorem dX11_copy_33 : decode cX11_copy 33 = .ok (.aload 6, 2) := by decide +kernel
theorem dX11_copy_35 : decode cX11_copy 35 = .ok (.invokevirtual 351, 3) := by decide +kernel
theorem dX11_copy_38 : decode cX11_copy 38 = .ok (.ifCond .ne 11, 3) := by decide +kernel
theorem dX11_copy_41 : decode cX11_copy 41 = .ok (.aload 7, 2) := by decide +kernel
theorem dX11_copy_43 : decode cX11_copy 43 = .ok (.invokevirtual 351, 3) := by decide +kernel
theorem dX11_copy_46 : decode cX11_copy 46 = .ok (.ifCond .eq 6, 3) := by decide +kernel
theorem dX11_copy_49 : decode cX11_copy 49 = .ok (.bipush (-11), 2) := by decide +kernel
theorem dX11_copy_51 : decode cX11_copy 51 = .ok (.ireturn, 1) := by decide +kernel
theorem dX11_copy_52 : decode cX11_copy 52 = .ok (.aload 6, 2) := by decide +kernel
theorem dX11_copy_54 : decode cX11_copy 54 = .ok (.getfield 359, 3) := by decide +kernel
theorem dX11_copy_57 : decode cX11_copy 57 = .ok (.aload 7, 2) := by decide +kernel
theorem dX11_copy_59 : decode cX11_copy 59 = .ok (.getfield 359, 3) := by decide +kernel
theorem dX11_copy_62 : decode cX11_copy 62 = .ok (.if_icmp .eq 6, 3) := by decide +kernel
theorem dX11_copy_65 : decode cX11_copy 65 = .ok (.bipush (-13), 2) := by decide +kernel
theorem dX11_copy_67 : decode cX11_copy 67 = .ok (.ireturn, 1) := by decide +kernel
theorem dX11_copy_68 : decode cX11_copy 68 = .ok (.aload 6, 2) := by decide +kernel
theorem dX11_copy_70 : decode cX11_copy 70 = .ok (.iload_n 2, 1) := by decide +kernel
theorem dX11_copy_71 : decode cX11_copy 71 = .ok (.iload 5, 2) := by decide +kernel
theorem dX11_copy_73 : decode cX11_copy 73 = .ok (.invokevirtual 362, 3) := by decide +kernel
theorem dX11_copy_76 : decode cX11_copy 76 = .ok (.ifCond .eq 15, 3) := by decide +kernel
theorem dX11_copy_79 : decode cX11_copy 79 = .ok (.aload 7, 2) := by decide +kernel
theorem dX11_copy_81 : decode cX11_copy 81 = .ok (.iload 4, 2) := by decide +kernel
theorem dX11_copy_83 : decode cX11_copy 83 = .ok (.iload 5, 2) := by decide +kernel
theorem dX11_copy_85 : decode cX11_copy 85 = .ok (.invokevirtual 362, 3) := by decide +kernel
theorem dX11_copy_88 : decode cX11_copy 88 = .ok (.ifCond .ne 6, 3) := by decide +kernel
theorem dX11_copy_91 : decode cX11_copy 91 = .ok (.bipush (-12), 2) := by decide +kernel
theorem dX11_copy_93 : decode cX11_copy 93 = .ok (.ireturn, 1) := by decide +kernel
theorem dX11_copy_94 : decode cX11_copy 94 = .ok (.aload 6, 2) := by decide +kernel
theorem dX11_copy_96 : decode cX11_copy 96 = .ok (.getfield 365, 3) := by decide +kernel
theorem dX11_copy_99 : decode cX11_copy 99 = .ok (.iload_n 2, 1) := by decide +kernel
theorem dX11_copy_100 : decode cX11_copy 100 = .ok (.aload 7, 2) := by decide +kernel
theorem dX11_copy_102 : decode cX11_copy 102 = .ok (.getfield 365, 3) := by decide +kernel
theorem dX11_copy_105 : decode cX11_copy 105 = .ok (.iload 4, 2) := by decide +kernel
theorem dX11_copy_107 : decode cX11_copy 107 = .ok (.iload 5, 2) := by decide +kernel
theorem dX11_copy_109 : decode cX11_copy 109 = .ok (.invokestatic 368, 3) := by decide +kernel
theorem dX11_copy_112 : decode cX11_copy 112 = .ok (.iload 5, 2) := by decide +kernel
theorem dX11_copy_114 : decode cX11_copy 114 = .ok (.ireturn, 1) := by decide +kernel
theorem dX11_heights_0 : decode cX11_heights 0 = .ok (.iload_n 1, 1) := by decide +kernel
theorem dX11_heights_1 : decode cX11_heights 1 = .ok (.iconst 0, 1) := by decide +kernel
theorem dX11_heights_2 : decode cX11_heights 2 = .ok (.bipush 7, 2) := by decide +kernel
theorem dX11_heights_4 : decode cX11_heights 4 = .ok (.invokestatic 86, 3) := by decide +kernel
theorem dX11_heights_7 : decode cX11_heights 7 = .ok (.ifCond .eq 10, 3) := by decide +kernel
theorem dX11_heights_10 : decode cX11_heights 10 = .ok (.iload_n 2, 1) := by decide +kernel
theorem dX11_heights_11 : decode cX11_heights 11 = .ok (.invokestatic 345, 3) := by decide +kernel
theorem dX11_heights_14 : decode cX11_heights 14 = .ok (.ifCond .ne 6, 3) := by decide +kernel
theorem dX11_heights_17 : decode cX11_heights 17 = .ok (.bipush (-2), 2) := by decide +kernel
theorem dX11_heights_19 : decode cX11_heights 19 = .ok (.ireturn, 1) := by decide +kernel
theorem dX11_heights_20 : decode cX11_heights 20 = .ok (.iload_n 3, 1) := by decide +kernel
theorem dX11_heights_21 : decode cX11_heights 21 = .ok (.iconst 0, 1) := by decide +kernel
theorem dX11_heights_22 : decode cX11_heights 22 = .ok (.iconst 2, 1) := by decide +kernel
theorem dX11_heights_23 : decode cX11_heights 23 = .ok (.invokestatic 86, 3) := by decide +kernel
theorem dX11_heights_26 : decode cX11_heights 26 = .ok (.ifCond .eq 14, 3) := by decide +kernel
theorem dX11_heights_29 : decode cX11_heights 29 = .ok (.iload 5, 2) := by decide +kernel
theorem dX11_heights_31 : decode cX11_heights 31 = .ok (.iconst 0, 1) := by decide +kernel
theorem dX11_heights_32 : decode cX11_heights 32 = .ok (.bipush 8, 2) := by decide +kernel
theorem dX11_heights_34 : decode cX11_heights 34 = .ok (.invokestatic 86, 3) := by decide +kernel
theorem dX11_heights_37 : decode cX11_heights 37 = .ok (.ifCond .ne 6, 3) := by decide +kernel
theorem dX11_heights_40 : decode cX11_heights 40 = .ok (.bipush (-2), 2) := by decide +kernel
theorem dX11_heights_42 : decode cX11_heights 42 = .ok (.ireturn, 1) := by decide +kernel
theorem dX11_heights_43 : decode cX11_heights 43 = .ok (.aload_n 0, 1) := by decide +kernel
theorem dX11_heights_44 : decode cX11_heights 44 = .ok (.getfield 78, 3) := by decide +kernel
theorem dX11_heights_47 : decode cX11_heights 47 = .ok (.iload_n 2, 1) := by decide +kernel
theorem dX11_heights_48 : decode cX11_heights 48 = .ok (.aaload, 1) := by decide +kernel
theorem dX11_heights_49 : decode cX11_heights 49 = .ok (.astore 6, 2) := by decide +kernel
theorem dX11_heights_51 : decode cX11_heights 51 = .ok (.aload 6, 2) := by decide +kernel
theorem dX11_heights_53 : decode cX11_heights 53 = .ok (.invokevirtual 351, 3) := by decide +kernel
theorem dX11_heights_56 : decode cX11_heights 56 = .ok (.ifCond .ne 15, 3) := by decide +kernel
theorem dX11_heights_59 : decode cX11_heights 59 = .ok (.aload 6, 2) := by decide +kernel
theorem dX11_heights_61 : decode cX11_heights 61 = .ok (.getfield 359, 3) := by decide +kernel
theorem dX11_heights_64 : decode cX11_heights 64 = .ok (.iload_n 3, 1) := by decide +kernel
theorem dX11_heights_65 : decode cX11_heights 65 = .ok (.if_icmp .eq 6, 3) := by decide +kernel
theorem dX11_heights_68 : decode cX11_heights 68 = .ok (.bipush (-13), 2) := by decide +kernel
theorem dX11_heights_70 : decode cX11_heights 70 = .ok (.ireturn, 1) := by decide +kernel
theorem dX11_heights_71 : decode cX11_heights 71 = .ok (.aload 6, 2) := by decide +kernel
theorem dX11_heights_73 : decode cX11_heights 73 = .ok (.invokevirtual 351, 3) := by decide +kernel
theorem dX11_heights_76 : decode cX11_heights 76 = .ok (.ifCond .eq 6, 3) := by decide +kernel
theorem dX11_heights_79 : decode cX11_heights 79 = .ok (.bipush (-11), 2) := by decide +kernel
theorem dX11_heights_81 : decode cX11_heights 81 = .ok (.ireturn, 1) := by decide +kernel
theorem dX11_heights_82 : decode cX11_heights 82 = .ok (.aload_n 0, 1) := by decide +kernel
theorem dX11_heights_83 : decode cX11_heights 83 = .ok (.iload_n 1, 1) := by decide +kernel
theorem dX11_heights_84 : decode cX11_heights 84 = .ok (.aload 6, 2) := by decide +kernel
theorem dX11_heights_86 : decode cX11_heights 86 = .ok (.iload 4, 2) := by decide +kernel
theorem dX11_heights_88 : decode cX11_heights 88 = .ok (.iload 5, 2) := by decide +kernel
theorem dX11_heights_90 : decode cX11_heights 90 = .ok (.invokevirtual 374, 3) := by decide +kernel
theorem dX11_heights_93 : decode cX11_heights 93 = .ok (.ireturn, 1) := by decide +kernel
theorem dX11_taken_0 : decode cX11_taken 0 = .ok (.iload_n 2, 1) := by decide +kernel
theorem dX11_taken_1 : decode cX11_taken 1 = .ok (.invokestatic 118, 3) := by decide +kernel
theorem dX11_taken_4 : decode cX11_taken 4 = .ok (.ifCond .ne 6, 3) := by decide +kernel
theorem dX11_taken_7 : decode cX11_taken 7 = .ok (.bipush (-2), 2) := by decide +kernel
theorem dX11_taken_9 : decode cX11_taken 9 = .ok (.ireturn, 1) := by decide +kernel
theorem dX11_taken_10 : decode cX11_taken 10 = .ok (.aload_n 0, 1) := by decide +kernel
theorem dX11_taken_11 : decode cX11_taken 11 = .ok (.getfield 21, 3) := by decide +kernel
theorem dX11_taken_14 : decode cX11_taken 14 = .ok (.iload_n 1, 1) := by decide +kernel
theorem dX11_taken_15 : decode cX11_taken 15 = .ok (.invokevirtual 128, 3) := by decide +kernel
theorem dX11_taken_18 : decode cX11_taken 18 = .ok (.ifCond .ne 6, 3) := by decide +kernel
theorem dX11_taken_21 : decode cX11_taken 21 = .ok (.bipush (-11), 2) := by decide +kernel
theorem dX11_taken_23 : decode cX11_taken 23 = .ok (.ireturn, 1) := by decide +kernel
theorem dX11_taken_24 : decode cX11_taken 24 = .ok (.aload_n 0, 1) := by decide +kernel
theorem dX11_taken_25 : decode cX11_taken 25 = .ok (.getfield 21, 3) := by decide +kernel
theorem dX11_taken_28 : decode cX11_taken 28 = .ok (.getfield 131, 3) := by decide +kernel
theorem dX11_taken_31 : decode cX11_taken 31 = .ok (.iload_n 1, 1) := by decide +kernel
theorem dX11_taken_32 : decode cX11_taken 32 = .ok (.aaload, 1) := by decide +kernel
theorem dX11_taken_33 : decode cX11_taken 33 = .ok (.astore_n 3, 1) := by decide +kernel
theorem dX11_taken_34 : decode cX11_taken 34 = .ok (.aload_n 3, 1) := by decide +kernel
theorem dX11_taken_35 : decode cX11_taken 35 = .ok (.getfield 135, 3) := by decide +kernel
theorem dX11_taken_38 : decode cX11_taken 38 = .ok (.iload_n 2, 1) := by decide +kernel
theorem dX11_taken_39 : decode cX11_taken 39 = .ok (.invokestatic 140, 3) := by decide +kernel
theorem dX11_taken_42 : decode cX11_taken 42 = .ok (.ifCond .eq 10, 3) := by decide +kernel
theorem dX11_taken_45 : decode cX11_taken 45 = .ok (.aload_n 3, 1) := by decide +kernel
theorem dX11_taken_46 : decode cX11_taken 46 = .ok (.getfield 157, 3) := by decide +kernel
theorem dX11_taken_49 : decode cX11_taken 49 = .ok (.goto 5, 3) := by decide +kernel
theorem dX11_taken_52 : decode cX11_taken 52 = .ok (.bipush (-13), 2) := by decide +kernel
theorem dX11_taken_54 : decode cX11_taken 54 = .ok (.ireturn, 1) := by decide +kernel
theorem dX11_tellHeights_0 : decode cX11_tellHeights 0 = .ok (.iconst 0, 1) := by decide +kernel
theorem dX11_tellHeights_1 : decode cX11_tellHeights 1 = .ok (.istore 5, 2) := by decide +kernel
theorem dX11_tellHeights_3 : decode cX11_tellHeights 3 = .ok (.iconst 0, 1) := by decide +kernel
theorem dX11_tellHeights_4 : decode cX11_tellHeights 4 = .ok (.istore 6, 2) := by decide +kernel
theorem dX11_tellHeights_6 : decode cX11_tellHeights 6 = .ok (.iload 6, 2) := by decide +kernel
theorem dX11_tellHeights_8 : decode cX11_tellHeights 8 = .ok (.iload 4, 2) := by decide +kernel
theorem dX11_tellHeights_10 : decode cX11_tellHeights 10 = .ok (.if_icmp .ge 67, 3) := by decide +kernel
theorem dX11_tellHeights_13 : decode cX11_tellHeights 13 = .ok (.iload_n 3, 1) := by decide +kernel
theorem dX11_tellHeights_14 : decode cX11_tellHeights 14 = .ok (.iload 6, 2) := by decide +kernel
theorem dX11_tellHeights_16 : decode cX11_tellHeights 16 = .ok (.iadd, 1) := by decide +kernel
theorem dX11_tellHeights_17 : decode cX11_tellHeights 17 = .ok (.istore 7, 2) := by decide +kernel
theorem dX11_tellHeights_19 : decode cX11_tellHeights 19 = .ok (.aload_n 2, 1) := by decide +kernel
theorem dX11_tellHeights_20 : decode cX11_tellHeights 20 = .ok (.iload 7, 2) := by decide +kernel
theorem dX11_tellHeights_22 : decode cX11_tellHeights 22 = .ok (.invokevirtual 355, 3) := by decide +kernel
theorem dX11_tellHeights_25 : decode cX11_tellHeights 25 = .ok (.ifCond .ne 6, 3) := by decide +kernel
theorem dX11_tellHeights_28 : decode cX11_tellHeights 28 = .ok (.bipush (-12), 2) := by decide +kernel
theorem dX11_tellHeights_30 : decode cX11_tellHeights 30 = .ok (.ireturn, 1) := by decide +kernel
theorem dX11_tellHeights_31 : decode cX11_tellHeights 31 = .ok (.aload_n 2, 1) := by decide +kernel
theorem dX11_tellHeights_32 : decode cX11_tellHeights 32 = .ok (.getfield 365, 3) := by decide +kernel
theorem dX11_tellHeights_35 : decode cX11_tellHeights 35 = .ok (.iload 7, 2) := by decide +kernel
theorem dX11_tellHeights_37 : decode cX11_tellHeights 37 = .ok (.iaload, 1) := by decide +kernel
theorem dX11_tellHeights_38 : decode cX11_tellHeights 38 = .ok (.istore 8, 2) := by decide +kernel
theorem dX11_tellHeights_40 : decode cX11_tellHeights 40 = .ok (.iload 8, 2) := by decide +kernel
theorem dX11_tellHeights_42 : decode cX11_tellHeights 42 = .ok (.iconst 0, 1) := by decide +kernel
theorem dX11_tellHeights_43 : decode cX11_tellHeights 43 = .ok (.bipush 9, 2) := by decide +kernel
theorem dX11_tellHeights_45 : decode cX11_tellHeights 45 = .ok (.invokestatic 86, 3) := by decide +kernel
theorem dX11_tellHeights_48 : decode cX11_tellHeights 48 = .ok (.ifCond .eq 23, 3) := by decide +kernel
theorem dX11_tellHeights_51 : decode cX11_tellHeights 51 = .ok (.aload_n 0, 1) := by decide +kernel
theorem dX11_tellHeights_52 : decode cX11_tellHeights 52 = .ok (.getfield 10, 3) := by decide +kernel
theorem dX11_tellHeights_55 : decode cX11_tellHeights 55 = .ok (.getfield 90, 3) := by decide +kernel
theorem dX11_tellHeights_58 : decode cX11_tellHeights 58 = .ok (.iload_n 1, 1) := by decide +kernel
theorem dX11_tellHeights_59 : decode cX11_tellHeights 59 = .ok (.bipush 8, 2) := by decide +kernel
theorem dX11_tellHeights_61 : decode cX11_tellHeights 61 = .ok (.imul, 1) := by decide +kernel
theorem dX11_tellHeights_62 : decode cX11_tellHeights 62 = .ok (.iload 6, 2) := by decide +kernel
theorem dX11_tellHeights_64 : decode cX11_tellHeights 64 = .ok (.iadd, 1) := by decide +kernel
theorem dX11_tellHeights_65 : decode cX11_tellHeights 65 = .ok (.iload 8, 2) := by decide +kernel
theorem dX11_tellHeights_67 : decode cX11_tellHeights 67 = .ok (.iastore, 1) := by decide +kernel
theorem dX11_tellHeights_68 : decode cX11_tellHeights 68 = .ok (.iinc 5 1, 3) := by decide +kernel
theorem dX11_tellHeights_71 : decode cX11_tellHeights 71 = .ok (.iinc 6 1, 3) := by decide +kernel
theorem dX11_tellHeights_74 : decode cX11_tellHeights 74 = .ok (.goto (-68), 3) := by decide +kernel
theorem dX11_tellHeights_77 : decode cX11_tellHeights 77 = .ok (.iload 5, 2) := by decide +kernel
theorem dX11_tellHeights_79 : decode cX11_tellHeights 79 = .ok (.ireturn, 1) := by decide +kernel
theorem dX11_isWithin_0 : decode cX11_isWithin 0 = .ok (.iload_n 0, 1) := by decide +kernel
theorem dX11_isWithin_1 : decode cX11_isWithin 1 = .ok (.iload_n 1, 1) := by decide +kernel
theorem dX11_isWithin_2 : decode cX11_isWithin 2 = .ok (.if_icmp .lt 12, 3) := by decide +kernel
theorem dX11_isWithin_5 : decode cX11_isWithin 5 = .ok (.iload_n 0, 1) := by decide +kernel
theorem dX11_isWithin_6 : decode cX11_isWithin 6 = .ok (.iload_n 2, 1) := by decide +kernel
theorem dX11_isWithin_7 : decode cX11_isWithin 7 = .ok (.if_icmp .gt 7, 3) := by decide +kernel
theorem dX11_isWithin_10 : decode cX11_isWithin 10 = .ok (.iconst 1, 1) := by decide +kernel
theorem dX11_isWithin_11 : decode cX11_isWithin 11 = .ok (.goto 4, 3) := by decide +kernel
theorem dX11_isWithin_14 : decode cX11_isWithin 14 = .ok (.iconst 0, 1) := by decide +kernel
theorem dX11_isWithin_15 : decode cX11_isWithin 15 = .ok (.ireturn, 1) := by decide +kernel
theorem dX11_isCell_0 : decode cX11_isCell 0 = .ok (.iload_n 0, 1) := by decide +kernel
theorem dX11_isCell_1 : decode cX11_isCell 1 = .ok (.iconst 0, 1) := by decide +kernel
theorem dX11_isCell_2 : decode cX11_isCell 2 = .ok (.bipush 63, 2) := by decide +kernel
theorem dX11_isCell_4 : decode cX11_isCell 4 = .ok (.invokestatic 86, 3) := by decide +kernel
theorem dX11_isCell_7 : decode cX11_isCell 7 = .ok (.ireturn, 1) := by decide +kernel
theorem dX11_isHour_0 : decode cX11_isHour 0 = .ok (.iload_n 0, 1) := by decide +kernel
theorem dX11_isHour_1 : decode cX11_isHour 1 = .ok (.iconst 0, 1) := by decide +kernel
theorem dX11_isHour_2 : decode cX11_isHour 2 = .ok (.sipush 999, 3) := by decide +kernel
theorem dX11_isHour_5 : decode cX11_isHour 5 = .ok (.invokestatic 86, 3) := by decide +kernel
theorem dX11_isHour_8 : decode cX11_isHour 8 = .ok (.ireturn, 1) := by decide +kernel
theorem dX11_isSide_0 : decode cX11_isSide 0 = .ok (.iload_n 0, 1) := by decide +kernel
theorem dX11_isSide_1 : decode cX11_isSide 1 = .ok (.iconst 0, 1) := by decide +kernel
theorem dX11_isSide_2 : decode cX11_isSide 2 = .ok (.iconst 2, 1) := by decide +kernel
theorem dX11_isSide_3 : decode cX11_isSide 3 = .ok (.invokestatic 86, 3) := by decide +kernel
theorem dX11_isSide_6 : decode cX11_isSide 6 = .ok (.ireturn, 1) := by decide +kernel
theorem dX11_isArmy_0 : decode cX11_isArmy 0 = .ok (.iload_n 0, 1) := by decide +kernel
theorem dX11_isArmy_1 : decode cX11_isArmy 1 = .ok (.ifCond .eq 8, 3) := by decide +kernel
theorem dX11_isArmy_4 : decode cX11_isArmy 4 = .ok (.iload_n 0, 1) := by decide +kernel
theorem dX11_isArmy_5 : decode cX11_isArmy 5 = .ok (.iconst 1, 1) := by decide +kernel
theorem dX11_isArmy_6 : decode cX11_isArmy 6 = .ok (.if_icmp .ne 7, 3) := by decide +kernel
theorem dX11_isArmy_9 : decode cX11_isArmy 9 = .ok (.iconst 1, 1) := by decide +kernel
theorem dX11_isArmy_10 : decode cX11_isArmy 10 = .ok (.goto 4, 3) := by decide +kernel
theorem dX11_isArmy_13 : decode cX11_isArmy 13 = .ok (.iconst 0, 1) := by decide +kernel
theorem dX11_isArmy_14 : decode cX11_isArmy 14 = .ok (.ireturn, 1) := by decide +kernel
theorem dX11_isBit_0 : decode cX11_isBit 0 = .ok (.iload_n 0, 1) := by decide +kernel
theorem dX11_isBit_1 : decode cX11_isBit 1 = .ok (.ifCond .eq 8, 3) := by decide +kernel
theorem dX11_isBit_4 : decode cX11_isBit 4 = .ok (.iload_n 0, 1) := by decide +kernel
theorem dX11_isBit_5 : decode cX11_isBit 5 = .ok (.iconst 1, 1) := by decide +kernel
theorem dX11_isBit_6 : decode cX11_isBit 6 = .ok (.if_icmp .ne 7, 3) := by decide +kernel
theorem dX11_isBit_9 : decode cX11_isBit 9 = .ok (.iconst 1, 1) := by decide +kernel
theorem dX11_isBit_10 : decode cX11_isBit 10 = .ok (.goto 4, 3) := by decide +kernel
theorem dX11_isBit_13 : decode cX11_isBit 13 = .ok (.iconst 0, 1) := by decide +kernel
theorem dX11_isBit_14 : decode cX11_isBit 14 = .ok (.ireturn, 1) := by decide +kernel
theorem dX11_isKind_0 : decode cX11_isKind 0 = .ok (.iload_n 0, 1) := by decide +kernel
theorem dX11_isKind_1 : decode cX11_isKind 1 = .ok (.iconst 0, 1) := by decide +kernel
theorem dX11_isKind_2 : decode cX11_isKind 2 = .ok (.iconst 5, 1) := by decide +kernel
theorem dX11_isKind_3 : decode cX11_isKind 3 = .ok (.invokestatic 86, 3) := by decide +kernel
theorem dX11_isKind_6 : decode cX11_isKind 6 = .ok (.ireturn, 1) := by decide +kernel
theorem dX11_isSheet_0 : decode cX11_isSheet 0 = .ok (.iload_n 0, 1) := by decide +kernel
theorem dX11_isSheet_1 : decode cX11_isSheet 1 = .ok (.iconst 0, 1) := by decide +kernel
theorem dX11_isSheet_2 : decode cX11_isSheet 2 = .ok (.iconst 3, 1) := by decide +kernel
theorem dX11_isSheet_3 : decode cX11_isSheet 3 = .ok (.invokestatic 86, 3) := by decide +kernel
theorem dX11_isSheet_6 : decode cX11_isSheet 6 = .ok (.ireturn, 1) := by decide +kernel
theorem dX11_isSetOf_0 : decode cX11_isSetOf 0 = .ok (.iload_n 0, 1) := by decide +kernel
theorem dX11_isSetOf_1 : decode cX11_isSetOf 1 = .ok (.ifCond .lt 14, 3) := by decide +kernel
theorem dX11_isSetOf_4 : decode cX11_isSetOf 4 = .ok (.iload_n 0, 1) := by decide +kernel
theorem dX11_isSetOf_5 : decode cX11_isSetOf 5 = .ok (.iconst 1, 1) := by decide +kernel
theorem dX11_isSetOf_6 : decode cX11_isSetOf 6 = .ok (.iload_n 1, 1) := by decide +kernel
theorem dX11_isSetOf_7 : decode cX11_isSetOf 7 = .ok (.ishl, 1) := by decide +kernel
theorem dX11_isSetOf_8 : decode cX11_isSetOf 8 = .ok (.if_icmp .ge 7, 3) := by decide +kernel
theorem dX11_isSetOf_11 : decode cX11_isSetOf 11 = .ok (.iconst 1, 1) := by decide +kernel
theorem dX11_isSetOf_12 : decode cX11_isSetOf 12 = .ok (.goto 4, 3) := by decide +kernel
theorem dX11_isSetOf_15 : decode cX11_isSetOf 15 = .ok (.iconst 0, 1) := by decide +kernel
theorem dX11_isSetOf_16 : decode cX11_isSetOf 16 = .ok (.ireturn, 1) := by decide +kernel
theorem dX11_isIn_0 : decode cX11_isIn 0 = .ok (.iload_n 0, 1) := by decide +kernel
theorem dX11_isIn_1 : decode cX11_isIn 1 = .ok (.iload_n 1, 1) := by decide +kernel
theorem dX11_isIn_2 : decode cX11_isIn 2 = .ok (.ishr, 1) := by decide +kernel
theorem dX11_isIn_3 : decode cX11_isIn 3 = .ok (.iconst 1, 1) := by decide +kernel
theorem dX11_isIn_4 : decode cX11_isIn 4 = .ok (.iand, 1) := by decide +kernel
theorem dX11_isIn_5 : decode cX11_isIn 5 = .ok (.ifCond .eq 7, 3) := by decide +kernel
theorem dX11_isIn_8 : decode cX11_isIn 8 = .ok (.iconst 1, 1) := by decide +kernel
theorem dX11_isIn_9 : decode cX11_isIn 9 = .ok (.goto 4, 3) := by decide +kernel
theorem dX11_isIn_12 : decode cX11_isIn 12 = .ok (.iconst 0, 1) := by decide +kernel
theorem dX11_isIn_13 : decode cX11_isIn 13 = .ok (.ireturn, 1) := by decide +kernel
theorem dX11_bit_0 : decode cX11_bit 0 = .ok (.iload_n 0, 1) := by decide +kernel
theorem dX11_bit_1 : decode cX11_bit 1 = .ok (.ifCond .eq 7, 3) := by decide +kernel
theorem dX11_bit_4 : decode cX11_bit 4 = .ok (.iconst 1, 1) := by decide +kernel
theorem dX11_bit_5 : decode cX11_bit 5 = .ok (.goto 4, 3) := by decide +kernel
theorem dX11_bit_8 : decode cX11_bit 8 = .ok (.iconst 0, 1) := by decide +kernel
theorem dX11_bit_9 : decode cX11_bit 9 = .ok (.ireturn, 1) := by decide +kernel
theorem dX11_apartOf_0 : decode cX11_apartOf 0 = .ok (.iload_n 0, 1) := by decide +kernel
theorem dX11_apartOf_1 : decode cX11_apartOf 1 = .ok (.bipush 8, 2) := by decide +kernel
theorem dX11_apartOf_3 : decode cX11_apartOf 3 = .ok (.irem, 1) := by decide +kernel
theorem dX11_apartOf_4 : decode cX11_apartOf 4 = .ok (.iload_n 1, 1) := by decide +kernel
theorem dX11_apartOf_5 : decode cX11_apartOf 5 = .ok (.bipush 8, 2) := by decide +kernel
theorem dX11_apartOf_7 : decode cX11_apartOf 7 = .ok (.irem, 1) := by decide +kernel
theorem dX11_apartOf_8 : decode cX11_apartOf 8 = .ok (.isub, 1) := by decide +kernel
theorem dX11_apartOf_9 : decode cX11_apartOf 9 = .ok (.invokestatic 378, 3) := by decide +kernel
theorem dX11_apartOf_12 : decode cX11_apartOf 12 = .ok (.iload_n 0, 1) := by decide +kernel
theorem dX11_apartOf_13 : decode cX11_apartOf 13 = .ok (.bipush 8, 2) := by decide +kernel
theorem dX11_apartOf_15 : decode cX11_apartOf 15 = .ok (.idiv, 1) := by decide +kernel
theorem dX11_apartOf_16 : decode cX11_apartOf 16 = .ok (.iload_n 1, 1) := by decide +kernel
theorem dX11_apartOf_17 : decode cX11_apartOf 17 = .ok (.bipush 8, 2) := by decide +kernel
theorem dX11_apartOf_19 : decode cX11_apartOf 19 = .ok (.idiv, 1) := by decide +kernel
theorem dX11_apartOf_20 : decode cX11_apartOf 20 = .ok (.isub, 1) := by decide +kernel
theorem dX11_apartOf_21 : decode cX11_apartOf 21 = .ok (.invokestatic 378, 3) := by decide +kernel
theorem dX11_apartOf_24 : decode cX11_apartOf 24 = .ok (.invokestatic 383, 3) := by decide +kernel
theorem dX11_apartOf_27 : decode cX11_apartOf 27 = .ok (.ireturn, 1) := by decide +kernel
theorem dX11_isNight_0 : decode cX11_isNight 0 = .ok (.iload_n 0, 1) := by decide +kernel
theorem dX11_isNight_1 : decode cX11_isNight 1 = .ok (.bipush 24, 2) := by decide +kernel
theorem dX11_isNight_3 : decode cX11_isNight 3 = .ok (.irem, 1) := by decide +kernel
theorem dX11_isNight_4 : decode cX11_isNight 4 = .ok (.istore_n 1, 1) := by decide +kernel
theorem dX11_isNight_5 : decode cX11_isNight 5 = .ok (.iload_n 1, 1) := by decide +kernel
theorem dX11_isNight_6 : decode cX11_isNight 6 = .ok (.bipush 6, 2) := by decide +kernel
theorem dX11_isNight_8 : decode cX11_isNight 8 = .ok (.if_icmp .lt 9, 3) := by decide +kernel
theorem dX11_isNight_11 : decode cX11_isNight 11 = .ok (.iload_n 1, 1) := by decide +kernel
theorem dX11_isNight_12 : decode cX11_isNight 12 = .ok (.bipush 19, 2) := by decide +kernel
theorem dX11_isNight_14 : decode cX11_isNight 14 = .ok (.if_icmp .le 7, 3) := by decide +kernel
theorem dX11_isNight_17 : decode cX11_isNight 17 = .ok (.iconst 1, 1) := by decide +kernel
theorem dX11_isNight_18 : decode cX11_isNight 18 = .ok (.goto 4, 3) := by decide +kernel
theorem dX11_isNight_21 : decode cX11_isNight 21 = .ok (.iconst 0, 1) := by decide +kernel
theorem dX11_isNight_22 : decode cX11_isNight 22 = .ok (.ireturn, 1) := by decide +kernel
theorem dX12_in_0 : decode cX12_in 0 = .ok (.iload_n 1, 1) := by decide +kernel
theorem dX12_in_1 : decode cX12_in 1 = .ok (.iload_n 2, 1) := by decide +kernel
theorem dX12_in_2 : decode cX12_in 2 = .ok (.if_icmp .lt 12, 3) := by decide +kernel
theorem dX12_in_5 : decode cX12_in 5 = .ok (.iload_n 1, 1) := by decide +kernel
theorem dX12_in_6 : decode cX12_in 6 = .ok (.iload_n 3, 1) := by decide +kernel
theorem dX12_in_7 : decode cX12_in 7 = .ok (.if_icmp .gt 7, 3) := by decide +kernel
theorem dX12_in_10 : decode cX12_in 10 = .ok (.iconst 1, 1) := by decide +kernel
theorem dX12_in_11 : decode cX12_in 11 = .ok (.goto 4, 3) := by decide +kernel
theorem dX12_in_14 : decode cX12_in 14 = .ok (.iconst 0, 1) := by decide +kernel
theorem dX12_in_15 : decode cX12_in 15 = .ok (.ireturn, 1) := by decide +kernel
theorem dX12_init_0 : decode cX12_init 0 = .ok (.aload_n 0, 1) := by decide +kernel
theorem dX12_init_1 : decode cX12_init 1 = .ok (.invokespecial 1, 3) := by decide +kernel
theorem dX12_init_4 : decode cX12_init 4 = .ok (.aload_n 0, 1) := by decide +kernel
theorem dX12_init_5 : decode cX12_init 5 = .ok (.bipush 64, 2) := by decide +kernel
theorem dX12_init_7 : decode cX12_init 7 = .ok (.newarray .int, 2) := by decide +kernel
theorem dX12_init_9 : decode cX12_init 9 = .ok (.putfield 7, 3) := by decide +kernel
theorem dX12_init_12 : decode cX12_init 12 = .ok (.aload_n 0, 1) := by decide +kernel
theorem dX12_init_13 : decode cX12_init 13 = .ok (.bipush 8, 2) := by decide +kernel
theorem dX12_init_15 : decode cX12_init 15 = .ok (.newarray .int, 2) := by decide +kernel
theorem dX12_init_17 : decode cX12_init 17 = .ok (.putfield 13, 3) := by decide +kernel
theorem dX12_init_20 : decode cX12_init 20 = .ok (.aload_n 0, 1) := by decide +kernel
theorem dX12_init_21 : decode cX12_init 21 = .ok (.iconst 1, 1) := by decide +kernel
theorem dX12_init_22 : decode cX12_init 22 = .ok (.putfield 16, 3) := by decide +kernel
theorem dX12_init_25 : decode cX12_init 25 = .ok (.aload_n 0, 1) := by decide +kernel
theorem dX12_init_26 : decode cX12_init 26 = .ok (.iconst 0, 1) := by decide +kernel
theorem dX12_init_27 : decode cX12_init 27 = .ok (.putfield 20, 3) := by decide +kernel
theorem dX12_init_30 : decode cX12_init 30 = .ok (.aload_n 0, 1) := by decide +kernel
theorem dX12_init_31 : decode cX12_init 31 = .ok (.iconst 0, 1) := by decide +kernel
theorem dX12_init_32 : decode cX12_init 32 = .ok (.putfield 23, 3) := by decide +kernel
theorem dX12_init_35 : decode cX12_init 35 = .ok (.aload_n 0, 1) := by decide +kernel
theorem dX12_init_36 : decode cX12_init 36 = .ok (.bipush 16, 2) := by decide +kernel
theorem dX12_init_38 : decode cX12_init 38 = .ok (.newarray .int, 2) := by decide +kernel
theorem dX12_init_40 : decode cX12_init 40 = .ok (.putfield 26, 3) := by decide +kernel
theorem dX12_init_43 : decode cX12_init 43 = .ok (.aload_n 0, 1) := by decide +kernel
theorem dX12_init_44 : decode cX12_init 44 = .ok (.bipush 16, 2) := by decide +kernel
theorem dX12_init_46 : decode cX12_init 46 = .ok (.newarray .int, 2) := by decide +kernel
theorem dX12_init_48 : decode cX12_init 48 = .ok (.putfield 29, 3) := by decide +kernel
theorem dX12_init_51 : decode cX12_init 51 = .ok (.aload_n 0, 1) := by decide +kernel
theorem dX12_init_52 : decode cX12_init 52 = .ok (.bipush 16, 2) := by decide +kernel
theorem dX12_init_54 : decode cX12_init 54 = .ok (.newarray .int, 2) := by decide +kernel
theorem dX12_init_56 : decode cX12_init 56 = .ok (.putfield 32, 3) := by decide +kernel
theorem dX12_init_59 : decode cX12_init 59 = .ok (.aload_n 0, 1) := by decide +kernel
theorem dX12_init_60 : decode cX12_init 60 = .ok (.bipush 16, 2) := by decide +kernel
theorem dX12_init_62 : decode cX12_init 62 = .ok (.newarray .int, 2) := by decide +kernel
theorem dX12_init_64 : decode cX12_init 64 = .ok (.putfield 35, 3) := by decide +kernel
theorem dX12_init_67 : decode cX12_init 67 = .ok (.aload_n 0, 1) := by decide +kernel
theorem dX12_init_68 : decode cX12_init 68 = .ok (.bipush 16, 2) := by decide +kernel
theorem dX12_init_70 : decode cX12_init 70 = .ok (.newarray .int, 2) := by decide +kernel
theorem dX12_init_72 : decode cX12_init 72 = .ok (.putfield 38, 3) := by decide +kernel
theorem dX12_init_75 : decode cX12_init 75 = .ok (.aload_n 0, 1) := by decide +kernel
theorem dX12_init_76 : decode cX12_init 76 = .ok (.bipush 96, 2) := by decide +kernel
theorem dX12_init_78 : decode cX12_init 78 = .ok (.newarray .int, 2) := by decide +kernel
theorem dX12_init_80 : decode cX12_init 80 = .ok (.putfield 41, 3) := by decide +kernel
theorem dX12_init_83 : decode cX12_init 83 = .ok (.aload_n 0, 1) := by decide +kernel
theorem dX12_init_84 : decode cX12_init 84 = .ok (.bipush 16, 2) := by decide +kernel
theorem dX12_init_86 : decode cX12_init 86 = .ok (.newarray .boolean, 2) := by decide +kernel
theorem dX12_init_88 : decode cX12_init 88 = .ok (.putfield 44, 3) := by decide +kernel
theorem dX12_init_91 : decode cX12_init 91 = .ok (.aload_n 0, 1) := by decide +kernel
theorem dX12_init_92 : decode cX12_init 92 = .ok (.bipush 16, 2) := by decide +kernel
theorem dX12_init_94 : decode cX12_init 94 = .ok (.newarray .boolean, 2) := by decide +kernel
theorem dX12_init_96 : decode cX12_init 96 = .ok (.putfield 48, 3) := by decide +kernel
theorem dX12_init_99 : decode cX12_init 99 = .ok (.aload_n 0, 1) := by decide +kernel
theorem dX12_init_100 : decode cX12_init 100 = .ok (.sipush 160, 3) := by decide +kernel
theorem dX12_init_103 : decode cX12_init 103 = .ok (.newarray .byte, 2) := by decide +kernel
theorem dX12_init_105 : decode cX12_init 105 = .ok (.putfield 51, 3) := by decide +kernel
theorem dX12_init_108 : decode cX12_init 108 = .ok (.aload_n 0, 1) := by decide +kernel
theorem dX12_init_109 : decode cX12_init 109 = .ok (.iconst 0, 1) := by decide +kernel
theorem dX12_init_110 : decode cX12_init 110 = .ok (.putfield 55, 3) := by decide +kernel
theorem dX12_init_113 : decode cX12_init 113 = .ok (.aload_n 0, 1) := by decide +kernel
theorem dX12_init_114 : decode cX12_init 114 = .ok (.iconst 1, 1) := by decide +kernel
theorem dX12_init_115 : decode cX12_init 115 = .ok (.putfield 58, 3) := by decide +kernel
theorem dX12_init_118 : decode cX12_init 118 = .ok (.aload_n 0, 1) := by decide +kernel
theorem dX12_init_119 : decode cX12_init 119 = .ok (.iconst 3, 1) := by decide +kernel
theorem dX12_init_120 : decode cX12_init 120 = .ok (.newarray .int, 2) := by decide +kernel
theorem dX12_init_122 : decode cX12_init 122 = .ok (.putfield 61, 3) := by decide +kernel
theorem dX12_init_125 : decode cX12_init 125 = .ok (.aload_n 0, 1) := by decide +kernel
theorem dX12_init_126 : decode cX12_init 126 = .ok (.bipush 12, 2) := by decide +kernel
theorem dX12_init_128 : decode cX12_init 128 = .ok (.newarray .int, 2) := by decide +kernel
theorem dX12_init_130 : decode cX12_init 130 = .ok (.putfield 64, 3) := by decide +kernel
theorem dX12_init_133 : decode cX12_init 133 = .ok (.aload_n 0, 1) := by decide +kernel
theorem dX12_init_134 : decode cX12_init 134 = .ok (.sipush 1920, 3) := by decide +kernel
theorem dX12_init_137 : decode cX12_init 137 = .ok (.newarray .int, 2) := by decide +kernel
theorem dX12_init_139 : decode cX12_init 139 = .ok (.putfield 67, 3) := by decide +kernel
theorem dX12_init_142 : decode cX12_init 142 = .ok (.aload_n 0, 1) := by decide +kernel
theorem dX12_init_143 : decode cX12_init 143 = .ok (.iconst 0, 1) := by decide +kernel
theorem dX12_init_144 : decode cX12_init 144 = .ok (.putfield 70, 3) := by decide +kernel
theorem dX12_init_147 : decode cX12_init 147 = .ok (.aload_n 0, 1) := by decide +kernel
theorem dX12_init_148 : decode cX12_init 148 = .ok (.iconst 0, 1) := by decide +kernel
theorem dX12_init_149 : decode cX12_init 149 = .ok (.putfield 73, 3) := by decide +kernel
theorem dX12_init_152 : decode cX12_init 152 = .ok (.aload_n 0, 1) := by decide +kernel
theorem dX12_init_153 : decode cX12_init 153 = .ok (.iconst 0, 1) := by decide +kernel
theorem dX12_init_154 : decode cX12_init 154 = .ok (.putfield 76, 3) := by decide +kernel
theorem dX12_init_157 : decode cX12_init 157 = .ok (.aload_n 0, 1) := by decide +kernel
theorem dX12_init_158 : decode cX12_init 158 = .ok (.iconst 0, 1) := by decide +kernel
theorem dX12_init_159 : decode cX12_init 159 = .ok (.putfield 79, 3) := by decide +kernel
theorem dX12_init_162 : decode cX12_init 162 = .ok (.aload_n 0, 1) := by decide +kernel
theorem dX12_init_163 : decode cX12_init 163 = .ok (.sipush 161, 3) := by decide +kernel
theorem dX12_init_166 : decode cX12_init 166 = .ok (.newarray .int, 2) := by decide +kernel
theorem dX12_init_168 : decode cX12_init 168 = .ok (.putfield 82, 3) := by decide +kernel
theorem dX12_init_171 : decode cX12_init 171 = .ok (.aload_n 0, 1) := by decide +kernel
theorem dX12_init_172 : decode cX12_init 172 = .ok (.bipush 7, 2) := by decide +kernel
theorem dX12_init_174 : decode cX12_init 174 = .ok (.newarray .boolean, 2) := by decide +kernel
theorem dX12_init_176 : decode cX12_init 176 = .ok (.putfield 85, 3) := by decide +kernel
theorem dX12_init_179 : decode cX12_init 179 = .ok (.aload_n 0, 1) := by decide +kernel
theorem dX12_init_180 : decode cX12_init 180 = .ok (.iconst 0, 1) := by decide +kernel
theorem dX12_init_181 : decode cX12_init 181 = .ok (.putfield 88, 3) := by decide +kernel
theorem dX12_init_184 : decode cX12_init 184 = .ok (.aload_n 0, 1) := by decide +kernel
theorem dX12_init_185 : decode cX12_init 185 = .ok (.iconst 0, 1) := by decide +kernel
theorem dX12_init_186 : decode cX12_init 186 = .ok (.putfield 91, 3) := by decide +kernel
theorem dX12_init_189 : decode cX12_init 189 = .ok (.aload_n 0, 1) := by decide +kernel
theorem dX12_init_190 : decode cX12_init 190 = .ok (.iconst 0, 1) := by decide +kernel
theorem dX12_init_191 : decode cX12_init 191 = .ok (.putfield 94, 3) := by decide +kernel
theorem dX12_init_194 : decode cX12_init 194 = .ok (.aload_n 0, 1) := by decide +kernel
theorem dX12_init_195 : decode cX12_init 195 = .ok (.iconst 0, 1) := by decide +kernel
theorem dX12_init_196 : decode cX12_init 196 = .ok (.putfield 97, 3) := by decide +kernel
theorem dX12_init_199 : decode cX12_init 199 = .ok (.aload_n 0, 1) := by decide +kernel
theorem dX12_init_200 : decode cX12_init 200 = .ok (.bipush 6, 2) := by decide +kernel
theorem dX12_init_202 : decode cX12_init 202 = .ok (.newarray .int, 2) := by decide +kernel
theorem dX12_init_204 : decode cX12_init 204 = .ok (.putfield 100, 3) := by decide +kernel
theorem dX12_init_207 : decode cX12_init 207 = .ok (.aload_n 0, 1) := by decide +kernel
theorem dX12_init_208 : decode cX12_init 208 = .ok (.sipush 161, 3) := by decide +kernel
theorem dX12_init_211 : decode cX12_init 211 = .ok (.newarray .int, 2) := by decide +kernel
theorem dX12_init_213 : decode cX12_init 213 = .ok (.putfield 103, 3) := by decide +kernel
theorem dX12_init_216 : decode cX12_init 216 = .ok (.aload_n 0, 1) := by decide +kernel
theorem dX12_init_217 : decode cX12_init 217 = .ok (.iconst 0, 1) := by decide +kernel
theorem dX12_init_218 : decode cX12_init 218 = .ok (.putfield 106, 3) := by decide +kernel
theorem dX12_init_221 : decode cX12_init 221 = .ok (.aload_n 0, 1) := by decide +kernel
theorem dX12_init_222 : decode cX12_init 222 = .ok (.bipush 12, 2) := by decide +kernel
theorem dX12_init_224 : decode cX12_init 224 = .ok (.newarray .int, 2) := by decide +kernel
theorem dX12_init_226 : decode cX12_init 226 = .ok (.putfield 109, 3) := by decide +kernel
theorem dX12_init_229 : decode cX12_init 229 = .ok (.aload_n 0, 1) := by decide +kernel
theorem dX12_init_230 : decode cX12_init 230 = .ok (.bipush 12, 2) := by decide +kernel
theorem dX12_init_232 : decode cX12_init 232 = .ok (.newarray .int, 2) := by decide +kernel
theorem dX12_init_234 : decode cX12_init 234 = .ok (.putfield 112, 3) := by decide +kernel
theorem dX12_init_237 : decode cX12_init 237 = .ok (.aload_n 0, 1) := by decide +kernel
theorem dX12_init_238 : decode cX12_init 238 = .ok (.bipush 12, 2) := by decide +kernel
theorem dX12_init_240 : decode cX12_init 240 = .ok (.newarray .int, 2) := by decide +kernel
theorem dX12_init_242 : decode cX12_init 242 = .ok (.putfield 115, 3) := by decide +kernel
theorem dX12_init_245 : decode cX12_init 245 = .ok (.aload_n 0, 1) := by decide +kernel
theorem dX12_init_246 : decode cX12_init 246 = .ok (.bipush 12, 2) := by decide +kernel
theorem dX12_init_248 : decode cX12_init 248 = .ok (.newarray .int, 2) := by decide +kernel
theorem dX12_init_250 : decode cX12_init 250 = .ok (.putfield 118, 3) := by decide +kernel
theorem dX12_init_253 : decode cX12_init 253 = .ok (.aload_n 0, 1) := by decide +kernel
theorem dX12_init_254 : decode cX12_init 254 = .ok (.bipush 12, 2) := by decide +kernel
theorem dX12_init_256 : decode cX12_init 256 = .ok (.newarray .int, 2) := by decide +kernel
theorem dX12_init_258 : decode cX12_init 258 = .ok (.putfield 121, 3) := by decide +kernel
theorem dX12_init_261 : decode cX12_init 261 = .ok (.aload_n 0, 1) := by decide +kernel
theorem dX12_init_262 : decode cX12_init 262 = .ok (.iconst 0, 1) := by decide +kernel
theorem dX12_init_263 : decode cX12_init 263 = .ok (.putfield 124, 3) := by decide +kernel
theorem dX12_init_266 : decode cX12_init 266 = .ok (.aload_n 0, 1) := by decide +kernel
theorem dX12_init_267 : decode cX12_init 267 = .ok (.iconst 0, 1) := by decide +kernel
theorem dX12_init_268 : decode cX12_init 268 = .ok (.putfield 127, 3) := by decide +kernel
theorem dX12_init_271 : decode cX12_init 271 = .ok (.aload_n 0, 1) := by decide +kernel
theorem dX12_init_272 : decode cX12_init 272 = .ok (.iconst 0, 1) := by decide +kernel
theorem dX12_init_273 : decode cX12_init 273 = .ok (.putfield 130, 3) := by decide +kernel
theorem dX12_init_276 : decode cX12_init 276 = .ok (.aload_n 0, 1) := by decide +kernel
theorem dX12_init_277 : decode cX12_init 277 = .ok (.bipush 12, 2) := by decide +kernel
theorem dX12_init_279 : decode cX12_init 279 = .ok (.newarray .int, 2) := by decide +kernel
theorem dX12_init_281 : decode cX12_init 281 = .ok (.putfield 133, 3) := by decide +kernel
theorem dX12_init_284 : decode cX12_init 284 = .ok (.aload_n 0, 1) := by decide +kernel
theorem dX12_init_285 : decode cX12_init 285 = .ok (.bipush 12, 2) := by decide +kernel
theorem dX12_init_287 : decode cX12_init 287 = .ok (.newarray .int, 2) := by decide +kernel
theorem dX12_init_289 : decode cX12_init 289 = .ok (.putfield 136, 3) := by decide +kernel
theorem dX12_init_292 : decode cX12_init 292 = .ok (.aload_n 0, 1) := by decide +kernel
theorem dX12_init_293 : decode cX12_init 293 = .ok (.bipush 12, 2) := by decide +kernel
theorem dX12_init_295 : decode cX12_init 295 = .ok (.newarray .int, 2) := by decide +kernel
theorem dX12_init_297 : decode cX12_init 297 = .ok (.putfield 139, 3) := by decide +kernel
theorem dX12_init_300 : decode cX12_init 300 = .ok (.aload_n 0, 1) := by decide +kernel
theorem dX12_init_301 : decode cX12_init 301 = .ok (.bipush 24, 2) := by decide +kernel
theorem dX12_init_303 : decode cX12_init 303 = .ok (.newarray .int, 2) := by decide +kernel
theorem dX12_init_305 : decode cX12_init 305 = .ok (.putfield 142, 3) := by decide +kernel
theorem dX12_init_308 : decode cX12_init 308 = .ok (.aload_n 0, 1) := by decide +kernel
theorem dX12_init_309 : decode cX12_init 309 = .ok (.bipush 24, 2) := by decide +kernel
theorem dX12_init_311 : decode cX12_init 311 = .ok (.newarray .int, 2) := by decide +kernel
theorem dX12_init_313 : decode cX12_init 313 = .ok (.putfield 145, 3) := by decide +kernel
theorem dX12_init_316 : decode cX12_init 316 = .ok (.aload_n 0, 1) := by decide +kernel
theorem dX12_init_317 : decode cX12_init 317 = .ok (.bipush 24, 2) := by decide +kernel
theorem dX12_init_319 : decode cX12_init 319 = .ok (.newarray .int, 2) := by decide +kernel
theorem dX12_init_321 : decode cX12_init 321 = .ok (.putfield 148, 3) := by decide +kernel
theorem dX12_init_324 : decode cX12_init 324 = .ok (.aload_n 0, 1) := by decide +kernel
theorem dX12_init_325 : decode cX12_init 325 = .ok (.bipush 24, 2) := by decide +kernel
theorem dX12_init_327 : decode cX12_init 327 = .ok (.newarray .int, 2) := by decide +kernel
theorem dX12_init_329 : decode cX12_init 329 = .ok (.putfield 151, 3) := by decide +kernel
theorem dX12_init_332 : decode cX12_init 332 = .ok (.aload_n 0, 1) := by decide +kernel
theorem dX12_init_333 : decode cX12_init 333 = .ok (.bipush 10, 2) := by decide +kernel
theorem dX12_init_335 : decode cX12_init 335 = .ok (.newarray .int, 2) := by decide +kernel
theorem dX12_init_337 : decode cX12_init 337 = .ok (.putfield 154, 3) := by decide +kernel
theorem dX12_init_340 : decode cX12_init 340 = .ok (.aload_n 0, 1) := by decide +kernel
theorem dX12_init_341 : decode cX12_init 341 = .ok (.bipush 10, 2) := by decide +kernel
theorem dX12_init_343 : decode cX12_init 343 = .ok (.newarray .int, 2) := by decide +kernel
theorem dX12_init_345 : decode cX12_init 345 = .ok (.putfield 157, 3) := by decide +kernel
theorem dX12_init_348 : decode cX12_init 348 = .ok (.aload_n 0, 1) := by decide +kernel
theorem dX12_init_349 : decode cX12_init 349 = .ok (.bipush 10, 2) := by decide +kernel
theorem dX12_init_351 : decode cX12_init 351 = .ok (.newarray .int, 2) := by decide +kernel
theorem dX12_init_353 : decode cX12_init 353 = .ok (.putfield 160, 3) := by decide +kernel
theorem dX12_init_356 : decode cX12_init 356 = .ok (.aload_n 0, 1) := by decide +kernel
theorem dX12_init_357 : decode cX12_init 357 = .ok (.bipush 24, 2) := by decide +kernel
theorem dX12_init_359 : decode cX12_init 359 = .ok (.newarray .boolean, 2) := by decide +kernel
theorem dX12_init_361 : decode cX12_init 361 = .ok (.putfield 163, 3) := by decide +kernel
theorem dX12_init_364 : decode cX12_init 364 = .ok (.aload_n 0, 1) := by decide +kernel
theorem dX12_init_365 : decode cX12_init 365 = .ok (.iconst 0, 1) := by decide +kernel
theorem dX12_init_366 : decode cX12_init 366 = .ok (.putfield 166, 3) := by decide +kernel
theorem dX12_init_369 : decode cX12_init 369 = .ok (.aload_n 0, 1) := by decide +kernel
theorem dX12_init_370 : decode cX12_init 370 = .ok (.bipush 10, 2) := by decide +kernel
theorem dX12_init_372 : decode cX12_init 372 = .ok (.newarray .int, 2) := by decide +kernel
theorem dX12_init_374 : decode cX12_init 374 = .ok (.putfield 169, 3) := by decide +kernel
theorem dX12_init_377 : decode cX12_init 377 = .ok (.aload_n 0, 1) := by decide +kernel
theorem dX12_init_378 : decode cX12_init 378 = .ok (.bipush 10, 2) := by decide +kernel
theorem dX12_init_380 : decode cX12_init 380 = .ok (.newarray .long, 2) := by decide +kernel
theorem dX12_init_382 : decode cX12_init 382 = .ok (.putfield 172, 3) := by decide +kernel
theorem dX12_init_385 : decode cX12_init 385 = .ok (.aload_n 0, 1) := by decide +kernel
theorem dX12_init_386 : decode cX12_init 386 = .ok (.bipush 7, 2) := by decide +kernel
theorem dX12_init_388 : decode cX12_init 388 = .ok (.newarray .int, 2) := by decide +kernel
theorem dX12_init_390 : decode cX12_init 390 = .ok (.putfield 176, 3) := by decide +kernel
theorem dX12_init_393 : decode cX12_init 393 = .ok (.aload_n 0, 1) := by decide +kernel
theorem dX12_init_394 : decode cX12_init 394 = .ok (.iconst 0, 1) := by decide +kernel
theorem dX12_init_395 : decode cX12_init 395 = .ok (.putfield 179, 3) := by decide +kernel
theorem dX12_init_398 : decode cX12_init 398 = .ok (.aload_n 0, 1) := by decide +kernel
theorem dX12_init_399 : decode cX12_init 399 = .ok (.sipush 128, 3) := by decide +kernel
theorem dX12_init_402 : decode cX12_init 402 = .ok (.newarray .boolean, 2) := by decide +kernel
theorem dX12_init_404 : decode cX12_init 404 = .ok (.putfield 182, 3) := by decide +kernel
theorem dX12_init_407 : decode cX12_init 407 = .ok (.aload_n 0, 1) := by decide +kernel
theorem dX12_init_408 : decode cX12_init 408 = .ok (.iconst 0, 1) := by decide +kernel
theorem dX12_init_409 : decode cX12_init 409 = .ok (.putfield 185, 3) := by decide +kernel
theorem dX12_init_412 : decode cX12_init 412 = .ok (.aload_n 0, 1) := by decide +kernel
theorem dX12_init_413 : decode cX12_init 413 = .ok (.bipush 20, 2) := by decide +kernel
theorem dX12_init_415 : decode cX12_init 415 = .ok (.newarray .int, 2) := by decide +kernel
theorem dX12_init_417 : decode cX12_init 417 = .ok (.putfield 188, 3) := by decide +kernel
theorem dX12_init_420 : decode cX12_init 420 = .ok (.aload_n 0, 1) := by decide +kernel
theorem dX12_init_421 : decode cX12_init 421 = .ok (.bipush 20, 2) := by decide +kernel
theorem dX12_init_423 : decode cX12_init 423 = .ok (.newarray .int, 2) := by decide +kernel
theorem dX12_init_425 : decode cX12_init 425 = .ok (.putfield 191, 3) := by decide +kernel
theorem dX12_init_428 : decode cX12_init 428 = .ok (.aload_n 0, 1) := by decide +kernel
theorem dX12_init_429 : decode cX12_init 429 = .ok (.bipush 20, 2) := by decide +kernel
theorem dX12_init_431 : decode cX12_init 431 = .ok (.newarray .int, 2) := by decide +kernel
theorem dX12_init_433 : decode cX12_init 433 = .ok (.putfield 194, 3) := by decide +kernel
theorem dX12_init_436 : decode cX12_init 436 = .ok (.aload_n 0, 1) := by decide +kernel
theorem dX12_init_437 : decode cX12_init 437 = .ok (.bipush 20, 2) := by decide +kernel
theorem dX12_init_439 : decode cX12_init 439 = .ok (.newarray .int, 2) := by decide +kernel
theorem dX12_init_441 : decode cX12_init 441 = .ok (.putfield 197, 3) := by decide +kernel
theorem dX12_init_444 : decode cX12_init 444 = .ok (.aload_n 0, 1) := by decide +kernel
theorem dX12_init_445 : decode cX12_init 445 = .ok (.iconst 2, 1) := by decide +kernel
theorem dX12_init_446 : decode cX12_init 446 = .ok (.newarray .long, 2) := by decide +kernel
theorem dX12_init_448 : decode cX12_init 448 = .ok (.putfield 200, 3) := by decide +kernel
theorem dX12_init_451 : decode cX12_init 451 = .ok (.aload_n 0, 1) := by decide +kernel
theorem dX12_init_452 : decode cX12_init 452 = .ok (.iconst 4, 1) := by decide +kernel
theorem dX12_init_453 : decode cX12_init 453 = .ok (.newarray .int, 2) := by decide +kernel
theorem dX12_init_455 : decode cX12_init 455 = .ok (.dup, 1) := by decide +kernel
theorem dX12_init_456 : decode cX12_init 456 = .ok (.iconst 0, 1) := by decide +kernel
theorem dX12_init_457 : decode cX12_init 457 = .ok (.iconst (-1), 1) := by decide +kernel
theorem dX12_init_458 : decode cX12_init 458 = .ok (.iastore, 1) := by decide +kernel
theorem dX12_init_459 : decode cX12_init 459 = .ok (.dup, 1) := by decide +kernel
theorem dX12_init_460 : decode cX12_init 460 = .ok (.iconst 1, 1) := by decide +kernel
theorem dX12_init_461 : decode cX12_init 461 = .ok (.iconst (-1), 1) := by decide +kernel
theorem dX12_init_462 : decode cX12_init 462 = .ok (.iastore, 1) := by decide +kernel
theorem dX12_init_463 : decode cX12_init 463 = .ok (.dup, 1) := by decide +kernel
theorem dX12_init_464 : decode cX12_init 464 = .ok (.iconst 2, 1) := by decide +kernel
theorem dX12_init_465 : decode cX12_init 465 = .ok (.iconst (-1), 1) := by decide +kernel
theorem dX12_init_466 : decode cX12_init 466 = .ok (.iastore, 1) := by decide +kernel
theorem dX12_init_467 : decode cX12_init 467 = .ok (.dup, 1) := by decide +kernel
theorem dX12_init_468 : decode cX12_init 468 = .ok (.iconst 3, 1) := by decide +kernel
theorem dX12_init_469 : decode cX12_init 469 = .ok (.iconst (-1), 1) := by decide +kernel
theorem dX12_init_470 : decode cX12_init 470 = .ok (.iastore, 1) := by decide +kernel
theorem dX12_init_471 : decode cX12_init 471 = .ok (.putfield 203, 3) := by decide +kernel
theorem dX12_init_474 : decode cX12_init 474 = .ok (.aload_n 0, 1) := by decide +kernel
theorem dX12_init_475 : decode cX12_init 475 = .ok (.iconst 4, 1) := by decide +kernel
theorem dX12_init_476 : decode cX12_init 476 = .ok (.newarray .int, 2) := by decide +kernel
theorem dX12_init_478 : decode cX12_init 478 = .ok (.putfield 206, 3) := by decide +kernel
theorem dX12_init_481 : decode cX12_init 481 = .ok (.aload_n 0, 1) := by decide +kernel
theorem dX12_init_482 : decode cX12_init 482 = .ok (.sipush 160, 3) := by decide +kernel
theorem dX12_init_485 : decode cX12_init 485 = .ok (.newarray .int, 2) := by decide +kernel
theorem dX12_init_487 : decode cX12_init 487 = .ok (.putfield 209, 3) := by decide +kernel
theorem dX12_init_490 : decode cX12_init 490 = .ok (.aload_n 0, 1) := by decide +kernel
theorem dX12_init_491 : decode cX12_init 491 = .ok (.bipush 40, 2) := by decide +kernel
theorem dX12_init_493 : decode cX12_init 493 = .ok (.newarray .int, 2) := by decide +kernel
theorem dX12_init_495 : decode cX12_init 495 = .ok (.putfield 212, 3) := by decide +kernel
theorem dX12_init_498 : decode cX12_init 498 = .ok (.iconst 0, 1) := by decide +kernel
theorem dX12_init_499 : decode cX12_init 499 = .ok (.istore_n 1, 1) := by decide +kernel
theorem dX12_init_500 : decode cX12_init 500 = .ok (.iload_n 1, 1) := by decide +kernel
theorem dX12_init_501 : decode cX12_init 501 = .ok (.bipush 8, 2) := by decide +kernel
theorem dX12_init_503 : decode cX12_init 503 = .ok (.if_icmp .ge 16, 3) := by decide +kernel
theorem dX12_init_506 : decode cX12_init 506 = .ok (.aload_n 0, 1) := by decide +kernel
theorem dX12_init_507 : decode cX12_init 507 = .ok (.getfield 13, 3) := by decide +kernel
theorem dX12_init_510 : decode cX12_init 510 = .ok (.iload_n 1, 1) := by decide +kernel
theorem dX12_init_511 : decode cX12_init 511 = .ok (.iconst 4, 1) := by decide +kernel
theorem dX12_init_512 : decode cX12_init 512 = .ok (.iastore, 1) := by decide +kernel
theorem dX12_init_513 : decode cX12_init 513 = .ok (.iinc 1 1, 3) := by decide +kernel
theorem dX12_init_516 : decode cX12_init 516 = .ok (.goto (-16), 3) := by decide +kernel
theorem dX12_init_519 : decode cX12_init 519 = .ok (.aload_n 0, 1) := by decide +kernel
theorem dX12_init_520 : decode cX12_init 520 = .ok (.invokevirtual 215, 3) := by decide +kernel
theorem dX12_init_523 : decode cX12_init 523 = .ok (.return_, 1) := by decide +kernel
theorem dX12_isCell_0 : decode cX12_isCell 0 = .ok (.aload_n 0, 1) := by decide +kernel
theorem dX12_isCell_1 : decode cX12_isCell 1 = .ok (.iload_n 1, 1) := by decide +kernel
theorem dX12_isCell_2 : decode cX12_isCell 2 = .ok (.iconst 0, 1) := by decide +kernel
theorem dX12_isCell_3 : decode cX12_isCell 3 = .ok (.bipush 63, 2) := by decide +kernel
theorem dX12_isCell_5 : decode cX12_isCell 5 = .ok (.invokevirtual 218, 3) := by decide +kernel
theorem dX12_isCell_8 : decode cX12_isCell 8 = .ok (.ireturn, 1) := by decide +kernel
theorem dX12_isHour_0 : decode cX12_isHour 0 = .ok (.aload_n 0, 1) := by decide +kernel
theorem dX12_isHour_1 : decode cX12_isHour 1 = .ok (.iload_n 1, 1) := by decide +kernel
theorem dX12_isHour_2 : decode cX12_isHour 2 = .ok (.iconst 0, 1) := by decide +kernel
theorem dX12_isHour_3 : decode cX12_isHour 3 = .ok (.sipush 999, 3) := by decide +kernel
theorem dX12_isHour_6 : decode cX12_isHour 6 = .ok (.invokevirtual 218, 3) := by decide +kernel
theorem dX12_isHour_9 : decode cX12_isHour 9 = .ok (.ireturn, 1) := by decide +kernel
theorem dX12_height_0 : decode cX12_height 0 = .ok (.aload_n 0, 1) := by decide +kernel
theorem dX12_height_1 : decode cX12_height 1 = .ok (.iload_n 1, 1) := by decide +kernel
theorem dX12_height_2 : decode cX12_height 2 = .ok (.invokevirtual 222, 3) := by decide +kernel
theorem dX12_height_5 : decode cX12_height 5 = .ok (.ifCond .eq 14, 3) := by decide +kernel
theorem dX12_height_8 : decode cX12_height 8 = .ok (.aload_n 0, 1) := by decide +kernel
theorem dX12_height_9 : decode cX12_height 9 = .ok (.iload_n 2, 1) := by decide +kernel
theorem dX12_height_10 : decode cX12_height 10 = .ok (.iconst 0, 1) := by decide +kernel
theorem dX12_height_11 : decode cX12_height 11 = .ok (.bipush 9, 2) := by decide +kernel
theorem dX12_height_13 : decode cX12_height 13 = .ok (.invokevirtual 218, 3) := by decide +kernel
theorem dX12_height_16 : decode cX12_height 16 = .ok (.ifCond .ne 6, 3) := by decide +kernel
theorem dX12_height_19 : decode cX12_height 19 = .ok (.bipush (-2), 2) := by decide +kernel
theorem dX12_height_21 : decode cX12_height 21 = .ok (.ireturn, 1) := by decide +kernel
theorem dX12_height_22 : decode cX12_height 22 = .ok (.aload_n 0, 1) := by decide +kernel
theorem dX12_height_23 : decode cX12_height 23 = .ok (.getfield 7, 3) := by decide +kernel
theorem dX12_height_26 : decode cX12_height 26 = .ok (.iload_n 1, 1) := by decide +kernel
theorem dX12_height_27 : decode cX12_height 27 = .ok (.iaload, 1) := by decide +kernel
theorem dX12_height_28 : decode cX12_height 28 = .ok (.istore_n 3, 1) := by decide +kernel
theorem dX12_height_29 : decode cX12_height 29 = .ok (.aload_n 0, 1) := by decide +kernel
theorem dX12_height_30 : decode cX12_height 30 = .ok (.getfield 7, 3) := by decide +kernel
theorem dX12_height_33 : decode cX12_height 33 = .ok (.iload_n 1, 1) := by decide +kernel
theorem dX12_height_34 : decode cX12_height 34 = .ok (.iload_n 2, 1) := by decide +kernel
theorem dX12_height_35 : decode cX12_height 35 = .ok (.iastore, 1) := by decide +kernel
theorem dX12_height_36 : decode cX12_height 36 = .ok (.iload_n 3, 1) := by decide +kernel
theorem dX12_height_37 : decode cX12_height 37 = .ok (.ireturn, 1) := by decide +kernel
theorem dX12_line_0 : decode cX12_line 0 = .ok (.aload_n 0, 1) := by decide +kernel
theorem dX12_line_1 : decode cX12_line 1 = .ok (.iload_n 1, 1) := by decide +kernel
theorem dX12_line_2 : decode cX12_line 2 = .ok (.iconst 0, 1) := by decide +kernel
theorem dX12_line_3 : decode cX12_line 3 = .ok (.bipush 7, 2) := by decide +kernel
theorem dX12_line_5 : decode cX12_line 5 = .ok (.invokevirtual 218, 3) := by decide +kernel
theorem dX12_line_8 : decode cX12_line 8 = .ok (.ifCond .eq 14, 3) := by decide +kernel
theorem dX12_line_11 : decode cX12_line 11 = .ok (.aload_n 0, 1) := by decide +kernel
theorem dX12_line_12 : decode cX12_line 12 = .ok (.iload_n 2, 1) := by decide +kernel
theorem dX12_line_13 : decode cX12_line 13 = .ok (.iconst 0, 1) := by decide +kernel
theorem dX12_line_14 : decode cX12_line 14 = .ok (.bipush 8, 2) := by decide +kernel
theorem dX12_line_16 : decode cX12_line 16 = .ok (.invokevirtual 218, 3) := by decide +kernel
theorem dX12_line_19 : decode cX12_line 19 = .ok (.ifCond .ne 6, 3) := by decide +kernel
theorem dX12_line_22 : decode cX12_line 22 = .ok (.bipush (-2), 2) := by decide +kernel
theorem dX12_line_24 : decode cX12_line 24 = .ok (.ireturn, 1) := by decide +kernel
theorem dX12_line_25 : decode cX12_line 25 = .ok (.aload_n 0, 1) := by decide +kernel
theorem dX12_line_26 : decode cX12_line 26 = .ok (.getfield 13, 3) := by decide +kernel
theorem dX12_line_29 : decode cX12_line 29 = .ok (.iload_n 1, 1) := by decide +kernel
theorem dX12_line_30 : decode cX12_line 30 = .ok (.iaload, 1) := by decide +kernel
theorem dX12_line_31 : decode cX12_line 31 = .ok (.istore_n 3, 1) := by decide +kernel
theorem dX12_line_32 : decode cX12_line 32 = .ok (.aload_n 0, 1) := by decide +kernel
theorem dX12_line_33 : decode cX12_line 33 = .ok (.getfield 13, 3) := by decide +kernel
theorem dX12_line_36 : decode cX12_line 36 = .ok (.iload_n 1, 1) := by decide +kernel
theorem dX12_line_37 : decode cX12_line 37 = .ok (.iload_n 2, 1) := by decide +kernel
theorem dX12_line_38 : decode cX12_line 38 = .ok (.iastore, 1) := by decide +kernel
theorem dX12_line_39 : decode cX12_line 39 = .ok (.iload_n 3, 1) := by decide +kernel
theorem dX12_line_40 : decode cX12_line 40 = .ok (.ireturn, 1) := by decide +kernel
theorem dX12_set_0 : decode cX12_set 0 = .ok (.aload_n 0, 1) := by decide +kernel
theorem dX12_set_1 : decode cX12_set 1 = .ok (.iload_n 1, 1) := by decide +kernel
theorem dX12_set_2 : decode cX12_set 2 = .ok (.iconst 0, 1) := by decide +kernel
theorem dX12_set_3 : decode cX12_set 3 = .ok (.iconst 1, 1) := by decide +kernel
theorem dX12_set_4 : decode cX12_set 4 = .ok (.invokevirtual 218, 3) := by decide +kernel
theorem dX12_set_7 : decode cX12_set 7 = .ok (.ifCond .eq 21, 3) := by decide +kernel
theorem dX12_set_10 : decode cX12_set 10 = .ok (.aload_n 0, 1) := by decide +kernel
theorem dX12_set_11 : decode cX12_set 11 = .ok (.iload_n 2, 1) := by decide +kernel
theorem dX12_set_12 : decode cX12_set 12 = .ok (.iconst 0, 1) := by decide +kernel
theorem dX12_set_13 : decode cX12_set 13 = .ok (.iload_n 1, 1) := by decide +kernel
theorem dX12_set_14 : decode cX12_set 14 = .ok (.ifCond .ne 7, 3) := by decide +kernel
theorem dX12_set_17 : decode cX12_set 17 = .ok (.iconst 4, 1) := by decide +kernel
theorem dX12_set_18 : decode cX12_set 18 = .ok (.goto 4, 3) := by decide +kernel
theorem dX12_set_21 : decode cX12_set 21 = .ok (.iconst 5, 1) := by decide +kernel
theorem dX12_set_22 : decode cX12_set 22 = .ok (.invokevirtual 218, 3) := by decide +kernel
theorem dX12_set_25 : decode cX12_set 25 = .ok (.ifCond .ne 6, 3) := by decide +kernel
theorem dX12_set_28 : decode cX12_set 28 = .ok (.bipush (-2), 2) := by decide +kernel
theorem dX12_set_30 : decode cX12_set 30 = .ok (.ireturn, 1) := by decide +kernel
theorem dX12_set_31 : decode cX12_set 31 = .ok (.iload_n 1, 1) := by decide +kernel
theorem dX12_set_32 : decode cX12_set 32 = .ok (.ifCond .ne 10, 3) := by decide +kernel
theorem dX12_set_35 : decode cX12_set 35 = .ok (.aload_n 0, 1) := by decide +kernel
theorem dX12_set_36 : decode cX12_set 36 = .ok (.getfield 16, 3) := by decide +kernel
theorem dX12_set_39 : decode cX12_set 39 = .ok (.goto 7, 3) := by decide +kernel
theorem dX12_set_42 : decode cX12_set 42 = .ok (.aload_n 0, 1) := by decide +kernel
theorem dX12_set_43 : decode cX12_set 43 = .ok (.getfield 20, 3) := by decide +kernel
theorem dX12_set_46 : decode cX12_set 46 = .ok (.istore_n 3, 1) := by decide +kernel
theorem dX12_set_47 : decode cX12_set 47 = .ok (.iload_n 1, 1) := by decide +kernel
theorem dX12_set_48 : decode cX12_set 48 = .ok (.ifCond .ne 11, 3) := by decide +kernel
theorem dX12_set_51 : decode cX12_set 51 = .ok (.aload_n 0, 1) := by decide +kernel
theorem dX12_set_52 : decode cX12_set 52 = .ok (.iload_n 2, 1) := by decide +kernel
theorem dX12_set_53 : decode cX12_set 53 = .ok (.putfield 16, 3) := by decide +kernel
theorem dX12_set_56 : decode cX12_set 56 = .ok (.goto 8, 3) := by decide +kernel
theorem dX12_set_59 : decode cX12_set 59 = .ok (.aload_n 0, 1) := by decide +kernel
theorem dX12_set_60 : decode cX12_set 60 = .ok (.iload_n 2, 1) := by decide +kernel
theorem dX12_set_61 : decode cX12_set 61 = .ok (.putfield 20, 3) := by decide +kernel
theorem dX12_set_64 : decode cX12_set 64 = .ok (.iload_n 3, 1) := by decide +kernel
theorem dX12_set_65 : decode cX12_set 65 = .ok (.ireturn, 1) := by decide +kernel
theorem dX12_sideAt_0 : decode cX12_sideAt 0 = .ok (.iload_n 1, 1) := by decide +kernel
theorem dX12_sideAt_1 : decode cX12_sideAt 1 = .ok (.bipush 8, 2) := by decide +kernel
theorem dX12_sideAt_3 : decode cX12_sideAt 3 = .ok (.irem, 1) := by decide +kernel
theorem dX12_sideAt_4 : decode cX12_sideAt 4 = .ok (.aload_n 0, 1) := by decide +kernel
theorem dX12_sideAt_5 : decode cX12_sideAt 5 = .ok (.getfield 13, 3) := by decide +kernel
theorem dX12_sideAt_8 : decode cX12_sideAt 8 = .ok (.iload_n 1, 1) := by decide +kernel
theorem dX12_sideAt_9 : decode cX12_sideAt 9 = .ok (.bipush 8, 2) := by decide +kernel
theorem dX12_sideAt_11 : decode cX12_sideAt 11 = .ok (.idiv, 1) := by decide +kernel
theorem dX12_sideAt_12 : decode cX12_sideAt 12 = .ok (.iaload, 1) := by decide +kernel
theorem dX12_sideAt_13 : decode cX12_sideAt 13 = .ok (.if_icmp .ge 7, 3) := by decide +kernel
theorem dX12_sideAt_16 : decode cX12_sideAt 16 = .ok (.iconst 0, 1) := by decide +kernel
theorem dX12_sideAt_17 : decode cX12_sideAt 17 = .ok (.goto 4, 3) := by decide +kernel
theorem dX12_sideAt_20 : decode cX12_sideAt 20 = .ok (.iconst 1, 1) := by decide +kernel
theorem dX12_sideAt_21 : decode cX12_sideAt 21 = .ok (.ireturn, 1) := by decide +kernel
theorem dX12_farAt_0 : decode cX12_farAt 0 = .ok (.aload_n 0, 1) := by decide +kernel
theorem dX12_farAt_1 : decode cX12_farAt 1 = .ok (.iload_n 1, 1) := by decide +kernel
theorem dX12_farAt_2 : decode cX12_farAt 2 = .ok (.invokevirtual 226, 3) := by decide +kernel
theorem dX12_farAt_5 : decode cX12_farAt 5 = .ok (.ifCond .ne 22, 3) := by decide +kernel
theorem dX12_farAt_8 : decode cX12_farAt 8 = .ok (.aload_n 0, 1) := by decide +kernel
theorem dX12_farAt_9 : decode cX12_farAt 9 = .ok (.getfield 13, 3) := by decide +kernel
theorem dX12_farAt_12 : decode cX12_farAt 12 = .ok (.iload_n 1, 1) := by decide +kernel
theorem dX12_farAt_13 : decode cX12_farAt 13 = .ok (.bipush 8, 2) := by decide +kernel
theorem dX12_farAt_15 : decode cX12_farAt 15 = .ok (.idiv, 1) := by decide +kernel
theorem dX12_farAt_16 : decode cX12_farAt 16 = .ok (.iaload, 1) := by decide +kernel
theorem dX12_farAt_17 : decode cX12_farAt 17 = .ok (.iconst 1, 1) := by decide +kernel
theorem dX12_farAt_18 : decode cX12_farAt 18 = .ok (.isub, 1) := by decide +kernel
theorem dX12_farAt_19 : decode cX12_farAt 19 = .ok (.iload_n 1, 1) := by decide +kernel
theorem dX12_farAt_20 : decode cX12_farAt 20 = .ok (.bipush 8, 2) := by decide +kernel
theorem dX12_farAt_22 : decode cX12_farAt 22 = .ok (.irem, 1) := by decide +kernel
theorem dX12_farAt_23 : decode cX12_farAt 23 = .ok (.isub, 1) := by decide +kernel
theorem dX12_farAt_24 : decode cX12_farAt 24 = .ok (.goto 17, 3) := by decide +kernel
theorem dX12_farAt_27 : decode cX12_farAt 27 = .ok (.iload_n 1, 1) := by decide +kernel
theorem dX12_farAt_28 : decode cX12_farAt 28 = .ok (.bipush 8, 2) := by decide +kernel
theorem dX12_farAt_30 : decode cX12_farAt 30 = .ok (.irem, 1) := by decide +kernel
theorem dX12_farAt_31 : decode cX12_farAt 31 = .ok (.aload_n 0, 1) := by decide +kernel
theorem dX12_farAt_32 : decode cX12_farAt 32 = .ok (.getfield 13, 3) := by decide +kernel
theorem dX12_farAt_35 : decode cX12_farAt 35 = .ok (.iload_n 1, 1) := by decide +kernel
theorem dX12_farAt_36 : decode cX12_farAt 36 = .ok (.bipush 8, 2) := by decide +kernel
theorem dX12_farAt_38 : decode cX12_farAt 38 = .ok (.idiv, 1) := by decide +kernel
theorem dX12_farAt_39 : decode cX12_farAt 39 = .ok (.iaload, 1) := by decide +kernel
theorem dX12_farAt_40 : decode cX12_farAt 40 = .ok (.isub, 1) := by decide +kernel
theorem dX12_farAt_41 : decode cX12_farAt 41 = .ok (.ireturn, 1) := by decide +kernel
theorem dX12_cellTold_0 : decode cX12_cellTold 0 = .ok (.aload_n 0, 1) := by decide +kernel
theorem dX12_cellTold_1 : decode cX12_cellTold 1 = .ok (.iload_n 1, 1) := by decide +kernel
theorem dX12_cellTold_2 : decode cX12_cellTold 2 = .ok (.invokevirtual 222, 3) := by decide +kernel
theorem dX12_cellTold_5 : decode cX12_cellTold 5 = .ok (.ifCond .eq 13, 3) := by decide +kernel
theorem dX12_cellTold_8 : decode cX12_cellTold 8 = .ok (.aload_n 0, 1) := by decide +kernel
theorem dX12_cellTold_9 : decode cX12_cellTold 9 = .ok (.iload_n 2, 1) := by decide +kernel
theorem dX12_cellTold_10 : decode cX12_cellTold 10 = .ok (.iconst 0, 1) := by decide +kernel
theorem dX12_cellTold_11 : decode cX12_cellTold 11 = .ok (.iconst 3, 1) := by decide +kernel
theorem dX12_cellTold_12 : decode cX12_cellTold 12 = .ok (.invokevirtual 218, 3) := by decide +kernel
theorem dX12_cellTold_15 : decode cX12_cellTold 15 = .ok (.ifCond .ne 6, 3) := by decide +kernel
theorem dX12_cellTold_18 : decode cX12_cellTold 18 = .ok (.bipush (-2), 2) := by decide +kernel
theorem dX12_cellTold_20 : decode cX12_cellTold 20 = .ok (.ireturn, 1) := by decide +kernel
theorem dX12_cellTold_21 : decode cX12_cellTold 21 = .ok (.iload_n 2, 1) := by decide +kernel
theorem dX12_cellTold_22 : decode cX12_cellTold 22 = .ok (.ifCond .ne 12, 3) := by decide +kernel
theorem dX12_cellTold_25 : decode cX12_cellTold 25 = .ok (.aload_n 0, 1) := by decide +kernel
theorem dX12_cellTold_26 : decode cX12_cellTold 26 = .ok (.getfield 7, 3) := by decide +kernel
theorem dX12_cellTold_29 : decode cX12_cellTold 29 = .ok (.iload_n 1, 1) := by decide +kernel
theorem dX12_cellTold_30 : decode cX12_cellTold 30 = .ok (.iaload, 1) := by decide +kernel
theorem dX12_cellTold_31 : decode cX12_cellTold 31 = .ok (.goto 46, 3) := by decide +kernel
theorem dX12_cellTold_34 : decode cX12_cellTold 34 = .ok (.iload_n 2, 1) := by decide +kernel
theorem dX12_cellTold_35 : decode cX12_cellTold 35 = .ok (.iconst 1, 1) := by decide +kernel
theorem dX12_cellTold_36 : decode cX12_cellTold 36 = .ok (.if_icmp .ne 11, 3) := by decide +kernel
theorem dX12_cellTold_39 : decode cX12_cellTold 39 = .ok (.aload_n 0, 1) := by decide +kernel
theorem dX12_cellTold_40 : decode cX12_cellTold 40 = .ok (.iload_n 1, 1) := by decide +kernel
theorem dX12_cellTold_41 : decode cX12_cellTold 41 = .ok (.invokevirtual 226, 3) := by decide +kernel
theorem dX12_cellTold_44 : decode cX12_cellTold 44 = .ok (.goto 33, 3) := by decide +kernel
theorem dX12_cellTold_47 : decode cX12_cellTold 47 = .ok (.iload_n 2, 1) := by decide +kernel
theorem dX12_cellTold_48 : decode cX12_cellTold 48 = .ok (.iconst 2, 1) := by decide +kernel
theorem dX12_cellTold_49 : decode cX12_cellTold 49 = .ok (.if_icmp .ne 11, 3) := by decide +kernel
theorem dX12_cellTold_52 : decode cX12_cellTold 52 = .ok (.aload_n 0, 1) := by decide +kernel
theorem dX12_cellTold_53 : decode cX12_cellTold 53 = .ok (.iload_n 1, 1) := by decide +kernel
theorem dX12_cellTold_54 : decode cX12_cellTold 54 = .ok (.invokevirtual 230, 3) := by decide +kernel
theorem dX12_cellTold_57 : decode cX12_cellTold 57 = .ok (.goto 20, 3) := by decide +kernel
theorem dX12_cellTold_60 : decode cX12_cellTold 60 = .ok (.aload_n 0, 1) := by decide +kernel
theorem dX12_cellTold_61 : decode cX12_cellTold 61 = .ok (.iload_n 1, 1) := by decide +kernel
theorem dX12_cellTold_62 : decode cX12_cellTold 62 = .ok (.invokevirtual 230, 3) := by decide +kernel
theorem dX12_cellTold_65 : decode cX12_cellTold 65 = .ok (.aload_n 0, 1) := by decide +kernel
theorem dX12_cellTold_66 : decode cX12_cellTold 66 = .ok (.getfield 16, 3) := by decide +kernel
theorem dX12_cellTold_69 : decode cX12_cellTold 69 = .ok (.if_icmp .ge 7, 3) := by decide +kernel
theorem dX12_cellTold_72 : decode cX12_cellTold 72 = .ok (.iconst 1, 1) := by decide +kernel
theorem dX12_cellTold_73 : decode cX12_cellTold 73 = .ok (.goto 4, 3) := by decide +kernel
theorem dX12_cellTold_76 : decode cX12_cellTold 76 = .ok (.iconst 0, 1) := by decide +kernel
theorem dX12_cellTold_77 : decode cX12_cellTold 77 = .ok (.ireturn, 1) := by decide +kernel
theorem dX12_abs_0 : decode cX12_abs 0 = .ok (.iload_n 1, 1) := by decide +kernel
theorem dX12_abs_1 : decode cX12_abs 1 = .ok (.ifCond .ge 8, 3) := by decide +kernel
theorem dX12_abs_4 : decode cX12_abs 4 = .ok (.iload_n 1, 1) := by decide +kernel
theorem dX12_abs_5 : decode cX12_abs 5 = .ok (.ineg, 1) := by decide +kernel
theorem dX12_abs_6 : decode cX12_abs 6 = .ok (.goto 4, 3) := by decide +kernel
theorem dX12_abs_9 : decode cX12_abs 9 = .ok (.iload_n 1, 1) := by decide +kernel
theorem dX12_abs_10 : decode cX12_abs 10 = .ok (.ireturn, 1) := by decide +kernel
theorem dX12_apart_0 : decode cX12_apart 0 = .ok (.aload_n 0, 1) := by decide +kernel
theorem dX12_apart_1 : decode cX12_apart 1 = .ok (.iload_n 1, 1) := by decide +kernel
theorem dX12_apart_2 : decode cX12_apart 2 = .ok (.bipush 8, 2) := by decide +kernel
theorem dX12_apart_4 : decode cX12_apart 4 = .ok (.irem, 1) := by decide +kernel
theorem dX12_apart_5 : decode cX12_apart 5 = .ok (.iload_n 2, 1) := by decide +kernel
theorem dX12_apart_6 : decode cX12_apart 6 = .ok (.bipush 8, 2) := by decide +kernel
theorem dX12_apart_8 : decode cX12_apart 8 = .ok (.irem, 1) := by decide +kernel
theorem dX12_apart_9 : decode cX12_apart 9 = .ok (.isub, 1) := by decide +kernel
theorem dX12_apart_10 : decode cX12_apart 10 = .ok (.invokevirtual 233, 3) := by decide +kernel
theorem dX12_apart_13 : decode cX12_apart 13 = .ok (.istore_n 3, 1) := by decide +kernel
theorem dX12_apart_14 : decode cX12_apart 14 = .ok (.aload_n 0, 1) := by decide +kernel
theorem dX12_apart_15 : decode cX12_apart 15 = .ok (.iload_n 1, 1) := by decide +kernel
theorem dX12_apart_16 : decode cX12_apart 16 = .ok (.bipush 8, 2) := by decide +kernel
theorem dX12_apart_18 : decode cX12_apart 18 = .ok (.idiv, 1) := by decide +kernel
theorem dX12_apart_19 : decode cX12_apart 19 = .ok (.iload_n 2, 1) := by decide +kernel
theorem dX12_apart_20 : decode cX12_apart 20 = .ok (.bipush 8, 2) := by decide +kernel
theorem dX12_apart_22 : decode cX12_apart 22 = .ok (.idiv, 1) := by decide +kernel
theorem dX12_apart_23 : decode cX12_apart 23 = .ok (.isub, 1) := by decide +kernel
theorem dX12_apart_24 : decode cX12_apart 24 = .ok (.invokevirtual 233, 3) := by decide +kernel
theorem dX12_apart_27 : decode cX12_apart 27 = .ok (.istore 4, 2) := by decide +kernel
theorem dX12_apart_29 : decode cX12_apart 29 = .ok (.iload_n 3, 1) := by decide +kernel
theorem dX12_apart_30 : decode cX12_apart 30 = .ok (.iload 4, 2) := by decide +kernel
theorem dX12_apart_32 : decode cX12_apart 32 = .ok (.if_icmp .le 7, 3) := by decide +kernel
theorem dX12_apart_35 : decode cX12_apart 35 = .ok (.iload_n 3, 1) := by decide +kernel
theorem dX12_apart_36 : decode cX12_apart 36 = .ok (.goto 5, 3) := by decide +kernel
theorem dX12_apart_39 : decode cX12_apart 39 = .ok (.iload 4, 2) := by decide +kernel
theorem dX12_apart_41 : decode cX12_apart 41 = .ok (.ireturn, 1) := by decide +kernel
theorem dX12_isNight_0 : decode cX12_isNight 0 = .ok (.iload_n 1, 1) := by decide +kernel
theorem dX12_isNight_1 : decode cX12_isNight 1 = .ok (.bipush 24, 2) := by decide +kernel
theorem dX12_isNight_3 : decode cX12_isNight 3 = .ok (.irem, 1) := by decide +kernel
theorem dX12_isNight_4 : decode cX12_isNight 4 = .ok (.bipush 6, 2) := by decide +kernel
theorem dX12_isNight_6 : decode cX12_isNight 6 = .ok (.if_icmp .lt 12, 3) := by decide +kernel
theorem dX12_isNight_9 : decode cX12_isNight 9 = .ok (.iload_n 1, 1) := by decide +kernel
theorem dX12_isNight_10 : decode cX12_isNight 10 = .ok (.bipush 24, 2) := by decide +kernel
theorem dX12_isNight_12 : decode cX12_isNight 12 = .ok (.irem, 1) := by decide +kernel
theorem dX12_isNight_13 : decode cX12_isNight 13 = .ok (.bipush 19, 2) := by decide +kernel
theorem dX12_isNight_15 : decode cX12_isNight 15 = .ok (.if_icmp .le 7, 3) := by decide +kernel
theorem dX12_isNight_18 : decode cX12_isNight 18 = .ok (.iconst 1, 1) := by decide +kernel
theorem dX12_isNight_19 : decode cX12_isNight 19 = .ok (.goto 4, 3) := by decide +kernel
theorem dX12_isNight_22 : decode cX12_isNight 22 = .ok (.iconst 0, 1) := by decide +kernel
theorem dX12_isNight_23 : decode cX12_isNight 23 = .ok (.ireturn, 1) := by decide +kernel
theorem dX12_isMark_0 : decode cX12_isMark 0 = .ok (.aload_n 0, 1) := by decide +kernel
theorem dX12_isMark_1 : decode cX12_isMark 1 = .ok (.iload_n 1, 1) := by decide +kernel
theorem dX12_isMark_2 : decode cX12_isMark 2 = .ok (.iconst 0, 1) := by decide +kernel
theorem dX12_isMark_3 : decode cX12_isMark 3 = .ok (.aload_n 0, 1) := by decide +kernel
theorem dX12_isMark_4 : decode cX12_isMark 4 = .ok (.getfield 23, 3) := by decide +kernel
theorem dX12_isMark_7 : decode cX12_isMark 7 = .ok (.iconst 1, 1) := by decide +kernel
theorem dX12_isMark_8 : decode cX12_isMark 8 = .ok (.isub, 1) := by decide +kernel
theorem dX12_isMark_9 : decode cX12_isMark 9 = .ok (.invokevirtual 218, 3) := by decide +kernel
theorem dX12_isMark_12 : decode cX12_isMark 12 = .ok (.ireturn, 1) := by decide +kernel
theorem dX12_mark_0 : decode cX12_mark 0 = .ok (.aload_n 0, 1) := by decide +kernel
theorem dX12_mark_1 : decode cX12_mark 1 = .ok (.iload_n 1, 1) := by decide +kernel
theorem dX12_mark_2 : decode cX12_mark 2 = .ok (.iconst 0, 1) := by decide +kernel
theorem dX12_mark_3 : decode cX12_mark 3 = .ok (.iconst 5, 1) := by decide +kernel
theorem dX12_mark_4 : decode cX12_mark 4 = .ok (.invokevirtual 218, 3) := by decide +kernel
theorem dX12_mark_7 : decode cX12_mark 7 = .ok (.ifCond .eq 33, 3) := by decide +kernel
theorem dX12_mark_10 : decode cX12_mark 10 = .ok (.aload_n 0, 1) := by decide +kernel
theorem dX12_mark_11 : decode cX12_mark 11 = .ok (.iload_n 2, 1) := by decide +kernel
theorem dX12_mark_12 : decode cX12_mark 12 = .ok (.iconst 0, 1) := by decide +kernel
theorem dX12_mark_13 : decode cX12_mark 13 = .ok (.iconst 2, 1) := by decide +kernel
theorem dX12_mark_14 : decode cX12_mark 14 = .ok (.invokevirtual 218, 3) := by decide +kernel
theorem dX12_mark_17 : decode cX12_mark 17 = .ok (.ifCond .eq 23, 3) := by decide +kernel
theorem dX12_mark_20 : decode cX12_mark 20 = .ok (.aload_n 0, 1) := by decide +kernel
theorem dX12_mark_21 : decode cX12_mark 21 = .ok (.iload_n 3, 1) := by decide +kernel
theorem dX12_mark_22 : decode cX12_mark 22 = .ok (.invokevirtual 222, 3) := by decide +kernel
theorem dX12_mark_25 : decode cX12_mark 25 = .ok (.ifCond .eq 15, 3) := by decide +kernel
theorem dX12_mark_28 : decode cX12_mark 28 = .ok (.aload_n 0, 1) := by decide +kernel
theorem dX12_mark_29 : decode cX12_mark 29 = .ok (.iload 4, 2) := by decide +kernel
theorem dX12_mark_31 : decode cX12_mark 31 = .ok (.iconst 0, 1) := by decide +kernel
theorem dX12_mark_32 : decode cX12_mark 32 = .ok (.bipush 99, 2) := by decide +kernel
theorem dX12_mark_34 : decode cX12_mark 34 = .ok (.invokevirtual 218, 3) := by decide +kernel
theorem dX12_mark_37 : decode cX12_mark 37 = .ok (.ifCond .ne 6, 3) := by decide +kernel
theorem dX12_mark_40 : decode cX12_mark 40 = .ok (.bipush (-2), 2) := by decide +kernel
theorem dX12_mark_42 : decode cX12_mark 42 = .ok (.ireturn, 1) := by decide +kernel
theorem dX12_mark_43 : decode cX12_mark 43 = .ok (.aload_n 0, 1) := by decide +kernel
theorem dX12_mark_44 : decode cX12_mark 44 = .ok (.getfield 23, 3) := by decide +kernel
theorem dX12_mark_47 : decode cX12_mark 47 = .ok (.bipush 16, 2) := by decide +kernel
theorem dX12_mark_49 : decode cX12_mark 49 = .ok (.if_icmp .ne 6, 3) := by decide +kernel
theorem dX12_mark_52 : decode cX12_mark 52 = .ok (.bipush (-4), 2) := by decide +kernel
theorem dX12_mark_54 : decode cX12_mark 54 = .ok (.ireturn, 1) := by decide +kernel
theorem dX12_mark_55 : decode cX12_mark 55 = .ok (.aload_n 0, 1) := by decide +kernel
theorem dX12_mark_56 : decode cX12_mark 56 = .ok (.getfield 26, 3) := by decide +kernel
theorem dX12_mark_59 : decode cX12_mark 59 = .ok (.aload_n 0, 1) := by decide +kernel
theorem dX12_mark_60 : decode cX12_mark 60 = .ok (.getfield 23, 3) := by decide +kernel
theorem dX12_mark_63 : decode cX12_mark 63 = .ok (.iload_n 1, 1) := by decide +kernel
theorem dX12_mark_64 : decode cX12_mark 64 = .ok (.iastore, 1) := by decide +kernel
theorem dX12_mark_65 : decode cX12_mark 65 = .ok (.aload_n 0, 1) := by decide +kernel
theorem dX12_mark_66 : decode cX12_mark 66 = .ok (.getfield 29, 3) := by decide +kernel
theorem dX12_mark_69 : decode cX12_mark 69 = .ok (.aload_n 0, 1) := by decide +kernel
theorem dX12_mark_70 : decode cX12_mark 70 = .ok (.getfield 23, 3) := by decide +kernel
theorem dX12_mark_73 : decode cX12_mark 73 = .ok (.iload_n 2, 1) := by decide +kernel
theorem dX12_mark_74 : decode cX12_mark 74 = .ok (.iastore, 1) := by decide +kernel
theorem dX12_mark_75 : decode cX12_mark 75 = .ok (.aload_n 0, 1) := by decide +kernel
theorem dX12_mark_76 : decode cX12_mark 76 = .ok (.getfield 32, 3) := by decide +kernel
theorem dX12_mark_79 : decode cX12_mark 79 = .ok (.aload_n 0, 1) := by decide +kernel
theorem dX12_mark_80 : decode cX12_mark 80 = .ok (.getfield 23, 3) := by decide +kernel
theorem dX12_mark_83 : decode cX12_mark 83 = .ok (.iload_n 3, 1) := by decide +kernel
theorem dX12_mark_84 : decode cX12_mark 84 = .ok (.iastore, 1) := by decide +kernel
theorem dX12_mark_85 : decode cX12_mark 85 = .ok (.aload_n 0, 1) := by decide +kernel
theorem dX12_mark_86 : decode cX12_mark 86 = .ok (.getfield 35, 3) := by decide +kernel
theorem dX12_mark_89 : decode cX12_mark 89 = .ok (.aload_n 0, 1) := by decide +kernel
theorem dX12_mark_90 : decode cX12_mark 90 = .ok (.getfield 23, 3) := by decide +kernel
theorem dX12_mark_93 : decode cX12_mark 93 = .ok (.iload 4, 2) := by decide +kernel
theorem dX12_mark_95 : decode cX12_mark 95 = .ok (.iastore, 1) := by decide +kernel
theorem dX12_mark_96 : decode cX12_mark 96 = .ok (.aload_n 0, 1) := by decide +kernel
theorem dX12_mark_97 : decode cX12_mark 97 = .ok (.getfield 38, 3) := by decide +kernel
theorem dX12_mark_100 : decode cX12_mark 100 = .ok (.aload_n 0, 1) := by decide +kernel
theorem dX12_mark_101 : decode cX12_mark 101 = .ok (.getfield 23, 3) := by decide +kernel
theorem dX12_mark_104 : decode cX12_mark 104 = .ok (.iconst 0, 1) := by decide +kernel
theorem dX12_mark_105 : decode cX12_mark 105 = .ok (.iastore, 1) := by decide +kernel
theorem dX12_mark_106 : decode cX12_mark 106 = .ok (.aload_n 0, 1) := by decide +kernel
theorem dX12_mark_107 : decode cX12_mark 107 = .ok (.dup, 1) := by decide +kernel
theorem dX12_mark_108 : decode cX12_mark 108 = .ok (.getfield 23, 3) := by decide +kernel
theorem dX12_mark_111 : decode cX12_mark 111 = .ok (.iconst 1, 1) := by decide +kernel
theorem dX12_mark_112 : decode cX12_mark 112 = .ok (.iadd, 1) := by decide +kernel
theorem dX12_mark_113 : decode cX12_mark 113 = .ok (.putfield 23, 3) := by decide +kernel
theorem dX12_mark_116 : decode cX12_mark 116 = .ok (.aload_n 0, 1) := by decide +kernel
theorem dX12_mark_117 : decode cX12_mark 117 = .ok (.getfield 23, 3) := by decide +kernel
theorem dX12_mark_120 : decode cX12_mark 120 = .ok (.iconst 1, 1) := by decide +kernel
theorem dX12_mark_121 : decode cX12_mark 121 = .ok (.isub, 1) := by decide +kernel
theorem dX12_mark_122 : decode cX12_mark 122 = .ok (.ireturn, 1) := by decide +kernel
theorem dX12_isUnder_0 : decode cX12_isUnder 0 = .ok (.iload_n 2, 1) := by decide +kernel
theorem dX12_isUnder_1 : decode cX12_isUnder 1 = .ok (.ifCond .eq 43, 3) := by decide +kernel
theorem dX12_isUnder_4 : decode cX12_isUnder 4 = .ok (.iload_n 1, 1) := by decide +kernel
theorem dX12_isUnder_5 : decode cX12_isUnder 5 = .ok (.iload_n 2, 1) := by decide +kernel
theorem dX12_isUnder_6 : decode cX12_isUnder 6 = .ok (.if_icmp .eq 38, 3) := by decide +kernel
theorem dX12_isUnder_9 : decode cX12_isUnder 9 = .ok (.iload_n 2, 1) := by decide +kernel
theorem dX12_isUnder_10 : decode cX12_isUnder 10 = .ok (.iconst 1, 1) := by decide +kernel
theorem dX12_isUnder_11 : decode cX12_isUnder 11 = .ok (.if_icmp .ne 13, 3) := by decide +kernel
theorem dX12_isUnder_14 : decode cX12_isUnder 14 = .ok (.iload_n 1, 1) := by decide +kernel
theorem dX12_isUnder_15 : decode cX12_isUnder 15 = .ok (.iconst 3, 1) := by decide +kernel
theorem dX12_isUnder_16 : decode cX12_isUnder 16 = .ok (.if_icmp .eq 28, 3) := by decide +kernel
theorem dX12_isUnder_19 : decode cX12_isUnder 19 = .ok (.iload_n 1, 1) := by decide +kernel
theorem dX12_isUnder_20 : decode cX12_isUnder 20 = .ok (.iconst 4, 1) := by decide +kernel
theorem dX12_isUnder_21 : decode cX12_isUnder 21 = .ok (.if_icmp .eq 23, 3) := by decide +kernel
theorem dX12_isUnder_24 : decode cX12_isUnder 24 = .ok (.iload_n 2, 1) := by decide +kernel
theorem dX12_isUnder_25 : decode cX12_isUnder 25 = .ok (.iconst 3, 1) := by decide +kernel
theorem dX12_isUnder_26 : decode cX12_isUnder 26 = .ok (.if_icmp .ne 8, 3) := by decide +kernel
theorem dX12_isUnder_29 : decode cX12_isUnder 29 = .ok (.iload_n 1, 1) := by decide +kernel
theorem dX12_isUnder_30 : decode cX12_isUnder 30 = .ok (.iconst 4, 1) := by decide +kernel
theorem dX12_isUnder_31 : decode cX12_isUnder 31 = .ok (.if_icmp .eq 13, 3) := by decide +kernel
theorem dX12_isUnder_34 : decode cX12_isUnder 34 = .ok (.iload_n 2, 1) := by decide +kernel
theorem dX12_isUnder_35 : decode cX12_isUnder 35 = .ok (.iconst 2, 1) := by decide +kernel
theorem dX12_isUnder_36 : decode cX12_isUnder 36 = .ok (.if_icmp .ne 12, 3) := by decide +kernel
theorem dX12_isUnder_39 : decode cX12_isUnder 39 = .ok (.iload_n 1, 1) := by decide +kernel
theorem dX12_isUnder_40 : decode cX12_isUnder 40 = .ok (.iconst 5, 1) := by decide +kernel
theorem dX12_isUnder_41 : decode cX12_isUnder 41 = .ok (.if_icmp .ne 7, 3) := by decide +kernel
theorem dX12_isUnder_44 : decode cX12_isUnder 44 = .ok (.iconst 1, 1) := by decide +kernel
theorem dX12_isUnder_45 : decode cX12_isUnder 45 = .ok (.goto 4, 3) := by decide +kernel
theorem dX12_isUnder_48 : decode cX12_isUnder 48 = .ok (.iconst 0, 1) := by decide +kernel
theorem dX12_isUnder_49 : decode cX12_isUnder 49 = .ok (.ireturn, 1) := by decide +kernel
theorem dX12_walk_0 : decode cX12_walk 0 = .ok (.aload_n 0, 1) := by decide +kernel
theorem dX12_walk_1 : decode cX12_walk 1 = .ok (.iload_n 1, 1) := by decide +kernel
theorem dX12_walk_2 : decode cX12_walk 2 = .ok (.invokevirtual 236, 3) := by decide +kernel
theorem dX12_walk_5 : decode cX12_walk 5 = .ok (.ifCond .eq 11, 3) := by decide +kernel
theorem dX12_walk_8 : decode cX12_walk 8 = .ok (.aload_n 0, 1) := by decide +kernel
theorem dX12_walk_9 : decode cX12_walk 9 = .ok (.iload_n 2, 1) := by decide +kernel
theorem dX12_walk_10 : decode cX12_walk 10 = .ok (.invokevirtual 222, 3) := by decide +kernel
theorem dX12_walk_13 : decode cX12_walk 13 = .ok (.ifCond .ne 6, 3) := by decide +kernel
theorem dX12_walk_16 : decode cX12_walk 16 = .ok (.bipush (-2), 2) := by decide +kernel
theorem dX12_walk_18 : decode cX12_walk 18 = .ok (.ireturn, 1) := by decide +kernel
theorem dX12_walk_19 : decode cX12_walk 19 = .ok (.aload_n 0, 1) := by decide +kernel
theorem dX12_walk_20 : decode cX12_walk 20 = .ok (.aload_n 0, 1) := by decide +kernel
theorem dX12_walk_21 : decode cX12_walk 21 = .ok (.getfield 26, 3) := by decide +kernel
theorem dX12_walk_24 : decode cX12_walk 24 = .ok (.iload_n 1, 1) := by decide +kernel
theorem dX12_walk_25 : decode cX12_walk 25 = .ok (.iaload, 1) := by decide +kernel
theorem dX12_walk_26 : decode cX12_walk 26 = .ok (.iconst 3, 1) := by decide +kernel
theorem dX12_walk_27 : decode cX12_walk 27 = .ok (.invokevirtual 239, 3) := by decide +kernel
theorem dX12_walk_30 : decode cX12_walk 30 = .ok (.ifCond .ne 6, 3) := by decide +kernel
theorem dX12_walk_33 : decode cX12_walk 33 = .ok (.bipush (-13), 2) := by decide +kernel
theorem dX12_walk_35 : decode cX12_walk 35 = .ok (.ireturn, 1) := by decide +kernel
theorem dX12_walk_36 : decode cX12_walk 36 = .ok (.aload_n 0, 1) := by decide +kernel
theorem dX12_walk_37 : decode cX12_walk 37 = .ok (.getfield 38, 3) := by decide +kernel
theorem dX12_walk_40 : decode cX12_walk 40 = .ok (.iload_n 1, 1) := by decide +kernel
theorem dX12_walk_41 : decode cX12_walk 41 = .ok (.iaload, 1) := by decide +kernel
theorem dX12_walk_42 : decode cX12_walk 42 = .ok (.bipush 6, 2) := by decide +kernel
theorem dX12_walk_44 : decode cX12_walk 44 = .ok (.if_icmp .ne 6, 3) := by decide +kernel
theorem dX12_walk_47 : decode cX12_walk 47 = .ok (.bipush (-4), 2) := by decide +kernel
theorem dX12_walk_49 : decode cX12_walk 49 = .ok (.ireturn, 1) := by decide +kernel
theorem dX12_walk_50 : decode cX12_walk 50 = .ok (.aload_n 0, 1) := by decide +kernel
theorem dX12_walk_51 : decode cX12_walk 51 = .ok (.getfield 41, 3) := by decide +kernel
theorem dX12_walk_54 : decode cX12_walk 54 = .ok (.bipush 6, 2) := by decide +kernel
theorem dX12_walk_56 : decode cX12_walk 56 = .ok (.iload_n 1, 1) := by decide +kernel
theorem dX12_walk_57 : decode cX12_walk 57 = .ok (.imul, 1) := by decide +kernel
theorem dX12_walk_58 : decode cX12_walk 58 = .ok (.aload_n 0, 1) := by decide +kernel
theorem dX12_walk_59 : decode cX12_walk 59 = .ok (.getfield 38, 3) := by decide +kernel
theorem dX12_walk_62 : decode cX12_walk 62 = .ok (.iload_n 1, 1) := by decide +kernel
theorem dX12_walk_63 : decode cX12_walk 63 = .ok (.iaload, 1) := by decide +kernel
theorem dX12_walk_64 : decode cX12_walk 64 = .ok (.iadd, 1) := by decide +kernel
theorem dX12_walk_65 : decode cX12_walk 65 = .ok (.iload_n 2, 1) := by decide +kernel
theorem dX12_walk_66 : decode cX12_walk 66 = .ok (.iastore, 1) := by decide +kernel
theorem dX12_walk_67 : decode cX12_walk 67 = .ok (.aload_n 0, 1) := by decide +kernel
theorem dX12_walk_68 : decode cX12_walk 68 = .ok (.getfield 38, 3) := by decide +kernel
theorem dX12_walk_71 : decode cX12_walk 71 = .ok (.iload_n 1, 1) := by decide +kernel
theorem dX12_walk_72 : decode cX12_walk 72 = .ok (.dup2, 1) := by decide +kernel
theorem dX12_walk_73 : decode cX12_walk 73 = .ok (.iaload, 1) := by decide +kernel
theorem dX12_walk_74 : decode cX12_walk 74 = .ok (.iconst 1, 1) := by decide +kernel
theorem dX12_walk_75 : decode cX12_walk 75 = .ok (.iadd, 1) := by decide +kernel
theorem dX12_walk_76 : decode cX12_walk 76 = .ok (.iastore, 1) := by decide +kernel
theorem dX12_walk_77 : decode cX12_walk 77 = .ok (.aload_n 0, 1) := by decide +kernel
theorem dX12_walk_78 : decode cX12_walk 78 = .ok (.getfield 38, 3) := by decide +kernel
theorem dX12_walk_81 : decode cX12_walk 81 = .ok (.iload_n 1, 1) := by decide +kernel
theorem dX12_walk_82 : decode cX12_walk 82 = .ok (.iaload, 1) := by decide +kernel
theorem dX12_walk_83 : decode cX12_walk 83 = .ok (.ireturn, 1) := by decide +kernel
theorem dX12_gone_0 : decode cX12_gone 0 = .ok (.aload_n 0, 1) := by decide +kernel
theorem dX12_gone_1 : decode cX12_gone 1 = .ok (.iload_n 1, 1) := by decide +kernel
theorem dX12_gone_2 : decode cX12_gone 2 = .ok (.invokevirtual 236, 3) := by decide +kernel
theorem dX12_gone_5 : decode cX12_gone 5 = .ok (.ifCond .eq 13, 3) := by decide +kernel
theorem dX12_gone_8 : decode cX12_gone 8 = .ok (.aload_n 0, 1) := by decide +kernel
theorem dX12_gone_9 : decode cX12_gone 9 = .ok (.iload_n 2, 1) := by decide +kernel
theorem dX12_gone_10 : decode cX12_gone 10 = .ok (.iconst 0, 1) := by decide +kernel
theorem dX12_gone_11 : decode cX12_gone 11 = .ok (.iconst 1, 1) := by decide +kernel
theorem dX12_gone_12 : decode cX12_gone 12 = .ok (.invokevirtual 218, 3) := by decide +kernel
theorem dX12_gone_15 : decode cX12_gone 15 = .ok (.ifCond .ne 6, 3) := by decide +kernel
theorem dX12_gone_18 : decode cX12_gone 18 = .ok (.bipush (-2), 2) := by decide +kernel
theorem dX12_gone_20 : decode cX12_gone 20 = .ok (.ireturn, 1) := by decide +kernel
theorem dX12_gone_21 : decode cX12_gone 21 = .ok (.aload_n 0, 1) := by decide +kernel
theorem dX12_gone_22 : decode cX12_gone 22 = .ok (.getfield 44, 3) := by decide +kernel
theorem dX12_gone_25 : decode cX12_gone 25 = .ok (.iload_n 1, 1) := by decide +kernel
theorem dX12_gone_26 : decode cX12_gone 26 = .ok (.baload, 1) := by decide +kernel
theorem dX12_gone_27 : decode cX12_gone 27 = .ok (.ifCond .eq 7, 3) := by decide +kernel
theorem dX12_gone_30 : decode cX12_gone 30 = .ok (.iconst 1, 1) := by decide +kernel
theorem dX12_gone_31 : decode cX12_gone 31 = .ok (.goto 4, 3) := by decide +kernel
theorem dX12_gone_34 : decode cX12_gone 34 = .ok (.iconst 0, 1) := by decide +kernel
theorem dX12_gone_35 : decode cX12_gone 35 = .ok (.istore_n 3, 1) := by decide +kernel
theorem dX12_gone_36 : decode cX12_gone 36 = .ok (.aload_n 0, 1) := by decide +kernel
theorem dX12_gone_37 : decode cX12_gone 37 = .ok (.getfield 44, 3) := by decide +kernel
theorem dX12_gone_40 : decode cX12_gone 40 = .ok (.iload_n 1, 1) := by decide +kernel
theorem dX12_gone_41 : decode cX12_gone 41 = .ok (.iload_n 2, 1) := by decide +kernel
theorem dX12_gone_42 : decode cX12_gone 42 = .ok (.iconst 1, 1) := by decide +kernel
theorem dX12_gone_43 : decode cX12_gone 43 = .ok (.if_icmp .ne 7, 3) := by decide +kernel
theorem dX12_gone_46 : decode cX12_gone 46 = .ok (.iconst 1, 1) := by decide +kernel
theorem dX12_gone_47 : decode cX12_gone 47 = .ok (.goto 4, 3) := by decide +kernel
theorem dX12_gone_50 : decode cX12_gone 50 = .ok (.iconst 0, 1) := by decide +kernel
theorem dX12_gone_51 : decode cX12_gone 51 = .ok (.bastore, 1) := by decide +kernel
theorem dX12_gone_52 : decode cX12_gone 52 = .ok (.iload_n 3, 1) := by decide +kernel
theorem dX12_gone_53 : decode cX12_gone 53 = .ok (.ireturn, 1) := by decide +kernel
theorem dX12_earOf_0 : decode cX12_earOf 0 = .ok (.aload_n 0, 1) := by decide +kernel
theorem dX12_earOf_1 : decode cX12_earOf 1 = .ok (.getfield 26, 3) := by decide +kernel
theorem dX12_earOf_4 : decode cX12_earOf 4 = .ok (.iload_n 1, 1) := by decide +kernel
theorem dX12_earOf_5 : decode cX12_earOf 5 = .ok (.iaload, 1) := by decide +kernel
theorem dX12_earOf_6 : decode cX12_earOf 6 = .ok (.tableswitch 43 1 5 #[34, 43, 36, 38, 41], 34) := by decide +kernel
theorem dX12_earOf_40 : decode cX12_earOf 40 = .ok (.iconst 4, 1) := by decide +kernel
theorem dX12_earOf_41 : decode cX12_earOf 41 = .ok (.ireturn, 1) := by decide +kernel
theorem dX12_earOf_42 : decode cX12_earOf 42 = .ok (.iconst 5, 1) := by decide +kernel
theorem dX12_earOf_43 : decode cX12_earOf 43 = .ok (.ireturn, 1) := by decide +kernel
theorem dX12_earOf_44 : decode cX12_earOf 44 = .ok (.bipush 10, 2) := by decide +kernel
theorem dX12_earOf_46 : decode cX12_earOf 46 = .ok (.ireturn, 1) := by decide +kernel
theorem dX12_earOf_47 : decode cX12_earOf 47 = .ok (.iconst 2, 1) := by decide +kernel
theorem dX12_earOf_48 : decode cX12_earOf 48 = .ok (.ireturn, 1) := by decide +kernel
theorem dX12_earOf_49 : decode cX12_earOf 49 = .ok (.iconst 0, 1) := by decide +kernel
theorem dX12_earOf_50 : decode cX12_earOf 50 = .ok (.ireturn, 1) := by decide +kernel
theorem dX12_markTold_0 : decode cX12_markTold 0 = .ok (.aload_n 0, 1) := by decide +kernel
theorem dX12_markTold_1 : decode cX12_markTold 1 = .ok (.iload_n 1, 1) := by decide +kernel
theorem dX12_markTold_2 : decode cX12_markTold 2 = .ok (.invokevirtual 236, 3) := by decide +kernel
theorem dX12_markTold_5 : decode cX12_markTold 5 = .ok (.ifCond .ne 6, 3) := by decide +kernel
theorem dX12_markTold_8 : decode cX12_markTold 8 = .ok (.bipush (-2), 2) := by decide +kernel
theorem dX12_markTold_10 : decode cX12_markTold 10 = .ok (.ireturn, 1) := by decide +kernel
theorem dX12_markTold_11 : decode cX12_markTold 11 = .ok (.iload_n 2, 1) := by decide +kernel
theorem dX12_markTold_12 : decode cX12_markTold 12 = .ok (.tableswitch 97 0 5 #[40, 47, 54, 61, 76, 82], 40) := by decide +kernel
theorem dX12_markTold_52 : decode cX12_markTold 52 = .ok (.aload_n 0, 1) := by decide +kernel
theorem dX12_markTold_53 : decode cX12_markTold 53 = .ok (.getfield 26, 3) := by decide +kernel
theorem dX12_markTold_56 : decode cX12_markTold 56 = .ok (.iload_n 1, 1) := by decide +kernel
theorem dX12_markTold_57 : decode cX12_markTold 57 = .ok (.iaload, 1) := by decide +kernel
theorem dX12_markTold_58 : decode cX12_markTold 58 = .ok (.ireturn, 1) := by decide +kernel
theorem dX12_markTold_59 : decode cX12_markTold 59 = .ok (.aload_n 0, 1) := by decide +kernel
theorem dX12_markTold_60 : decode cX12_markTold 60 = .ok (.getfield 29, 3) := by decide +kernel
theorem dX12_markTold_63 : decode cX12_markTold 63 = .ok (.iload_n 1, 1) := by decide +kernel
theorem dX12_markTold_64 : decode cX12_markTold 64 = .ok (.iaload, 1) := by decide +kernel
theorem dX12_markTold_65 : decode cX12_markTold 65 = .ok (.ireturn, 1) := by decide +kernel
theorem dX12_markTold_66 : decode cX12_markTold 66 = .ok (.aload_n 0, 1) := by decide +kernel
theorem dX12_markTold_67 : decode cX12_markTold 67 = .ok (.getfield 35, 3) := by decide +kernel
theorem dX12_markTold_70 : decode cX12_markTold 70 = .ok (.iload_n 1, 1) := by decide +kernel
theorem dX12_markTold_71 : decode cX12_markTold 71 = .ok (.iaload, 1) := by decide +kernel
theorem dX12_markTold_72 : decode cX12_markTold 72 = .ok (.ireturn, 1) := by decide +kernel
theorem dX12_markTold_73 : decode cX12_markTold 73 = .ok (.aload_n 0, 1) := by decide +kernel
theorem dX12_markTold_74 : decode cX12_markTold 74 = .ok (.getfield 44, 3) := by decide +kernel
theorem dX12_markTold_77 : decode cX12_markTold 77 = .ok (.iload_n 1, 1) := by decide +kernel
theorem dX12_markTold_78 : decode cX12_markTold 78 = .ok (.baload, 1) := by decide +kernel
theorem dX12_markTold_79 : decode cX12_markTold 79 = .ok (.ifCond .eq 7, 3) := by decide +kernel
theorem dX12_markTold_82 : decode cX12_markTold 82 = .ok (.iconst 1, 1) := by decide +kernel
theorem dX12_markTold_83 : decode cX12_markTold 83 = .ok (.goto 4, 3) := by decide +kernel
theorem dX12_markTold_86 : decode cX12_markTold 86 = .ok (.iconst 0, 1) := by decide +kernel
theorem dX12_markTold_87 : decode cX12_markTold 87 = .ok (.ireturn, 1) := by decide +kernel
theorem dX12_markTold_88 : decode cX12_markTold 88 = .ok (.aload_n 0, 1) := by decide +kernel
theorem dX12_markTold_89 : decode cX12_markTold 89 = .ok (.iload_n 1, 1) := by decide +kernel
theorem dX12_markTold_90 : decode cX12_markTold 90 = .ok (.invokevirtual 243, 3) := by decide +kernel
theorem dX12_markTold_93 : decode cX12_markTold 93 = .ok (.ireturn, 1) := by decide +kernel
theorem dX12_markTold_94 : decode cX12_markTold 94 = .ok (.aload_n 0, 1) := by decide +kernel
theorem dX12_markTold_95 : decode cX12_markTold 95 = .ok (.getfield 48, 3) := by decide +kernel
theorem dX12_markTold_98 : decode cX12_markTold 98 = .ok (.iload_n 1, 1) := by decide +kernel
theorem dX12_markTold_99 : decode cX12_markTold 99 = .ok (.baload, 1) := by decide +kernel
theorem dX12_markTold_100 : decode cX12_markTold 100 = .ok (.ifCond .eq 7, 3) := by decide +kernel
theorem dX12_markTold_103 : decode cX12_markTold 103 = .ok (.iconst 1, 1) := by decide +kernel
theorem dX12_markTold_104 : decode cX12_markTold 104 = .ok (.goto 4, 3) := by decide +kernel
theorem dX12_markTold_107 : decode cX12_markTold 107 = .ok (.iconst 0, 1) := by decide +kernel
theorem dX12_markTold_108 : decode cX12_markTold 108 = .ok (.ireturn, 1) := by decide +kernel
theorem dX12_markTold_109 : decode cX12_markTold 109 = .ok (.bipush (-2), 2) := by decide +kernel
theorem dX12_markTold_111 : decode cX12_markTold 111 = .ok (.ireturn, 1) := by decide +kernel
theorem dX12_cellOf_0 : decode cX12_cellOf 0 = .ok (.aload_n 0, 1) := by decide +kernel
theorem dX12_cellOf_1 : decode cX12_cellOf 1 = .ok (.getfield 38, 3) := by decide +kernel
theorem dX12_cellOf_4 : decode cX12_cellOf 4 = .ok (.iload_n 1, 1) := by decide +kernel
theorem dX12_cellOf_5 : decode cX12_cellOf 5 = .ok (.iaload, 1) := by decide +kernel
theorem dX12_cellOf_6 : decode cX12_cellOf 6 = .ok (.ifCond .ne 12, 3) := by decide +kernel
theorem dX12_cellOf_9 : decode cX12_cellOf 9 = .ok (.aload_n 0, 1) := by decide +kernel
theorem dX12_cellOf_10 : decode cX12_cellOf 10 = .ok (.getfield 32, 3) := by decide +kernel
theorem dX12_cellOf_13 : decode cX12_cellOf 13 = .ok (.iload_n 1, 1) := by decide +kernel
theorem dX12_cellOf_14 : decode cX12_cellOf 14 = .ok (.iaload, 1) := by decide +kernel
theorem dX12_cellOf_15 : decode cX12_cellOf 15 = .ok (.goto 21, 3) := by decide +kernel
theorem dX12_cellOf_18 : decode cX12_cellOf 18 = .ok (.aload_n 0, 1) := by decide +kernel
theorem dX12_cellOf_19 : decode cX12_cellOf 19 = .ok (.getfield 41, 3) := by decide +kernel
theorem dX12_cellOf_22 : decode cX12_cellOf 22 = .ok (.bipush 6, 2) := by decide +kernel
theorem dX12_cellOf_24 : decode cX12_cellOf 24 = .ok (.iload_n 1, 1) := by decide +kernel
theorem dX12_cellOf_25 : decode cX12_cellOf 25 = .ok (.imul, 1) := by decide +kernel
theorem dX12_cellOf_26 : decode cX12_cellOf 26 = .ok (.iload_n 2, 1) := by decide +kernel
theorem dX12_cellOf_27 : decode cX12_cellOf 27 = .ok (.aload_n 0, 1) := by decide +kernel
theorem dX12_cellOf_28 : decode cX12_cellOf 28 = .ok (.getfield 38, 3) := by decide +kernel
theorem dX12_cellOf_31 : decode cX12_cellOf 31 = .ok (.iload_n 1, 1) := by decide +kernel
theorem dX12_cellOf_32 : decode cX12_cellOf 32 = .ok (.iaload, 1) := by decide +kernel
theorem dX12_cellOf_33 : decode cX12_cellOf 33 = .ok (.irem, 1) := by decide +kernel
theorem dX12_cellOf_34 : decode cX12_cellOf 34 = .ok (.iadd, 1) := by decide +kernel
theorem dX12_cellOf_35 : decode cX12_cellOf 35 = .ok (.iaload, 1) := by decide +kernel
