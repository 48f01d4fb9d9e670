theorem dX12_cellOf_36 : decode cX12_cellOf 36 = .ok (.ireturn, 1) := by decide +kernel
theorem dX12_at_0 : decode cX12_at 0 = .ok (.aload_n 0, 1) := by decide +kernel
theorem dX12_at_1 : decode cX12_at 1 = .ok (.iload_n 1, 1) := by decide +kernel
theorem dX12_at_2 : decode cX12_at 2 = .ok (.invokevirtual 236, 3) := by decide +kernel
theorem dX12_at_5 : decode cX12_at 5 = .ok (.ifCond .eq 20, 3) := by decide +kernel
theorem dX12_at_8 : decode cX12_at 8 = .ok (.aload_n 0, 1) := by decide +kernel
theorem dX12_at_9 : decode cX12_at 9 = .ok (.iload_n 2, 1) := by decide +kernel
theorem dX12_at_10 : decode cX12_at 10 = .ok (.invokevirtual 246, 3) := by decide +kernel
theorem dX12_at_13 : decode cX12_at 13 = .ok (.ifCond .eq 12, 3) := by decide +kernel
theorem dX12_at_16 : decode cX12_at 16 = .ok (.aload_n 0, 1) := by decide +kernel
theorem dX12_at_17 : decode cX12_at 17 = .ok (.iload_n 1, 1) := by decide +kernel
theorem dX12_at_18 : decode cX12_at 18 = .ok (.iload_n 2, 1) := by decide +kernel
theorem dX12_at_19 : decode cX12_at 19 = .ok (.invokevirtual 249, 3) := by decide +kernel
theorem dX12_at_22 : decode cX12_at 22 = .ok (.goto 5, 3) := by decide +kernel
theorem dX12_at_25 : decode cX12_at 25 = .ok (.bipush (-2), 2) := by decide +kernel
theorem dX12_at_27 : decode cX12_at 27 = .ok (.ireturn, 1) := by decide +kernel
theorem dX12_sightOf_0 : decode cX12_sightOf 0 = .ok (.aload_n 0, 1) := by decide +kernel
theorem dX12_sightOf_1 : decode cX12_sightOf 1 = .ok (.getfield 7, 3) := by decide +kernel
theorem dX12_sightOf_4 : decode cX12_sightOf 4 = .ok (.iload_n 2, 1) := by decide +kernel
theorem dX12_sightOf_5 : decode cX12_sightOf 5 = .ok (.iaload, 1) := by decide +kernel
theorem dX12_sightOf_6 : decode cX12_sightOf 6 = .ok (.iconst 5, 1) := by decide +kernel
theorem dX12_sightOf_7 : decode cX12_sightOf 7 = .ok (.if_icmp .lt 7, 3) := by decide +kernel
theorem dX12_sightOf_10 : decode cX12_sightOf 10 = .ok (.iconst 4, 1) := by decide +kernel
theorem dX12_sightOf_11 : decode cX12_sightOf 11 = .ok (.goto 4, 3) := by decide +kernel
theorem dX12_sightOf_14 : decode cX12_sightOf 14 = .ok (.iconst 3, 1) := by decide +kernel
theorem dX12_sightOf_15 : decode cX12_sightOf 15 = .ok (.istore 4, 2) := by decide +kernel
theorem dX12_sightOf_17 : decode cX12_sightOf 17 = .ok (.iconst 0, 1) := by decide +kernel
theorem dX12_sightOf_18 : decode cX12_sightOf 18 = .ok (.istore 5, 2) := by decide +kernel
theorem dX12_sightOf_20 : decode cX12_sightOf 20 = .ok (.iload_n 1, 1) := by decide +kernel
theorem dX12_sightOf_21 : decode cX12_sightOf 21 = .ok (.iconst 1, 1) := by decide +kernel
theorem dX12_sightOf_22 : decode cX12_sightOf 22 = .ok (.if_icmp .ne 21, 3) := by decide +kernel
theorem dX12_sightOf_25 : decode cX12_sightOf 25 = .ok (.iload 4, 2) := by decide +kernel
theorem dX12_sightOf_27 : decode cX12_sightOf 27 = .ok (.aload_n 0, 1) := by decide +kernel
theorem dX12_sightOf_28 : decode cX12_sightOf 28 = .ok (.iload_n 3, 1) := by decide +kernel
theorem dX12_sightOf_29 : decode cX12_sightOf 29 = .ok (.invokevirtual 253, 3) := by decide +kernel
theorem dX12_sightOf_32 : decode cX12_sightOf 32 = .ok (.ifCond .eq 7, 3) := by decide +kernel
theorem dX12_sightOf_35 : decode cX12_sightOf 35 = .ok (.iconst 1, 1) := by decide +kernel
theorem dX12_sightOf_36 : decode cX12_sightOf 36 = .ok (.goto 4, 3) := by decide +kernel
theorem dX12_sightOf_39 : decode cX12_sightOf 39 = .ok (.iconst 0, 1) := by decide +kernel
theorem dX12_sightOf_40 : decode cX12_sightOf 40 = .ok (.isub, 1) := by decide +kernel
theorem dX12_sightOf_41 : decode cX12_sightOf 41 = .ok (.istore 5, 2) := by decide +kernel
theorem dX12_sightOf_43 : decode cX12_sightOf 43 = .ok (.iload_n 1, 1) := by decide +kernel
theorem dX12_sightOf_44 : decode cX12_sightOf 44 = .ok (.iconst 3, 1) := by decide +kernel
theorem dX12_sightOf_45 : decode cX12_sightOf 45 = .ok (.if_icmp .ne 23, 3) := by decide +kernel
theorem dX12_sightOf_48 : decode cX12_sightOf 48 = .ok (.iload 4, 2) := by decide +kernel
theorem dX12_sightOf_50 : decode cX12_sightOf 50 = .ok (.iconst 1, 1) := by decide +kernel
theorem dX12_sightOf_51 : decode cX12_sightOf 51 = .ok (.isub, 1) := by decide +kernel
theorem dX12_sightOf_52 : decode cX12_sightOf 52 = .ok (.aload_n 0, 1) := by decide +kernel
theorem dX12_sightOf_53 : decode cX12_sightOf 53 = .ok (.iload_n 3, 1) := by decide +kernel
theorem dX12_sightOf_54 : decode cX12_sightOf 54 = .ok (.invokevirtual 253, 3) := by decide +kernel
theorem dX12_sightOf_57 : decode cX12_sightOf 57 = .ok (.ifCond .eq 7, 3) := by decide +kernel
theorem dX12_sightOf_60 : decode cX12_sightOf 60 = .ok (.iconst 1, 1) := by decide +kernel
theorem dX12_sightOf_61 : decode cX12_sightOf 61 = .ok (.goto 4, 3) := by decide +kernel
theorem dX12_sightOf_64 : decode cX12_sightOf 64 = .ok (.iconst 0, 1) := by decide +kernel
theorem dX12_sightOf_65 : decode cX12_sightOf 65 = .ok (.isub, 1) := by decide +kernel
theorem dX12_sightOf_66 : decode cX12_sightOf 66 = .ok (.istore 5, 2) := by decide +kernel
theorem dX12_sightOf_68 : decode cX12_sightOf 68 = .ok (.iload_n 1, 1) := by decide +kernel
theorem dX12_sightOf_69 : decode cX12_sightOf 69 = .ok (.iconst 4, 1) := by decide +kernel
theorem dX12_sightOf_70 : decode cX12_sightOf 70 = .ok (.if_icmp .ne 22, 3) := by decide +kernel
theorem dX12_sightOf_73 : decode cX12_sightOf 73 = .ok (.aload_n 0, 1) := by decide +kernel
theorem dX12_sightOf_74 : decode cX12_sightOf 74 = .ok (.iload_n 3, 1) := by decide +kernel
theorem dX12_sightOf_75 : decode cX12_sightOf 75 = .ok (.invokevirtual 253, 3) := by decide +kernel
theorem dX12_sightOf_78 : decode cX12_sightOf 78 = .ok (.ifCond .eq 8, 3) := by decide +kernel
theorem dX12_sightOf_81 : decode cX12_sightOf 81 = .ok (.iload 4, 2) := by decide +kernel
theorem dX12_sightOf_83 : decode cX12_sightOf 83 = .ok (.goto 7, 3) := by decide +kernel
theorem dX12_sightOf_86 : decode cX12_sightOf 86 = .ok (.iload 4, 2) := by decide +kernel
theorem dX12_sightOf_88 : decode cX12_sightOf 88 = .ok (.iconst 1, 1) := by decide +kernel
theorem dX12_sightOf_89 : decode cX12_sightOf 89 = .ok (.isub, 1) := by decide +kernel
theorem dX12_sightOf_90 : decode cX12_sightOf 90 = .ok (.istore 5, 2) := by decide +kernel
theorem dX12_sightOf_92 : decode cX12_sightOf 92 = .ok (.iload_n 1, 1) := by decide +kernel
theorem dX12_sightOf_93 : decode cX12_sightOf 93 = .ok (.iconst 5, 1) := by decide +kernel
theorem dX12_sightOf_94 : decode cX12_sightOf 94 = .ok (.if_icmp .ne 6, 3) := by decide +kernel
theorem dX12_sightOf_97 : decode cX12_sightOf 97 = .ok (.iconst 1, 1) := by decide +kernel
theorem dX12_sightOf_98 : decode cX12_sightOf 98 = .ok (.istore 5, 2) := by decide +kernel
theorem dX12_sightOf_100 : decode cX12_sightOf 100 = .ok (.iload 5, 2) := by decide +kernel
theorem dX12_sightOf_102 : decode cX12_sightOf 102 = .ok (.aload_n 0, 1) := by decide +kernel
theorem dX12_sightOf_103 : decode cX12_sightOf 103 = .ok (.getfield 20, 3) := by decide +kernel
theorem dX12_sightOf_106 : decode cX12_sightOf 106 = .ok (.if_icmp .le 13, 3) := by decide +kernel
theorem dX12_sightOf_109 : decode cX12_sightOf 109 = .ok (.iload 5, 2) := by decide +kernel
theorem dX12_sightOf_111 : decode cX12_sightOf 111 = .ok (.aload_n 0, 1) := by decide +kernel
theorem dX12_sightOf_112 : decode cX12_sightOf 112 = .ok (.getfield 20, 3) := by decide +kernel
theorem dX12_sightOf_115 : decode cX12_sightOf 115 = .ok (.isub, 1) := by decide +kernel
theorem dX12_sightOf_116 : decode cX12_sightOf 116 = .ok (.goto 4, 3) := by decide +kernel
theorem dX12_sightOf_119 : decode cX12_sightOf 119 = .ok (.iconst 0, 1) := by decide +kernel
theorem dX12_sightOf_120 : decode cX12_sightOf 120 = .ok (.ireturn, 1) := by decide +kernel
theorem dX12_sight_0 : decode cX12_sight 0 = .ok (.aload_n 0, 1) := by decide +kernel
theorem dX12_sight_1 : decode cX12_sight 1 = .ok (.iload_n 1, 1) := by decide +kernel
theorem dX12_sight_2 : decode cX12_sight 2 = .ok (.invokevirtual 236, 3) := by decide +kernel
theorem dX12_sight_5 : decode cX12_sight 5 = .ok (.ifCond .eq 31, 3) := by decide +kernel
theorem dX12_sight_8 : decode cX12_sight 8 = .ok (.aload_n 0, 1) := by decide +kernel
theorem dX12_sight_9 : decode cX12_sight 9 = .ok (.iload_n 2, 1) := by decide +kernel
theorem dX12_sight_10 : decode cX12_sight 10 = .ok (.invokevirtual 246, 3) := by decide +kernel
theorem dX12_sight_13 : decode cX12_sight 13 = .ok (.ifCond .eq 23, 3) := by decide +kernel
theorem dX12_sight_16 : decode cX12_sight 16 = .ok (.aload_n 0, 1) := by decide +kernel
theorem dX12_sight_17 : decode cX12_sight 17 = .ok (.aload_n 0, 1) := by decide +kernel
theorem dX12_sight_18 : decode cX12_sight 18 = .ok (.getfield 26, 3) := by decide +kernel
theorem dX12_sight_21 : decode cX12_sight 21 = .ok (.iload_n 1, 1) := by decide +kernel
theorem dX12_sight_22 : decode cX12_sight 22 = .ok (.iaload, 1) := by decide +kernel
theorem dX12_sight_23 : decode cX12_sight 23 = .ok (.aload_n 0, 1) := by decide +kernel
theorem dX12_sight_24 : decode cX12_sight 24 = .ok (.iload_n 1, 1) := by decide +kernel
theorem dX12_sight_25 : decode cX12_sight 25 = .ok (.iload_n 2, 1) := by decide +kernel
theorem dX12_sight_26 : decode cX12_sight 26 = .ok (.invokevirtual 249, 3) := by decide +kernel
theorem dX12_sight_29 : decode cX12_sight 29 = .ok (.iload_n 2, 1) := by decide +kernel
theorem dX12_sight_30 : decode cX12_sight 30 = .ok (.invokevirtual 256, 3) := by decide +kernel
theorem dX12_sight_33 : decode cX12_sight 33 = .ok (.goto 5, 3) := by decide +kernel
theorem dX12_sight_36 : decode cX12_sight 36 = .ok (.bipush (-2), 2) := by decide +kernel
theorem dX12_sight_38 : decode cX12_sight 38 = .ok (.ireturn, 1) := by decide +kernel
theorem dX12_isClear_0 : decode cX12_isClear 0 = .ok (.aload_n 0, 1) := by decide +kernel
theorem dX12_isClear_1 : decode cX12_isClear 1 = .ok (.iload_n 1, 1) := by decide +kernel
theorem dX12_isClear_2 : decode cX12_isClear 2 = .ok (.iload_n 2, 1) := by decide +kernel
theorem dX12_isClear_3 : decode cX12_isClear 3 = .ok (.invokevirtual 260, 3) := by decide +kernel
theorem dX12_isClear_6 : decode cX12_isClear 6 = .ok (.istore_n 3, 1) := by decide +kernel
theorem dX12_isClear_7 : decode cX12_isClear 7 = .ok (.iload_n 2, 1) := by decide +kernel
theorem dX12_isClear_8 : decode cX12_isClear 8 = .ok (.bipush 8, 2) := by decide +kernel
theorem dX12_isClear_10 : decode cX12_isClear 10 = .ok (.irem, 1) := by decide +kernel
theorem dX12_isClear_11 : decode cX12_isClear 11 = .ok (.iload_n 1, 1) := by decide +kernel
theorem dX12_isClear_12 : decode cX12_isClear 12 = .ok (.bipush 8, 2) := by decide +kernel
theorem dX12_isClear_14 : decode cX12_isClear 14 = .ok (.irem, 1) := by decide +kernel
theorem dX12_isClear_15 : decode cX12_isClear 15 = .ok (.isub, 1) := by decide +kernel
theorem dX12_isClear_16 : decode cX12_isClear 16 = .ok (.istore 4, 2) := by decide +kernel
theorem dX12_isClear_18 : decode cX12_isClear 18 = .ok (.iload_n 2, 1) := by decide +kernel
theorem dX12_isClear_19 : decode cX12_isClear 19 = .ok (.bipush 8, 2) := by decide +kernel
theorem dX12_isClear_21 : decode cX12_isClear 21 = .ok (.idiv, 1) := by decide +kernel
theorem dX12_isClear_22 : decode cX12_isClear 22 = .ok (.iload_n 1, 1) := by decide +kernel
theorem dX12_isClear_23 : decode cX12_isClear 23 = .ok (.bipush 8, 2) := by decide +kernel
theorem dX12_isClear_25 : decode cX12_isClear 25 = .ok (.idiv, 1) := by decide +kernel
theorem dX12_isClear_26 : decode cX12_isClear 26 = .ok (.isub, 1) := by decide +kernel
theorem dX12_isClear_27 : decode cX12_isClear 27 = .ok (.istore 5, 2) := by decide +kernel
theorem dX12_isClear_29 : decode cX12_isClear 29 = .ok (.iconst 1, 1) := by decide +kernel
theorem dX12_isClear_30 : decode cX12_isClear 30 = .ok (.istore 6, 2) := by decide +kernel
theorem dX12_isClear_32 : decode cX12_isClear 32 = .ok (.iload 6, 2) := by decide +kernel
theorem dX12_isClear_34 : decode cX12_isClear 34 = .ok (.iload_n 3, 1) := by decide +kernel
theorem dX12_isClear_35 : decode cX12_isClear 35 = .ok (.if_icmp .ge 73, 3) := by decide +kernel
theorem dX12_isClear_38 : decode cX12_isClear 38 = .ok (.bipush 8, 2) := by decide +kernel
theorem dX12_isClear_40 : decode cX12_isClear 40 = .ok (.iload_n 1, 1) := by decide +kernel
theorem dX12_isClear_41 : decode cX12_isClear 41 = .ok (.bipush 8, 2) := by decide +kernel
theorem dX12_isClear_43 : decode cX12_isClear 43 = .ok (.idiv, 1) := by decide +kernel
theorem dX12_isClear_44 : decode cX12_isClear 44 = .ok (.iload 5, 2) := by decide +kernel
theorem dX12_isClear_46 : decode cX12_isClear 46 = .ok (.iload 6, 2) := by decide +kernel
theorem dX12_isClear_48 : decode cX12_isClear 48 = .ok (.imul, 1) := by decide +kernel
theorem dX12_isClear_49 : decode cX12_isClear 49 = .ok (.iload_n 3, 1) := by decide +kernel
theorem dX12_isClear_50 : decode cX12_isClear 50 = .ok (.idiv, 1) := by decide +kernel
theorem dX12_isClear_51 : decode cX12_isClear 51 = .ok (.iadd, 1) := by decide +kernel
theorem dX12_isClear_52 : decode cX12_isClear 52 = .ok (.imul, 1) := by decide +kernel
theorem dX12_isClear_53 : decode cX12_isClear 53 = .ok (.iload_n 1, 1) := by decide +kernel
theorem dX12_isClear_54 : decode cX12_isClear 54 = .ok (.bipush 8, 2) := by decide +kernel
theorem dX12_isClear_56 : decode cX12_isClear 56 = .ok (.irem, 1) := by decide +kernel
theorem dX12_isClear_57 : decode cX12_isClear 57 = .ok (.iadd, 1) := by decide +kernel
theorem dX12_isClear_58 : decode cX12_isClear 58 = .ok (.iload 4, 2) := by decide +kernel
theorem dX12_isClear_60 : decode cX12_isClear 60 = .ok (.iload 6, 2) := by decide +kernel
theorem dX12_isClear_62 : decode cX12_isClear 62 = .ok (.imul, 1) := by decide +kernel
theorem dX12_isClear_63 : decode cX12_isClear 63 = .ok (.iload_n 3, 1) := by decide +kernel
theorem dX12_isClear_64 : decode cX12_isClear 64 = .ok (.idiv, 1) := by decide +kernel
theorem dX12_isClear_65 : decode cX12_isClear 65 = .ok (.iadd, 1) := by decide +kernel
theorem dX12_isClear_66 : decode cX12_isClear 66 = .ok (.istore 7, 2) := by decide +kernel
theorem dX12_isClear_68 : decode cX12_isClear 68 = .ok (.aload_n 0, 1) := by decide +kernel
theorem dX12_isClear_69 : decode cX12_isClear 69 = .ok (.getfield 7, 3) := by decide +kernel
theorem dX12_isClear_72 : decode cX12_isClear 72 = .ok (.iload 7, 2) := by decide +kernel
theorem dX12_isClear_74 : decode cX12_isClear 74 = .ok (.iaload, 1) := by decide +kernel
theorem dX12_isClear_75 : decode cX12_isClear 75 = .ok (.aload_n 0, 1) := by decide +kernel
theorem dX12_isClear_76 : decode cX12_isClear 76 = .ok (.getfield 7, 3) := by decide +kernel
theorem dX12_isClear_79 : decode cX12_isClear 79 = .ok (.iload_n 1, 1) := by decide +kernel
theorem dX12_isClear_80 : decode cX12_isClear 80 = .ok (.iaload, 1) := by decide +kernel
theorem dX12_isClear_81 : decode cX12_isClear 81 = .ok (.if_icmp .le 21, 3) := by decide +kernel
theorem dX12_isClear_84 : decode cX12_isClear 84 = .ok (.aload_n 0, 1) := by decide +kernel
theorem dX12_isClear_85 : decode cX12_isClear 85 = .ok (.getfield 7, 3) := by decide +kernel
theorem dX12_isClear_88 : decode cX12_isClear 88 = .ok (.iload 7, 2) := by decide +kernel
theorem dX12_isClear_90 : decode cX12_isClear 90 = .ok (.iaload, 1) := by decide +kernel
theorem dX12_isClear_91 : decode cX12_isClear 91 = .ok (.aload_n 0, 1) := by decide +kernel
theorem dX12_isClear_92 : decode cX12_isClear 92 = .ok (.getfield 7, 3) := by decide +kernel
theorem dX12_isClear_95 : decode cX12_isClear 95 = .ok (.iload_n 2, 1) := by decide +kernel
theorem dX12_isClear_96 : decode cX12_isClear 96 = .ok (.iaload, 1) := by decide +kernel
theorem dX12_isClear_97 : decode cX12_isClear 97 = .ok (.if_icmp .le 5, 3) := by decide +kernel
theorem dX12_isClear_100 : decode cX12_isClear 100 = .ok (.iconst 0, 1) := by decide +kernel
theorem dX12_isClear_101 : decode cX12_isClear 101 = .ok (.ireturn, 1) := by decide +kernel
theorem dX12_isClear_102 : decode cX12_isClear 102 = .ok (.iinc 6 1, 3) := by decide +kernel
theorem dX12_isClear_105 : decode cX12_isClear 105 = .ok (.goto (-73), 3) := by decide +kernel
theorem dX12_isClear_108 : decode cX12_isClear 108 = .ok (.iconst 1, 1) := by decide +kernel
theorem dX12_isClear_109 : decode cX12_isClear 109 = .ok (.ireturn, 1) := by decide +kernel
theorem dX12_seenFrom_0 : decode cX12_seenFrom 0 = .ok (.aload_n 0, 1) := by decide +kernel
theorem dX12_seenFrom_1 : decode cX12_seenFrom 1 = .ok (.iload_n 1, 1) := by decide +kernel
theorem dX12_seenFrom_2 : decode cX12_seenFrom 2 = .ok (.iload_n 2, 1) := by decide +kernel
theorem dX12_seenFrom_3 : decode cX12_seenFrom 3 = .ok (.iload_n 3, 1) := by decide +kernel
theorem dX12_seenFrom_4 : decode cX12_seenFrom 4 = .ok (.invokevirtual 256, 3) := by decide +kernel
theorem dX12_seenFrom_7 : decode cX12_seenFrom 7 = .ok (.istore 4, 2) := by decide +kernel
theorem dX12_seenFrom_9 : decode cX12_seenFrom 9 = .ok (.lconst 0, 1) := by decide +kernel
theorem dX12_seenFrom_10 : decode cX12_seenFrom 10 = .ok (.lstore 5, 2) := by decide +kernel
theorem dX12_seenFrom_12 : decode cX12_seenFrom 12 = .ok (.iconst 0, 1) := by decide +kernel
theorem dX12_seenFrom_13 : decode cX12_seenFrom 13 = .ok (.istore 7, 2) := by decide +kernel
theorem dX12_seenFrom_15 : decode cX12_seenFrom 15 = .ok (.iload 7, 2) := by decide +kernel
theorem dX12_seenFrom_17 : decode cX12_seenFrom 17 = .ok (.bipush 64, 2) := by decide +kernel
theorem dX12_seenFrom_19 : decode cX12_seenFrom 19 = .ok (.if_icmp .ge 40, 3) := by decide +kernel
theorem dX12_seenFrom_22 : decode cX12_seenFrom 22 = .ok (.aload_n 0, 1) := by decide +kernel
theorem dX12_seenFrom_23 : decode cX12_seenFrom 23 = .ok (.iload_n 2, 1) := by decide +kernel
theorem dX12_seenFrom_24 : decode cX12_seenFrom 24 = .ok (.iload 7, 2) := by decide +kernel
theorem dX12_seenFrom_26 : decode cX12_seenFrom 26 = .ok (.invokevirtual 260, 3) := by decide +kernel
theorem dX12_seenFrom_29 : decode cX12_seenFrom 29 = .ok (.iload 4, 2) := by decide +kernel
theorem dX12_seenFrom_31 : decode cX12_seenFrom 31 = .ok (.if_icmp .gt 22, 3) := by decide +kernel
theorem dX12_seenFrom_34 : decode cX12_seenFrom 34 = .ok (.aload_n 0, 1) := by decide +kernel
theorem dX12_seenFrom_35 : decode cX12_seenFrom 35 = .ok (.iload_n 2, 1) := by decide +kernel
theorem dX12_seenFrom_36 : decode cX12_seenFrom 36 = .ok (.iload 7, 2) := by decide +kernel
theorem dX12_seenFrom_38 : decode cX12_seenFrom 38 = .ok (.invokevirtual 263, 3) := by decide +kernel
theorem dX12_seenFrom_41 : decode cX12_seenFrom 41 = .ok (.ifCond .eq 12, 3) := by decide +kernel
theorem dX12_seenFrom_44 : decode cX12_seenFrom 44 = .ok (.lload 5, 2) := by decide +kernel
theorem dX12_seenFrom_46 : decode cX12_seenFrom 46 = .ok (.lconst 1, 1) := by decide +kernel
theorem dX12_seenFrom_47 : decode cX12_seenFrom 47 = .ok (.iload 7, 2) := by decide +kernel
theorem dX12_seenFrom_49 : decode cX12_seenFrom 49 = .ok (.lshl, 1) := by decide +kernel
theorem dX12_seenFrom_50 : decode cX12_seenFrom 50 = .ok (.lor, 1) := by decide +kernel
theorem dX12_seenFrom_51 : decode cX12_seenFrom 51 = .ok (.lstore 5, 2) := by decide +kernel
theorem dX12_seenFrom_53 : decode cX12_seenFrom 53 = .ok (.iinc 7 1, 3) := by decide +kernel
theorem dX12_seenFrom_56 : decode cX12_seenFrom 56 = .ok (.goto (-41), 3) := by decide +kernel
theorem dX12_seenFrom_59 : decode cX12_seenFrom 59 = .ok (.lload 5, 2) := by decide +kernel
theorem dX12_seenFrom_61 : decode cX12_seenFrom 61 = .ok (.lreturn, 1) := by decide +kernel
theorem dX12_seenBy_0 : decode cX12_seenBy 0 = .ok (.aload_n 0, 1) := by decide +kernel
theorem dX12_seenBy_1 : decode cX12_seenBy 1 = .ok (.getfield 44, 3) := by decide +kernel
theorem dX12_seenBy_4 : decode cX12_seenBy 4 = .ok (.iload_n 1, 1) := by decide +kernel
theorem dX12_seenBy_5 : decode cX12_seenBy 5 = .ok (.baload, 1) := by decide +kernel
theorem dX12_seenBy_6 : decode cX12_seenBy 6 = .ok (.ifCond .eq 7, 3) := by decide +kernel
theorem dX12_seenBy_9 : decode cX12_seenBy 9 = .ok (.lconst 0, 1) := by decide +kernel
theorem dX12_seenBy_10 : decode cX12_seenBy 10 = .ok (.goto 20, 3) := by decide +kernel
theorem dX12_seenBy_13 : decode cX12_seenBy 13 = .ok (.aload_n 0, 1) := by decide +kernel
theorem dX12_seenBy_14 : decode cX12_seenBy 14 = .ok (.aload_n 0, 1) := by decide +kernel
theorem dX12_seenBy_15 : decode cX12_seenBy 15 = .ok (.getfield 26, 3) := by decide +kernel
theorem dX12_seenBy_18 : decode cX12_seenBy 18 = .ok (.iload_n 1, 1) := by decide +kernel
theorem dX12_seenBy_19 : decode cX12_seenBy 19 = .ok (.iaload, 1) := by decide +kernel
theorem dX12_seenBy_20 : decode cX12_seenBy 20 = .ok (.aload_n 0, 1) := by decide +kernel
theorem dX12_seenBy_21 : decode cX12_seenBy 21 = .ok (.iload_n 1, 1) := by decide +kernel
theorem dX12_seenBy_22 : decode cX12_seenBy 22 = .ok (.iload_n 2, 1) := by decide +kernel
theorem dX12_seenBy_23 : decode cX12_seenBy 23 = .ok (.invokevirtual 249, 3) := by decide +kernel
theorem dX12_seenBy_26 : decode cX12_seenBy 26 = .ok (.iload_n 2, 1) := by decide +kernel
theorem dX12_seenBy_27 : decode cX12_seenBy 27 = .ok (.invokevirtual 266, 3) := by decide +kernel
theorem dX12_seenBy_30 : decode cX12_seenBy 30 = .ok (.lreturn, 1) := by decide +kernel
theorem dX12_sees_0 : decode cX12_sees 0 = .ok (.aload_n 0, 1) := by decide +kernel
theorem dX12_sees_1 : decode cX12_sees 1 = .ok (.iload_n 1, 1) := by decide +kernel
theorem dX12_sees_2 : decode cX12_sees 2 = .ok (.invokevirtual 236, 3) := by decide +kernel
theorem dX12_sees_5 : decode cX12_sees 5 = .ok (.ifCond .eq 20, 3) := by decide +kernel
theorem dX12_sees_8 : decode cX12_sees 8 = .ok (.aload_n 0, 1) := by decide +kernel
theorem dX12_sees_9 : decode cX12_sees 9 = .ok (.iload_n 2, 1) := by decide +kernel
theorem dX12_sees_10 : decode cX12_sees 10 = .ok (.invokevirtual 246, 3) := by decide +kernel
theorem dX12_sees_13 : decode cX12_sees 13 = .ok (.ifCond .eq 12, 3) := by decide +kernel
theorem dX12_sees_16 : decode cX12_sees 16 = .ok (.aload_n 0, 1) := by decide +kernel
theorem dX12_sees_17 : decode cX12_sees 17 = .ok (.iload_n 1, 1) := by decide +kernel
theorem dX12_sees_18 : decode cX12_sees 18 = .ok (.iload_n 2, 1) := by decide +kernel
theorem dX12_sees_19 : decode cX12_sees 19 = .ok (.invokevirtual 270, 3) := by decide +kernel
theorem dX12_sees_22 : decode cX12_sees 22 = .ok (.goto 6, 3) := by decide +kernel
theorem dX12_sees_25 : decode cX12_sees 25 = .ok (.ldc2_w 274, 3) := by decide +kernel
theorem dX12_sees_28 : decode cX12_sees 28 = .ok (.lreturn, 1) := by decide +kernel
theorem dX12_viewOf_0 : decode cX12_viewOf 0 = .ok (.lconst 0, 1) := by decide +kernel
theorem dX12_viewOf_1 : decode cX12_viewOf 1 = .ok (.lstore_n 3, 1) := by decide +kernel
theorem dX12_viewOf_2 : decode cX12_viewOf 2 = .ok (.iconst 0, 1) := by decide +kernel
theorem dX12_viewOf_3 : decode cX12_viewOf 3 = .ok (.istore 5, 2) := by decide +kernel
theorem dX12_viewOf_5 : decode cX12_viewOf 5 = .ok (.iload 5, 2) := by decide +kernel
theorem dX12_viewOf_7 : decode cX12_viewOf 7 = .ok (.aload_n 0, 1) := by decide +kernel
theorem dX12_viewOf_8 : decode cX12_viewOf 8 = .ok (.getfield 23, 3) := by decide +kernel
theorem dX12_viewOf_11 : decode cX12_viewOf 11 = .ok (.if_icmp .ge 30, 3) := by decide +kernel
theorem dX12_viewOf_14 : decode cX12_viewOf 14 = .ok (.aload_n 0, 1) := by decide +kernel
theorem dX12_viewOf_15 : decode cX12_viewOf 15 = .ok (.getfield 29, 3) := by decide +kernel
theorem dX12_viewOf_18 : decode cX12_viewOf 18 = .ok (.iload 5, 2) := by decide +kernel
theorem dX12_viewOf_20 : decode cX12_viewOf 20 = .ok (.iaload, 1) := by decide +kernel
theorem dX12_viewOf_21 : decode cX12_viewOf 21 = .ok (.iload_n 1, 1) := by decide +kernel
theorem dX12_viewOf_22 : decode cX12_viewOf 22 = .ok (.if_icmp .ne 13, 3) := by decide +kernel
theorem dX12_viewOf_25 : decode cX12_viewOf 25 = .ok (.lload_n 3, 1) := by decide +kernel
theorem dX12_viewOf_26 : decode cX12_viewOf 26 = .ok (.aload_n 0, 1) := by decide +kernel
theorem dX12_viewOf_27 : decode cX12_viewOf 27 = .ok (.iload 5, 2) := by decide +kernel
theorem dX12_viewOf_29 : decode cX12_viewOf 29 = .ok (.iload_n 2, 1) := by decide +kernel
theorem dX12_viewOf_30 : decode cX12_viewOf 30 = .ok (.invokevirtual 270, 3) := by decide +kernel
theorem dX12_viewOf_33 : decode cX12_viewOf 33 = .ok (.lor, 1) := by decide +kernel
theorem dX12_viewOf_34 : decode cX12_viewOf 34 = .ok (.lstore_n 3, 1) := by decide +kernel
theorem dX12_viewOf_35 : decode cX12_viewOf 35 = .ok (.iinc 5 1, 3) := by decide +kernel
theorem dX12_viewOf_38 : decode cX12_viewOf 38 = .ok (.goto (-33), 3) := by decide +kernel
theorem dX12_viewOf_41 : decode cX12_viewOf 41 = .ok (.lload_n 3, 1) := by decide +kernel
theorem dX12_viewOf_42 : decode cX12_viewOf 42 = .ok (.lreturn, 1) := by decide +kernel
theorem dX12_view_0 : decode cX12_view 0 = .ok (.aload_n 0, 1) := by decide +kernel
theorem dX12_view_1 : decode cX12_view 1 = .ok (.iload_n 1, 1) := by decide +kernel
theorem dX12_view_2 : decode cX12_view 2 = .ok (.iconst 0, 1) := by decide +kernel
theorem dX12_view_3 : decode cX12_view 3 = .ok (.iconst 2, 1) := by decide +kernel
theorem dX12_view_4 : decode cX12_view 4 = .ok (.invokevirtual 218, 3) := by decide +kernel
theorem dX12_view_7 : decode cX12_view 7 = .ok (.ifCond .eq 20, 3) := by decide +kernel
theorem dX12_view_10 : decode cX12_view 10 = .ok (.aload_n 0, 1) := by decide +kernel
theorem dX12_view_11 : decode cX12_view 11 = .ok (.iload_n 2, 1) := by decide +kernel
theorem dX12_view_12 : decode cX12_view 12 = .ok (.invokevirtual 246, 3) := by decide +kernel
theorem dX12_view_15 : decode cX12_view 15 = .ok (.ifCond .eq 12, 3) := by decide +kernel
theorem dX12_view_18 : decode cX12_view 18 = .ok (.aload_n 0, 1) := by decide +kernel
theorem dX12_view_19 : decode cX12_view 19 = .ok (.iload_n 1, 1) := by decide +kernel
theorem dX12_view_20 : decode cX12_view 20 = .ok (.iload_n 2, 1) := by decide +kernel
theorem dX12_view_21 : decode cX12_view 21 = .ok (.invokevirtual 276, 3) := by decide +kernel
theorem dX12_view_24 : decode cX12_view 24 = .ok (.goto 6, 3) := by decide +kernel
theorem dX12_view_27 : decode cX12_view 27 = .ok (.ldc2_w 274, 3) := by decide +kernel
theorem dX12_view_30 : decode cX12_view 30 = .ok (.lreturn, 1) := by decide +kernel
theorem dX12_ruleZero_0 : decode cX12_ruleZero 0 = .ok (.aload_n 0, 1) := by decide +kernel
theorem dX12_ruleZero_1 : decode cX12_ruleZero 1 = .ok (.getfield 64, 3) := by decide +kernel
theorem dX12_ruleZero_4 : decode cX12_ruleZero 4 = .ok (.iconst 0, 1) := by decide +kernel
theorem dX12_ruleZero_5 : decode cX12_ruleZero 5 = .ok (.bipush 9, 2) := by decide +kernel
theorem dX12_ruleZero_7 : decode cX12_ruleZero 7 = .ok (.iastore, 1) := by decide +kernel
theorem dX12_ruleZero_8 : decode cX12_ruleZero 8 = .ok (.aload_n 0, 1) := by decide +kernel
theorem dX12_ruleZero_9 : decode cX12_ruleZero 9 = .ok (.getfield 67, 3) := by decide +kernel
theorem dX12_ruleZero_12 : decode cX12_ruleZero 12 = .ok (.iconst 0, 1) := by decide +kernel
theorem dX12_ruleZero_13 : decode cX12_ruleZero 13 = .ok (.sipush 10002, 3) := by decide +kernel
theorem dX12_ruleZero_16 : decode cX12_ruleZero 16 = .ok (.iastore, 1) := by decide +kernel
theorem dX12_ruleZero_17 : decode cX12_ruleZero 17 = .ok (.aload_n 0, 1) := by decide +kernel
theorem dX12_ruleZero_18 : decode cX12_ruleZero 18 = .ok (.getfield 67, 3) := by decide +kernel
theorem dX12_ruleZero_21 : decode cX12_ruleZero 21 = .ok (.iconst 1, 1) := by decide +kernel
theorem dX12_ruleZero_22 : decode cX12_ruleZero 22 = .ok (.iconst 0, 1) := by decide +kernel
theorem dX12_ruleZero_23 : decode cX12_ruleZero 23 = .ok (.iastore, 1) := by decide +kernel
theorem dX12_ruleZero_24 : decode cX12_ruleZero 24 = .ok (.aload_n 0, 1) := by decide +kernel
theorem dX12_ruleZero_25 : decode cX12_ruleZero 25 = .ok (.getfield 67, 3) := by decide +kernel
theorem dX12_ruleZero_28 : decode cX12_ruleZero 28 = .ok (.iconst 2, 1) := by decide +kernel
theorem dX12_ruleZero_29 : decode cX12_ruleZero 29 = .ok (.sipush 10000, 3) := by decide +kernel
theorem dX12_ruleZero_32 : decode cX12_ruleZero 32 = .ok (.iastore, 1) := by decide +kernel
theorem dX12_ruleZero_33 : decode cX12_ruleZero 33 = .ok (.aload_n 0, 1) := by decide +kernel
theorem dX12_ruleZero_34 : decode cX12_ruleZero 34 = .ok (.getfield 67, 3) := by decide +kernel
theorem dX12_ruleZero_37 : decode cX12_ruleZero 37 = .ok (.iconst 3, 1) := by decide +kernel
theorem dX12_ruleZero_38 : decode cX12_ruleZero 38 = .ok (.bipush (-4), 2) := by decide +kernel
theorem dX12_ruleZero_40 : decode cX12_ruleZero 40 = .ok (.iastore, 1) := by decide +kernel
theorem dX12_ruleZero_41 : decode cX12_ruleZero 41 = .ok (.aload_n 0, 1) := by decide +kernel
theorem dX12_ruleZero_42 : decode cX12_ruleZero 42 = .ok (.getfield 67, 3) := by decide +kernel
theorem dX12_ruleZero_45 : decode cX12_ruleZero 45 = .ok (.iconst 4, 1) := by decide +kernel
theorem dX12_ruleZero_46 : decode cX12_ruleZero 46 = .ok (.bipush (-2), 2) := by decide +kernel
theorem dX12_ruleZero_48 : decode cX12_ruleZero 48 = .ok (.iastore, 1) := by decide +kernel
theorem dX12_ruleZero_49 : decode cX12_ruleZero 49 = .ok (.aload_n 0, 1) := by decide +kernel
theorem dX12_ruleZero_50 : decode cX12_ruleZero 50 = .ok (.getfield 67, 3) := by decide +kernel
theorem dX12_ruleZero_53 : decode cX12_ruleZero 53 = .ok (.iconst 5, 1) := by decide +kernel
theorem dX12_ruleZero_54 : decode cX12_ruleZero 54 = .ok (.sipush 10001, 3) := by decide +kernel
theorem dX12_ruleZero_57 : decode cX12_ruleZero 57 = .ok (.iastore, 1) := by decide +kernel
theorem dX12_ruleZero_58 : decode cX12_ruleZero 58 = .ok (.aload_n 0, 1) := by decide +kernel
theorem dX12_ruleZero_59 : decode cX12_ruleZero 59 = .ok (.getfield 67, 3) := by decide +kernel
theorem dX12_ruleZero_62 : decode cX12_ruleZero 62 = .ok (.bipush 6, 2) := by decide +kernel
theorem dX12_ruleZero_64 : decode cX12_ruleZero 64 = .ok (.iconst 0, 1) := by decide +kernel
theorem dX12_ruleZero_65 : decode cX12_ruleZero 65 = .ok (.iastore, 1) := by decide +kernel
theorem dX12_ruleZero_66 : decode cX12_ruleZero 66 = .ok (.aload_n 0, 1) := by decide +kernel
theorem dX12_ruleZero_67 : decode cX12_ruleZero 67 = .ok (.getfield 67, 3) := by decide +kernel
theorem dX12_ruleZero_70 : decode cX12_ruleZero 70 = .ok (.bipush 7, 2) := by decide +kernel
theorem dX12_ruleZero_72 : decode cX12_ruleZero 72 = .ok (.bipush (-4), 2) := by decide +kernel
theorem dX12_ruleZero_74 : decode cX12_ruleZero 74 = .ok (.iastore, 1) := by decide +kernel
theorem dX12_ruleZero_75 : decode cX12_ruleZero 75 = .ok (.aload_n 0, 1) := by decide +kernel
theorem dX12_ruleZero_76 : decode cX12_ruleZero 76 = .ok (.getfield 67, 3) := by decide +kernel
theorem dX12_ruleZero_79 : decode cX12_ruleZero 79 = .ok (.bipush 8, 2) := by decide +kernel
theorem dX12_ruleZero_81 : decode cX12_ruleZero 81 = .ok (.iconst (-1), 1) := by decide +kernel
theorem dX12_ruleZero_82 : decode cX12_ruleZero 82 = .ok (.iastore, 1) := by decide +kernel
theorem dX12_ruleZero_83 : decode cX12_ruleZero 83 = .ok (.aload_n 0, 1) := by decide +kernel
theorem dX12_ruleZero_84 : decode cX12_ruleZero 84 = .ok (.getfield 64, 3) := by decide +kernel
theorem dX12_ruleZero_87 : decode cX12_ruleZero 87 = .ok (.iconst 1, 1) := by decide +kernel
theorem dX12_ruleZero_88 : decode cX12_ruleZero 88 = .ok (.iconst 3, 1) := by decide +kernel
theorem dX12_ruleZero_89 : decode cX12_ruleZero 89 = .ok (.iastore, 1) := by decide +kernel
theorem dX12_ruleZero_90 : decode cX12_ruleZero 90 = .ok (.aload_n 0, 1) := by decide +kernel
theorem dX12_ruleZero_91 : decode cX12_ruleZero 91 = .ok (.getfield 67, 3) := by decide +kernel
theorem dX12_ruleZero_94 : decode cX12_ruleZero 94 = .ok (.sipush 160, 3) := by decide +kernel
theorem dX12_ruleZero_97 : decode cX12_ruleZero 97 = .ok (.iconst 0, 1) := by decide +kernel
theorem dX12_ruleZero_98 : decode cX12_ruleZero 98 = .ok (.iastore, 1) := by decide +kernel
theorem dX12_ruleZero_99 : decode cX12_ruleZero 99 = .ok (.aload_n 0, 1) := by decide +kernel
theorem dX12_ruleZero_100 : decode cX12_ruleZero 100 = .ok (.getfield 67, 3) := by decide +kernel
theorem dX12_ruleZero_103 : decode cX12_ruleZero 103 = .ok (.sipush 161, 3) := by decide +kernel
theorem dX12_ruleZero_106 : decode cX12_ruleZero 106 = .ok (.sipush 10005, 3) := by decide +kernel
theorem dX12_ruleZero_109 : decode cX12_ruleZero 109 = .ok (.iastore, 1) := by decide +kernel
theorem dX12_ruleZero_110 : decode cX12_ruleZero 110 = .ok (.aload_n 0, 1) := by decide +kernel
theorem dX12_ruleZero_111 : decode cX12_ruleZero 111 = .ok (.getfield 67, 3) := by decide +kernel
theorem dX12_ruleZero_114 : decode cX12_ruleZero 114 = .ok (.sipush 162, 3) := by decide +kernel
theorem dX12_ruleZero_117 : decode cX12_ruleZero 117 = .ok (.bipush (-4), 2) := by decide +kernel
theorem dX12_ruleZero_119 : decode cX12_ruleZero 119 = .ok (.iastore, 1) := by decide +kernel
theorem dX12_ruleZero_120 : decode cX12_ruleZero 120 = .ok (.return_, 1) := by decide +kernel
theorem dX12_feed_0 : decode cX12_feed 0 = .ok (.aload_n 0, 1) := by decide +kernel
theorem dX12_feed_1 : decode cX12_feed 1 = .ok (.iload_n 1, 1) := by decide +kernel
theorem dX12_feed_2 : decode cX12_feed 2 = .ok (.iconst 1, 1) := by decide +kernel
theorem dX12_feed_3 : decode cX12_feed 3 = .ok (.bipush 8, 2) := by decide +kernel
theorem dX12_feed_5 : decode cX12_feed 5 = .ok (.invokevirtual 218, 3) := by decide +kernel
theorem dX12_feed_8 : decode cX12_feed 8 = .ok (.ifCond .ne 6, 3) := by decide +kernel
theorem dX12_feed_11 : decode cX12_feed 11 = .ok (.bipush (-2), 2) := by decide +kernel
theorem dX12_feed_13 : decode cX12_feed 13 = .ok (.ireturn, 1) := by decide +kernel
theorem dX12_feed_14 : decode cX12_feed 14 = .ok (.aload_n 0, 1) := by decide +kernel
theorem dX12_feed_15 : decode cX12_feed 15 = .ok (.getfield 55, 3) := by decide +kernel
theorem dX12_feed_18 : decode cX12_feed 18 = .ok (.iload_n 1, 1) := by decide +kernel
theorem dX12_feed_19 : decode cX12_feed 19 = .ok (.iadd, 1) := by decide +kernel
theorem dX12_feed_20 : decode cX12_feed 20 = .ok (.sipush 160, 3) := by decide +kernel
theorem dX12_feed_23 : decode cX12_feed 23 = .ok (.if_icmp .le 6, 3) := by decide +kernel
theorem dX12_feed_26 : decode cX12_feed 26 = .ok (.bipush (-4), 2) := by decide +kernel
theorem dX12_feed_28 : decode cX12_feed 28 = .ok (.ireturn, 1) := by decide +kernel
theorem dX12_feed_29 : decode cX12_feed 29 = .ok (.iconst 0, 1) := by decide +kernel
theorem dX12_feed_30 : decode cX12_feed 30 = .ok (.istore 4, 2) := by decide +kernel
theorem dX12_feed_32 : decode cX12_feed 32 = .ok (.iload 4, 2) := by decide +kernel
theorem dX12_feed_34 : decode cX12_feed 34 = .ok (.iload_n 1, 1) := by decide +kernel
theorem dX12_feed_35 : decode cX12_feed 35 = .ok (.if_icmp .ge 37, 3) := by decide +kernel
theorem dX12_feed_38 : decode cX12_feed 38 = .ok (.aload_n 0, 1) := by decide +kernel
theorem dX12_feed_39 : decode cX12_feed 39 = .ok (.getfield 51, 3) := by decide +kernel
theorem dX12_feed_42 : decode cX12_feed 42 = .ok (.aload_n 0, 1) := by decide +kernel
theorem dX12_feed_43 : decode cX12_feed 43 = .ok (.getfield 55, 3) := by decide +kernel
theorem dX12_feed_46 : decode cX12_feed 46 = .ok (.lload_n 2, 1) := by decide +kernel
theorem dX12_feed_47 : decode cX12_feed 47 = .ok (.bipush 8, 2) := by decide +kernel
theorem dX12_feed_49 : decode cX12_feed 49 = .ok (.iload 4, 2) := by decide +kernel
theorem dX12_feed_51 : decode cX12_feed 51 = .ok (.imul, 1) := by decide +kernel
theorem dX12_feed_52 : decode cX12_feed 52 = .ok (.lshr, 1) := by decide +kernel
theorem dX12_feed_53 : decode cX12_feed 53 = .ok (.l2i, 1) := by decide +kernel
theorem dX12_feed_54 : decode cX12_feed 54 = .ok (.i2b, 1) := by decide +kernel
theorem dX12_feed_55 : decode cX12_feed 55 = .ok (.bastore, 1) := by decide +kernel
theorem dX12_feed_56 : decode cX12_feed 56 = .ok (.aload_n 0, 1) := by decide +kernel
theorem dX12_feed_57 : decode cX12_feed 57 = .ok (.dup, 1) := by decide +kernel
theorem dX12_feed_58 : decode cX12_feed 58 = .ok (.getfield 55, 3) := by decide +kernel
theorem dX12_feed_61 : decode cX12_feed 61 = .ok (.iconst 1, 1) := by decide +kernel
theorem dX12_feed_62 : decode cX12_feed 62 = .ok (.iadd, 1) := by decide +kernel
theorem dX12_feed_63 : decode cX12_feed 63 = .ok (.putfield 55, 3) := by decide +kernel
theorem dX12_feed_66 : decode cX12_feed 66 = .ok (.iinc 4 1, 3) := by decide +kernel
theorem dX12_feed_69 : decode cX12_feed 69 = .ok (.goto (-37), 3) := by decide +kernel
theorem dX12_feed_72 : decode cX12_feed 72 = .ok (.aload_n 0, 1) := by decide +kernel
theorem dX12_feed_73 : decode cX12_feed 73 = .ok (.getfield 55, 3) := by decide +kernel
theorem dX12_feed_76 : decode cX12_feed 76 = .ok (.ireturn, 1) := by decide +kernel
theorem dX12_isLetter_0 : decode cX12_isLetter 0 = .ok (.iload_n 1, 1) := by decide +kernel
theorem dX12_isLetter_1 : decode cX12_isLetter 1 = .ok (.bipush 97, 2) := by decide +kernel
theorem dX12_isLetter_3 : decode cX12_isLetter 3 = .ok (.if_icmp .lt 13, 3) := by decide +kernel
theorem dX12_isLetter_6 : decode cX12_isLetter 6 = .ok (.iload_n 1, 1) := by decide +kernel
theorem dX12_isLetter_7 : decode cX12_isLetter 7 = .ok (.bipush 122, 2) := by decide +kernel
theorem dX12_isLetter_9 : decode cX12_isLetter 9 = .ok (.if_icmp .gt 7, 3) := by decide +kernel
theorem dX12_isLetter_12 : decode cX12_isLetter 12 = .ok (.iconst 1, 1) := by decide +kernel
theorem dX12_isLetter_13 : decode cX12_isLetter 13 = .ok (.goto 4, 3) := by decide +kernel
theorem dX12_isLetter_16 : decode cX12_isLetter 16 = .ok (.iconst 0, 1) := by decide +kernel
theorem dX12_isLetter_17 : decode cX12_isLetter 17 = .ok (.ireturn, 1) := by decide +kernel
theorem dX12_isDigit_0 : decode cX12_isDigit 0 = .ok (.iload_n 1, 1) := by decide +kernel
theorem dX12_isDigit_1 : decode cX12_isDigit 1 = .ok (.bipush 48, 2) := by decide +kernel
theorem dX12_isDigit_3 : decode cX12_isDigit 3 = .ok (.if_icmp .lt 13, 3) := by decide +kernel
theorem dX12_isDigit_6 : decode cX12_isDigit 6 = .ok (.iload_n 1, 1) := by decide +kernel
theorem dX12_isDigit_7 : decode cX12_isDigit 7 = .ok (.bipush 57, 2) := by decide +kernel
theorem dX12_isDigit_9 : decode cX12_isDigit 9 = .ok (.if_icmp .gt 7, 3) := by decide +kernel
theorem dX12_isDigit_12 : decode cX12_isDigit 12 = .ok (.iconst 1, 1) := by decide +kernel
theorem dX12_isDigit_13 : decode cX12_isDigit 13 = .ok (.goto 4, 3) := by decide +kernel
theorem dX12_isDigit_16 : decode cX12_isDigit 16 = .ok (.iconst 0, 1) := by decide +kernel
theorem dX12_isDigit_17 : decode cX12_isDigit 17 = .ok (.ireturn, 1) := by decide +kernel
theorem dX12_isWord_0 : decode cX12_isWord 0 = .ok (.lload_n 1, 1) := by decide +kernel
theorem dX12_isWord_1 : decode cX12_isWord 1 = .ok (.lstore_n 3, 1) := by decide +kernel
theorem dX12_isWord_2 : decode cX12_isWord 2 = .ok (.aload_n 0, 1) := by decide +kernel
theorem dX12_isWord_3 : decode cX12_isWord 3 = .ok (.getfield 70, 3) := by decide +kernel
theorem dX12_isWord_6 : decode cX12_isWord 6 = .ok (.iconst 1, 1) := by decide +kernel
theorem dX12_isWord_7 : decode cX12_isWord 7 = .ok (.isub, 1) := by decide +kernel
theorem dX12_isWord_8 : decode cX12_isWord 8 = .ok (.istore 5, 2) := by decide +kernel
theorem dX12_isWord_10 : decode cX12_isWord 10 = .ok (.iload 5, 2) := by decide +kernel
theorem dX12_isWord_12 : decode cX12_isWord 12 = .ok (.aload_n 0, 1) := by decide +kernel
theorem dX12_isWord_13 : decode cX12_isWord 13 = .ok (.getfield 79, 3) := by decide +kernel
theorem dX12_isWord_16 : decode cX12_isWord 16 = .ok (.if_icmp .lt 39, 3) := by decide +kernel
theorem dX12_isWord_19 : decode cX12_isWord 19 = .ok (.lload_n 3, 1) := by decide +kernel
theorem dX12_isWord_20 : decode cX12_isWord 20 = .ok (.lconst 0, 1) := by decide +kernel
theorem dX12_isWord_21 : decode cX12_isWord 21 = .ok (.lcmp, 1) := by decide +kernel
theorem dX12_isWord_22 : decode cX12_isWord 22 = .ok (.ifCond .le 33, 3) := by decide +kernel
theorem dX12_isWord_25 : decode cX12_isWord 25 = .ok (.lload_n 3, 1) := by decide +kernel
theorem dX12_isWord_26 : decode cX12_isWord 26 = .ok (.ldc2_w 279, 3) := by decide +kernel
theorem dX12_isWord_29 : decode cX12_isWord 29 = .ok (.land, 1) := by decide +kernel
theorem dX12_isWord_30 : decode cX12_isWord 30 = .ok (.aload_n 0, 1) := by decide +kernel
theorem dX12_isWord_31 : decode cX12_isWord 31 = .ok (.getfield 51, 3) := by decide +kernel
theorem dX12_isWord_34 : decode cX12_isWord 34 = .ok (.iload 5, 2) := by decide +kernel
theorem dX12_isWord_36 : decode cX12_isWord 36 = .ok (.baload, 1) := by decide +kernel
theorem dX12_isWord_37 : decode cX12_isWord 37 = .ok (.bipush 96, 2) := by decide +kernel
theorem dX12_isWord_39 : decode cX12_isWord 39 = .ok (.isub, 1) := by decide +kernel
theorem dX12_isWord_40 : decode cX12_isWord 40 = .ok (.i2l, 1) := by decide +kernel
theorem dX12_isWord_41 : decode cX12_isWord 41 = .ok (.lcmp, 1) := by decide +kernel
theorem dX12_isWord_42 : decode cX12_isWord 42 = .ok (.ifCond .ne 13, 3) := by decide +kernel
theorem dX12_isWord_45 : decode cX12_isWord 45 = .ok (.lload_n 3, 1) := by decide +kernel
theorem dX12_isWord_46 : decode cX12_isWord 46 = .ok (.iconst 5, 1) := by decide +kernel
theorem dX12_isWord_47 : decode cX12_isWord 47 = .ok (.lshr, 1) := by decide +kernel
theorem dX12_isWord_48 : decode cX12_isWord 48 = .ok (.lstore_n 3, 1) := by decide +kernel
theorem dX12_isWord_49 : decode cX12_isWord 49 = .ok (.iinc 5 (-1), 3) := by decide +kernel
theorem dX12_isWord_52 : decode cX12_isWord 52 = .ok (.goto (-42), 3) := by decide +kernel
theorem dX12_isWord_55 : decode cX12_isWord 55 = .ok (.lload_n 3, 1) := by decide +kernel
theorem dX12_isWord_56 : decode cX12_isWord 56 = .ok (.lconst 0, 1) := by decide +kernel
theorem dX12_isWord_57 : decode cX12_isWord 57 = .ok (.lcmp, 1) := by decide +kernel
theorem dX12_isWord_58 : decode cX12_isWord 58 = .ok (.ifCond .ne 18, 3) := by decide +kernel
theorem dX12_isWord_61 : decode cX12_isWord 61 = .ok (.iload 5, 2) := by decide +kernel
theorem dX12_isWord_63 : decode cX12_isWord 63 = .ok (.aload_n 0, 1) := by decide +kernel
theorem dX12_isWord_64 : decode cX12_isWord 64 = .ok (.getfield 79, 3) := by decide +kernel
theorem dX12_isWord_67 : decode cX12_isWord 67 = .ok (.iconst 1, 1) := by decide +kernel
theorem dX12_isWord_68 : decode cX12_isWord 68 = .ok (.isub, 1) := by decide +kernel
theorem dX12_isWord_69 : decode cX12_isWord 69 = .ok (.if_icmp .ne 7, 3) := by decide +kernel
theorem dX12_isWord_72 : decode cX12_isWord 72 = .ok (.iconst 1, 1) := by decide +kernel
theorem dX12_isWord_73 : decode cX12_isWord 73 = .ok (.goto 4, 3) := by decide +kernel
theorem dX12_isWord_76 : decode cX12_isWord 76 = .ok (.iconst 0, 1) := by decide +kernel
theorem dX12_isWord_77 : decode cX12_isWord 77 = .ok (.ireturn, 1) := by decide +kernel
theorem dX12_wordToken_0 : decode cX12_wordToken 0 = .ok (.aload_n 0, 1) := by decide +kernel
theorem dX12_wordToken_1 : decode cX12_wordToken 1 = .ok (.getfield 70, 3) := by decide +kernel
theorem dX12_wordToken_4 : decode cX12_wordToken 4 = .ok (.aload_n 0, 1) := by decide +kernel
theorem dX12_wordToken_5 : decode cX12_wordToken 5 = .ok (.getfield 55, 3) := by decide +kernel
theorem dX12_wordToken_8 : decode cX12_wordToken 8 = .ok (.if_icmp .ge 32, 3) := by decide +kernel
theorem dX12_wordToken_11 : decode cX12_wordToken 11 = .ok (.aload_n 0, 1) := by decide +kernel
theorem dX12_wordToken_12 : decode cX12_wordToken 12 = .ok (.aload_n 0, 1) := by decide +kernel
theorem dX12_wordToken_13 : decode cX12_wordToken 13 = .ok (.getfield 51, 3) := by decide +kernel
theorem dX12_wordToken_16 : decode cX12_wordToken 16 = .ok (.aload_n 0, 1) := by decide +kernel
theorem dX12_wordToken_17 : decode cX12_wordToken 17 = .ok (.getfield 70, 3) := by decide +kernel
theorem dX12_wordToken_20 : decode cX12_wordToken 20 = .ok (.baload, 1) := by decide +kernel
theorem dX12_wordToken_21 : decode cX12_wordToken 21 = .ok (.invokevirtual 281, 3) := by decide +kernel
theorem dX12_wordToken_24 : decode cX12_wordToken 24 = .ok (.ifCond .eq 16, 3) := by decide +kernel
theorem dX12_wordToken_27 : decode cX12_wordToken 27 = .ok (.aload_n 0, 1) := by decide +kernel
theorem dX12_wordToken_28 : decode cX12_wordToken 28 = .ok (.dup, 1) := by decide +kernel
theorem dX12_wordToken_29 : decode cX12_wordToken 29 = .ok (.getfield 70, 3) := by decide +kernel
theorem dX12_wordToken_32 : decode cX12_wordToken 32 = .ok (.iconst 1, 1) := by decide +kernel
theorem dX12_wordToken_33 : decode cX12_wordToken 33 = .ok (.iadd, 1) := by decide +kernel
theorem dX12_wordToken_34 : decode cX12_wordToken 34 = .ok (.putfield 70, 3) := by decide +kernel
theorem dX12_wordToken_37 : decode cX12_wordToken 37 = .ok (.goto (-37), 3) := by decide +kernel
theorem dX12_wordToken_40 : decode cX12_wordToken 40 = .ok (.aload_n 0, 1) := by decide +kernel
theorem dX12_wordToken_41 : decode cX12_wordToken 41 = .ok (.iconst 2, 1) := by decide +kernel
theorem dX12_wordToken_42 : decode cX12_wordToken 42 = .ok (.putfield 73, 3) := by decide +kernel
theorem dX12_wordToken_45 : decode cX12_wordToken 45 = .ok (.aload_n 0, 1) := by decide +kernel
theorem dX12_wordToken_46 : decode cX12_wordToken 46 = .ok (.aload_n 0, 1) := by decide +kernel
theorem dX12_wordToken_47 : decode cX12_wordToken 47 = .ok (.ldc2_w 284, 3) := by decide +kernel
theorem dX12_wordToken_50 : decode cX12_wordToken 50 = .ok (.invokevirtual 286, 3) := by decide +kernel
theorem dX12_wordToken_53 : decode cX12_wordToken 53 = .ok (.ifCond .eq 7, 3) := by decide +kernel
theorem dX12_wordToken_56 : decode cX12_wordToken 56 = .ok (.iconst 0, 1) := by decide +kernel
theorem dX12_wordToken_57 : decode cX12_wordToken 57 = .ok (.goto 74, 3) := by decide +kernel
theorem dX12_wordToken_60 : decode cX12_wordToken 60 = .ok (.aload_n 0, 1) := by decide +kernel
theorem dX12_wordToken_61 : decode cX12_wordToken 61 = .ok (.ldc2_w 290, 3) := by decide +kernel
theorem dX12_wordToken_64 : decode cX12_wordToken 64 = .ok (.invokevirtual 286, 3) := by decide +kernel
theorem dX12_wordToken_67 : decode cX12_wordToken 67 = .ok (.ifCond .eq 7, 3) := by decide +kernel
theorem dX12_wordToken_70 : decode cX12_wordToken 70 = .ok (.iconst 1, 1) := by decide +kernel
theorem dX12_wordToken_71 : decode cX12_wordToken 71 = .ok (.goto 60, 3) := by decide +kernel
theorem dX12_wordToken_74 : decode cX12_wordToken 74 = .ok (.aload_n 0, 1) := by decide +kernel
theorem dX12_wordToken_75 : decode cX12_wordToken 75 = .ok (.ldc2_w 292, 3) := by decide +kernel
theorem dX12_wordToken_78 : decode cX12_wordToken 78 = .ok (.invokevirtual 286, 3) := by decide +kernel
theorem dX12_wordToken_81 : decode cX12_wordToken 81 = .ok (.ifCond .eq 7, 3) := by decide +kernel
theorem dX12_wordToken_84 : decode cX12_wordToken 84 = .ok (.iconst 2, 1) := by decide +kernel
theorem dX12_wordToken_85 : decode cX12_wordToken 85 = .ok (.goto 46, 3) := by decide +kernel
theorem dX12_wordToken_88 : decode cX12_wordToken 88 = .ok (.aload_n 0, 1) := by decide +kernel
theorem dX12_wordToken_89 : decode cX12_wordToken 89 = .ok (.ldc2_w 294, 3) := by decide +kernel
theorem dX12_wordToken_92 : decode cX12_wordToken 92 = .ok (.invokevirtual 286, 3) := by decide +kernel
theorem dX12_wordToken_95 : decode cX12_wordToken 95 = .ok (.ifCond .eq 7, 3) := by decide +kernel
theorem dX12_wordToken_98 : decode cX12_wordToken 98 = .ok (.iconst 3, 1) := by decide +kernel
theorem dX12_wordToken_99 : decode cX12_wordToken 99 = .ok (.goto 32, 3) := by decide +kernel
theorem dX12_wordToken_102 : decode cX12_wordToken 102 = .ok (.aload_n 0, 1) := by decide +kernel
theorem dX12_wordToken_103 : decode cX12_wordToken 103 = .ok (.ldc2_w 296, 3) := by decide +kernel
theorem dX12_wordToken_106 : decode cX12_wordToken 106 = .ok (.invokevirtual 286, 3) := by decide +kernel
theorem dX12_wordToken_109 : decode cX12_wordToken 109 = .ok (.ifCond .eq 7, 3) := by decide +kernel
theorem dX12_wordToken_112 : decode cX12_wordToken 112 = .ok (.iconst 4, 1) := by decide +kernel
theorem dX12_wordToken_113 : decode cX12_wordToken 113 = .ok (.goto 18, 3) := by decide +kernel
theorem dX12_wordToken_116 : decode cX12_wordToken 116 = .ok (.aload_n 0, 1) := by decide +kernel
theorem dX12_wordToken_117 : decode cX12_wordToken 117 = .ok (.ldc2_w 298, 3) := by decide +kernel
theorem dX12_wordToken_120 : decode cX12_wordToken 120 = .ok (.invokevirtual 286, 3) := by decide +kernel
theorem dX12_wordToken_123 : decode cX12_wordToken 123 = .ok (.ifCond .eq 7, 3) := by decide +kernel
theorem dX12_wordToken_126 : decode cX12_wordToken 126 = .ok (.iconst 5, 1) := by decide +kernel
theorem dX12_wordToken_127 : decode cX12_wordToken 127 = .ok (.goto 4, 3) := by decide +kernel
theorem dX12_wordToken_130 : decode cX12_wordToken 130 = .ok (.iconst (-1), 1) := by decide +kernel
theorem dX12_wordToken_131 : decode cX12_wordToken 131 = .ok (.putfield 76, 3) := by decide +kernel
theorem dX12_wordToken_134 : decode cX12_wordToken 134 = .ok (.aload_n 0, 1) := by decide +kernel
theorem dX12_wordToken_135 : decode cX12_wordToken 135 = .ok (.getfield 76, 3) := by decide +kernel
theorem dX12_wordToken_138 : decode cX12_wordToken 138 = .ok (.ifCond .lt 4, 3) := by decide +kernel
theorem dX12_wordToken_141 : decode cX12_wordToken 141 = .ok (.return_, 1) := by decide +kernel
theorem dX12_wordToken_142 : decode cX12_wordToken 142 = .ok (.aload_n 0, 1) := by decide +kernel
theorem dX12_wordToken_143 : decode cX12_wordToken 143 = .ok (.iconst 3, 1) := by decide +kernel
theorem dX12_wordToken_144 : decode cX12_wordToken 144 = .ok (.putfield 73, 3) := by decide +kernel
theorem dX12_wordToken_147 : decode cX12_wordToken 147 = .ok (.aload_n 0, 1) := by decide +kernel
theorem dX12_wordToken_148 : decode cX12_wordToken 148 = .ok (.aload_n 0, 1) := by decide +kernel
theorem dX12_wordToken_149 : decode cX12_wordToken 149 = .ok (.ldc2_w 300, 3) := by decide +kernel
theorem dX12_wordToken_152 : decode cX12_wordToken 152 = .ok (.invokevirtual 286, 3) := by decide +kernel
theorem dX12_wordToken_155 : decode cX12_wordToken 155 = .ok (.ifCond .eq 7, 3) := by decide +kernel
theorem dX12_wordToken_158 : decode cX12_wordToken 158 = .ok (.iconst 0, 1) := by decide +kernel
theorem dX12_wordToken_159 : decode cX12_wordToken 159 = .ok (.goto 60, 3) := by decide +kernel
theorem dX12_wordToken_162 : decode cX12_wordToken 162 = .ok (.aload_n 0, 1) := by decide +kernel
theorem dX12_wordToken_163 : decode cX12_wordToken 163 = .ok (.ldc2_w 302, 3) := by decide +kernel
theorem dX12_wordToken_166 : decode cX12_wordToken 166 = .ok (.invokevirtual 286, 3) := by decide +kernel
theorem dX12_wordToken_169 : decode cX12_wordToken 169 = .ok (.ifCond .eq 7, 3) := by decide +kernel
theorem dX12_wordToken_172 : decode cX12_wordToken 172 = .ok (.iconst 1, 1) := by decide +kernel
theorem dX12_wordToken_173 : decode cX12_wordToken 173 = .ok (.goto 46, 3) := by decide +kernel
theorem dX12_wordToken_176 : decode cX12_wordToken 176 = .ok (.aload_n 0, 1) := by decide +kernel
theorem dX12_wordToken_177 : decode cX12_wordToken 177 = .ok (.ldc2_w 304, 3) := by decide +kernel
theorem dX12_wordToken_180 : decode cX12_wordToken 180 = .ok (.invokevirtual 286, 3) := by decide +kernel
theorem dX12_wordToken_183 : decode cX12_wordToken 183 = .ok (.ifCond .eq 7, 3) := by decide +kernel
theorem dX12_wordToken_186 : decode cX12_wordToken 186 = .ok (.iconst 2, 1) := by decide +kernel
theorem dX12_wordToken_187 : decode cX12_wordToken 187 = .ok (.goto 32, 3) := by decide +kernel
theorem dX12_wordToken_190 : decode cX12_wordToken 190 = .ok (.aload_n 0, 1) := by decide +kernel
theorem dX12_wordToken_191 : decode cX12_wordToken 191 = .ok (.ldc2_w 306, 3) := by decide +kernel
theorem dX12_wordToken_194 : decode cX12_wordToken 194 = .ok (.invokevirtual 286, 3) := by decide +kernel
theorem dX12_wordToken_197 : decode cX12_wordToken 197 = .ok (.ifCond .eq 7, 3) := by decide +kernel
theorem dX12_wordToken_200 : decode cX12_wordToken 200 = .ok (.iconst 3, 1) := by decide +kernel
theorem dX12_wordToken_201 : decode cX12_wordToken 201 = .ok (.goto 18, 3) := by decide +kernel
theorem dX12_wordToken_204 : decode cX12_wordToken 204 = .ok (.aload_n 0, 1) := by decide +kernel
theorem dX12_wordToken_205 : decode cX12_wordToken 205 = .ok (.ldc2_w 308, 3) := by decide +kernel
theorem dX12_wordToken_208 : decode cX12_wordToken 208 = .ok (.invokevirtual 286, 3) := by decide +kernel
theorem dX12_wordToken_211 : decode cX12_wordToken 211 = .ok (.ifCond .eq 7, 3) := by decide +kernel
theorem dX12_wordToken_214 : decode cX12_wordToken 214 = .ok (.iconst 4, 1) := by decide +kernel
theorem dX12_wordToken_215 : decode cX12_wordToken 215 = .ok (.goto 4, 3) := by decide +kernel
theorem dX12_wordToken_218 : decode cX12_wordToken 218 = .ok (.iconst (-1), 1) := by decide +kernel
theorem dX12_wordToken_219 : decode cX12_wordToken 219 = .ok (.putfield 76, 3) := by decide +kernel
theorem dX12_wordToken_222 : decode cX12_wordToken 222 = .ok (.aload_n 0, 1) := by decide +kernel
theorem dX12_wordToken_223 : decode cX12_wordToken 223 = .ok (.getfield 76, 3) := by decide +kernel
theorem dX12_wordToken_226 : decode cX12_wordToken 226 = .ok (.ifCond .ge 8, 3) := by decide +kernel
theorem dX12_wordToken_229 : decode cX12_wordToken 229 = .ok (.aload_n 0, 1) := by decide +kernel
theorem dX12_wordToken_230 : decode cX12_wordToken 230 = .ok (.iconst 5, 1) := by decide +kernel
theorem dX12_wordToken_231 : decode cX12_wordToken 231 = .ok (.putfield 73, 3) := by decide +kernel
theorem dX12_wordToken_234 : decode cX12_wordToken 234 = .ok (.return_, 1) := by decide +kernel
theorem dX12_next_0 : decode cX12_next 0 = .ok (.aload_n 0, 1) := by decide +kernel
theorem dX12_next_1 : decode cX12_next 1 = .ok (.getfield 70, 3) := by decide +kernel
theorem dX12_next_4 : decode cX12_next 4 = .ok (.aload_n 0, 1) := by decide +kernel
theorem dX12_next_5 : decode cX12_next 5 = .ok (.getfield 55, 3) := by decide +kernel
theorem dX12_next_8 : decode cX12_next 8 = .ok (.if_icmp .ge 44, 3) := by decide +kernel
theorem dX12_next_11 : decode cX12_next 11 = .ok (.aload_n 0, 1) := by decide +kernel
theorem dX12_next_12 : decode cX12_next 12 = .ok (.getfield 51, 3) := by decide +kernel
theorem dX12_next_15 : decode cX12_next 15 = .ok (.aload_n 0, 1) := by decide +kernel
theorem dX12_next_16 : decode cX12_next 16 = .ok (.getfield 70, 3) := by decide +kernel
theorem dX12_next_19 : decode cX12_next 19 = .ok (.baload, 1) := by decide +kernel
theorem dX12_next_20 : decode cX12_next 20 = .ok (.bipush 32, 2) := by decide +kernel
theorem dX12_next_22 : decode cX12_next 22 = .ok (.if_icmp .eq 17, 3) := by decide +kernel
theorem dX12_next_25 : decode cX12_next 25 = .ok (.aload_n 0, 1) := by decide +kernel
theorem dX12_next_26 : decode cX12_next 26 = .ok (.getfield 51, 3) := by decide +kernel
theorem dX12_next_29 : decode cX12_next 29 = .ok (.aload_n 0, 1) := by decide +kernel
theorem dX12_next_30 : decode cX12_next 30 = .ok (.getfield 70, 3) := by decide +kernel
theorem dX12_next_33 : decode cX12_next 33 = .ok (.baload, 1) := by decide +kernel
theorem dX12_next_34 : decode cX12_next 34 = .ok (.bipush 10, 2) := by decide +kernel
theorem dX12_next_36 : decode cX12_next 36 = .ok (.if_icmp .ne 16, 3) := by decide +kernel
theorem dX12_next_39 : decode cX12_next 39 = .ok (.aload_n 0, 1) := by decide +kernel
theorem dX12_next_40 : decode cX12_next 40 = .ok (.dup, 1) := by decide +kernel
theorem dX12_next_41 : decode cX12_next 41 = .ok (.getfield 70, 3) := by decide +kernel
theorem dX12_next_44 : decode cX12_next 44 = .ok (.iconst 1, 1) := by decide +kernel
theorem dX12_next_45 : decode cX12_next 45 = .ok (.iadd, 1) := by decide +kernel
theorem dX12_next_46 : decode cX12_next 46 = .ok (.putfield 70, 3) := by decide +kernel
theorem dX12_next_49 : decode cX12_next 49 = .ok (.goto (-49), 3) := by decide +kernel
theorem dX12_next_52 : decode cX12_next 52 = .ok (.aload_n 0, 1) := by decide +kernel
theorem dX12_next_53 : decode cX12_next 53 = .ok (.aload_n 0, 1) := by decide +kernel
theorem dX12_next_54 : decode cX12_next 54 = .ok (.getfield 70, 3) := by decide +kernel
theorem dX12_next_57 : decode cX12_next 57 = .ok (.putfield 79, 3) := by decide +kernel
theorem dX12_next_60 : decode cX12_next 60 = .ok (.aload_n 0, 1) := by decide +kernel
theorem dX12_next_61 : decode cX12_next 61 = .ok (.iconst 0, 1) := by decide +kernel
theorem dX12_next_62 : decode cX12_next 62 = .ok (.putfield 73, 3) := by decide +kernel
theorem dX12_next_65 : decode cX12_next 65 = .ok (.aload_n 0, 1) := by decide +kernel
theorem dX12_next_66 : decode cX12_next 66 = .ok (.getfield 70, 3) := by decide +kernel
theorem dX12_next_69 : decode cX12_next 69 = .ok (.aload_n 0, 1) := by decide +kernel
theorem dX12_next_70 : decode cX12_next 70 = .ok (.getfield 55, 3) := by decide +kernel
theorem dX12_next_73 : decode cX12_next 73 = .ok (.if_icmp .ne 4, 3) := by decide +kernel
theorem dX12_next_76 : decode cX12_next 76 = .ok (.return_, 1) := by decide +kernel
theorem dX12_next_77 : decode cX12_next 77 = .ok (.aload_n 0, 1) := by decide +kernel
theorem dX12_next_78 : decode cX12_next 78 = .ok (.getfield 51, 3) := by decide +kernel
theorem dX12_next_81 : decode cX12_next 81 = .ok (.aload_n 0, 1) := by decide +kernel
theorem dX12_next_82 : decode cX12_next 82 = .ok (.getfield 70, 3) := by decide +kernel
theorem dX12_next_85 : decode cX12_next 85 = .ok (.baload, 1) := by decide +kernel
theorem dX12_next_86 : decode cX12_next 86 = .ok (.istore_n 1, 1) := by decide +kernel
theorem dX12_next_87 : decode cX12_next 87 = .ok (.aload_n 0, 1) := by decide +kernel
theorem dX12_next_88 : decode cX12_next 88 = .ok (.iload_n 1, 1) := by decide +kernel
theorem dX12_next_89 : decode cX12_next 89 = .ok (.invokevirtual 281, 3) := by decide +kernel
theorem dX12_next_92 : decode cX12_next 92 = .ok (.ifCond .eq 8, 3) := by decide +kernel
theorem dX12_next_95 : decode cX12_next 95 = .ok (.aload_n 0, 1) := by decide +kernel
theorem dX12_next_96 : decode cX12_next 96 = .ok (.invokevirtual 310, 3) := by decide +kernel
theorem dX12_next_99 : decode cX12_next 99 = .ok (.return_, 1) := by decide +kernel
theorem dX12_next_100 : decode cX12_next 100 = .ok (.aload_n 0, 1) := by decide +kernel
theorem dX12_next_101 : decode cX12_next 101 = .ok (.iload_n 1, 1) := by decide +kernel
theorem dX12_next_102 : decode cX12_next 102 = .ok (.invokevirtual 313, 3) := by decide +kernel
theorem dX12_next_105 : decode cX12_next 105 = .ok (.ifCond .eq 115, 3) := by decide +kernel
theorem dX12_next_108 : decode cX12_next 108 = .ok (.aload_n 0, 1) := by decide +kernel
theorem dX12_next_109 : decode cX12_next 109 = .ok (.iconst 0, 1) := by decide +kernel
theorem dX12_next_110 : decode cX12_next 110 = .ok (.putfield 76, 3) := by decide +kernel
theorem dX12_next_113 : decode cX12_next 113 = .ok (.aload_n 0, 1) := by decide +kernel
theorem dX12_next_114 : decode cX12_next 114 = .ok (.getfield 70, 3) := by decide +kernel
theorem dX12_next_117 : decode cX12_next 117 = .ok (.aload_n 0, 1) := by decide +kernel
theorem dX12_next_118 : decode cX12_next 118 = .ok (.getfield 55, 3) := by decide +kernel
theorem dX12_next_121 : decode cX12_next 121 = .ok (.if_icmp .ge 76, 3) := by decide +kernel
theorem dX12_next_124 : decode cX12_next 124 = .ok (.aload_n 0, 1) := by decide +kernel
theorem dX12_next_125 : decode cX12_next 125 = .ok (.aload_n 0, 1) := by decide +kernel
theorem dX12_next_126 : decode cX12_next 126 = .ok (.getfield 51, 3) := by decide +kernel
theorem dX12_next_129 : decode cX12_next 129 = .ok (.aload_n 0, 1) := by decide +kernel
theorem dX12_next_130 : decode cX12_next 130 = .ok (.getfield 70, 3) := by decide +kernel
theorem dX12_next_133 : decode cX12_next 133 = .ok (.baload, 1) := by decide +kernel
theorem dX12_next_134 : decode cX12_next 134 = .ok (.invokevirtual 313, 3) := by decide +kernel
theorem dX12_next_137 : decode cX12_next 137 = .ok (.ifCond .eq 60, 3) := by decide +kernel
theorem dX12_next_140 : decode cX12_next 140 = .ok (.aload_n 0, 1) := by decide +kernel
theorem dX12_next_141 : decode cX12_next 141 = .ok (.aload_n 0, 1) := by decide +kernel
theorem dX12_next_142 : decode cX12_next 142 = .ok (.getfield 70, 3) := by decide +kernel
theorem dX12_next_145 : decode cX12_next 145 = .ok (.aload_n 0, 1) := by decide +kernel
theorem dX12_next_146 : decode cX12_next 146 = .ok (.getfield 79, 3) := by decide +kernel
theorem dX12_next_149 : decode cX12_next 149 = .ok (.isub, 1) := by decide +kernel
theorem dX12_next_150 : decode cX12_next 150 = .ok (.iconst 4, 1) := by decide +kernel
theorem dX12_next_151 : decode cX12_next 151 = .ok (.if_icmp .ge 26, 3) := by decide +kernel
theorem dX12_next_154 : decode cX12_next 154 = .ok (.bipush 10, 2) := by decide +kernel
theorem dX12_next_156 : decode cX12_next 156 = .ok (.aload_n 0, 1) := by decide +kernel
theorem dX12_next_157 : decode cX12_next 157 = .ok (.getfield 76, 3) := by decide +kernel
theorem dX12_next_160 : decode cX12_next 160 = .ok (.imul, 1) := by decide +kernel
theorem dX12_next_161 : decode cX12_next 161 = .ok (.aload_n 0, 1) := by decide +kernel
theorem dX12_next_162 : decode cX12_next 162 = .ok (.getfield 51, 3) := by decide +kernel
theorem dX12_next_165 : decode cX12_next 165 = .ok (.aload_n 0, 1) := by decide +kernel
theorem dX12_next_166 : decode cX12_next 166 = .ok (.getfield 70, 3) := by decide +kernel
theorem dX12_next_169 : decode cX12_next 169 = .ok (.baload, 1) := by decide +kernel
theorem dX12_next_170 : decode cX12_next 170 = .ok (.iadd, 1) := by decide +kernel
theorem dX12_next_171 : decode cX12_next 171 = .ok (.bipush 48, 2) := by decide +kernel
theorem dX12_next_173 : decode cX12_next 173 = .ok (.isub, 1) := by decide +kernel
theorem dX12_next_174 : decode cX12_next 174 = .ok (.goto 7, 3) := by decide +kernel
theorem dX12_next_177 : decode cX12_next 177 = .ok (.aload_n 0, 1) := by decide +kernel
theorem dX12_next_178 : decode cX12_next 178 = .ok (.getfield 76, 3) := by decide +kernel
theorem dX12_next_181 : decode cX12_next 181 = .ok (.putfield 76, 3) := by decide +kernel
theorem dX12_next_184 : decode cX12_next 184 = .ok (.aload_n 0, 1) := by decide +kernel
theorem dX12_next_185 : decode cX12_next 185 = .ok (.dup, 1) := by decide +kernel
theorem dX12_next_186 : decode cX12_next 186 = .ok (.getfield 70, 3) := by decide +kernel
theorem dX12_next_189 : decode cX12_next 189 = .ok (.iconst 1, 1) := by decide +kernel
theorem dX12_next_190 : decode cX12_next 190 = .ok (.iadd, 1) := by decide +kernel
theorem dX12_next_191 : decode cX12_next 191 = .ok (.putfield 70, 3) := by decide +kernel
theorem dX12_next_194 : decode cX12_next 194 = .ok (.goto (-81), 3) := by decide +kernel
theorem dX12_next_197 : decode cX12_next 197 = .ok (.aload_n 0, 1) := by decide +kernel
theorem dX12_next_198 : decode cX12_next 198 = .ok (.aload_n 0, 1) := by decide +kernel
theorem dX12_next_199 : decode cX12_next 199 = .ok (.getfield 70, 3) := by decide +kernel
theorem dX12_next_202 : decode cX12_next 202 = .ok (.aload_n 0, 1) := by decide +kernel
theorem dX12_next_203 : decode cX12_next 203 = .ok (.getfield 79, 3) := by decide +kernel
theorem dX12_next_206 : decode cX12_next 206 = .ok (.isub, 1) := by decide +kernel
theorem dX12_next_207 : decode cX12_next 207 = .ok (.iconst 4, 1) := by decide +kernel
theorem dX12_next_208 : decode cX12_next 208 = .ok (.if_icmp .le 7, 3) := by decide +kernel
theorem dX12_next_211 : decode cX12_next 211 = .ok (.iconst 5, 1) := by decide +kernel
theorem dX12_next_212 : decode cX12_next 212 = .ok (.goto 4, 3) := by decide +kernel
theorem dX12_next_215 : decode cX12_next 215 = .ok (.iconst 1, 1) := by decide +kernel
theorem dX12_next_216 : decode cX12_next 216 = .ok (.putfield 73, 3) := by decide +kernel
theorem dX12_next_219 : decode cX12_next 219 = .ok (.return_, 1) := by decide +kernel
theorem dX12_next_220 : decode cX12_next 220 = .ok (.aload_n 0, 1) := by decide +kernel
theorem dX12_next_221 : decode cX12_next 221 = .ok (.dup, 1) := by decide +kernel
theorem dX12_next_222 : decode cX12_next 222 = .ok (.getfield 70, 3) := by decide +kernel
theorem dX12_next_225 : decode cX12_next 225 = .ok (.iconst 1, 1) := by decide +kernel
theorem dX12_next_226 : decode cX12_next 226 = .ok (.iadd, 1) := by decide +kernel
theorem dX12_next_227 : decode cX12_next 227 = .ok (.putfield 70, 3) := by decide +kernel
theorem dX12_next_230 : decode cX12_next 230 = .ok (.aload_n 0, 1) := by decide +kernel
theorem dX12_next_231 : decode cX12_next 231 = .ok (.iload_n 1, 1) := by decide +kernel
theorem dX12_next_232 : decode cX12_next 232 = .ok (.putfield 76, 3) := by decide +kernel
theorem dX12_next_235 : decode cX12_next 235 = .ok (.aload_n 0, 1) := by decide +kernel
theorem dX12_next_236 : decode cX12_next 236 = .ok (.iload_n 1, 1) := by decide +kernel
theorem dX12_next_237 : decode cX12_next 237 = .ok (.bipush 40, 2) := by decide +kernel
theorem dX12_next_239 : decode cX12_next 239 = .ok (.if_icmp .eq 45, 3) := by decide +kernel
theorem dX12_next_242 : decode cX12_next 242 = .ok (.iload_n 1, 1) := by decide +kernel
theorem dX12_next_243 : decode cX12_next 243 = .ok (.bipush 41, 2) := by decide +kernel
theorem dX12_next_245 : decode cX12_next 245 = .ok (.if_icmp .eq 39, 3) := by decide +kernel
theorem dX12_next_248 : decode cX12_next 248 = .ok (.iload_n 1, 1) := by decide +kernel
theorem dX12_next_249 : decode cX12_next 249 = .ok (.bipush 59, 2) := by decide +kernel
theorem dX12_next_251 : decode cX12_next 251 = .ok (.if_icmp .eq 33, 3) := by decide +kernel
theorem dX12_next_254 : decode cX12_next 254 = .ok (.iload_n 1, 1) := by decide +kernel
theorem dX12_next_255 : decode cX12_next 255 = .ok (.bipush 43, 2) := by decide +kernel
theorem dX12_next_257 : decode cX12_next 257 = .ok (.if_icmp .eq 27, 3) := by decide +kernel
theorem dX12_next_260 : decode cX12_next 260 = .ok (.iload_n 1, 1) := by decide +kernel
theorem dX12_next_261 : decode cX12_next 261 = .ok (.bipush 45, 2) := by decide +kernel
theorem dX12_next_263 : decode cX12_next 263 = .ok (.if_icmp .eq 21, 3) := by decide +kernel
theorem dX12_next_266 : decode cX12_next 266 = .ok (.iload_n 1, 1) := by decide +kernel
theorem dX12_next_267 : decode cX12_next 267 = .ok (.bipush 42, 2) := by decide +kernel
theorem dX12_next_269 : decode cX12_next 269 = .ok (.if_icmp .eq 15, 3) := by decide +kernel
theorem dX12_next_272 : decode cX12_next 272 = .ok (.iload_n 1, 1) := by decide +kernel
theorem dX12_next_273 : decode cX12_next 273 = .ok (.bipush 60, 2) := by decide +kernel
theorem dX12_next_275 : decode cX12_next 275 = .ok (.if_icmp .eq 9, 3) := by decide +kernel
theorem dX12_next_278 : decode cX12_next 278 = .ok (.iload_n 1, 1) := by decide +kernel
theorem dX12_next_279 : decode cX12_next 279 = .ok (.bipush 61, 2) := by decide +kernel
theorem dX12_next_281 : decode cX12_next 281 = .ok (.if_icmp .ne 7, 3) := by decide +kernel
theorem dX12_next_284 : decode cX12_next 284 = .ok (.iconst 4, 1) := by decide +kernel
theorem dX12_next_285 : decode cX12_next 285 = .ok (.goto 4, 3) := by decide +kernel
theorem dX12_next_288 : decode cX12_next 288 = .ok (.iconst 5, 1) := by decide +kernel
theorem dX12_next_289 : decode cX12_next 289 = .ok (.putfield 73, 3) := by decide +kernel
theorem dX12_next_292 : decode cX12_next 292 = .ok (.return_, 1) := by decide +kernel
theorem dX12_isKey_0 : decode cX12_isKey 0 = .ok (.aload_n 0, 1) := by decide +kernel
theorem dX12_isKey_1 : decode cX12_isKey 1 = .ok (.getfield 73, 3) := by decide +kernel
theorem dX12_isKey_4 : decode cX12_isKey 4 = .ok (.iconst 3, 1) := by decide +kernel
theorem dX12_isKey_5 : decode cX12_isKey 5 = .ok (.if_icmp .ne 15, 3) := by decide +kernel
theorem dX12_isKey_8 : decode cX12_isKey 8 = .ok (.aload_n 0, 1) := by decide +kernel
theorem dX12_isKey_9 : decode cX12_isKey 9 = .ok (.getfield 76, 3) := by decide +kernel
theorem dX12_isKey_12 : decode cX12_isKey 12 = .ok (.iload_n 1, 1) := by decide +kernel
theorem dX12_isKey_13 : decode cX12_isKey 13 = .ok (.if_icmp .ne 7, 3) := by decide +kernel
theorem dX12_isKey_16 : decode cX12_isKey 16 = .ok (.iconst 1, 1) := by decide +kernel
theorem dX12_isKey_17 : decode cX12_isKey 17 = .ok (.goto 4, 3) := by decide +kernel
theorem dX12_isKey_20 : decode cX12_isKey 20 = .ok (.iconst 0, 1) := by decide +kernel
theorem dX12_isKey_21 : decode cX12_isKey 21 = .ok (.ireturn, 1) := by decide +kernel
theorem dX12_isSign_0 : decode cX12_isSign 0 = .ok (.aload_n 0, 1) := by decide +kernel
theorem dX12_isSign_1 : decode cX12_isSign 1 = .ok (.getfield 73, 3) := by decide +kernel
theorem dX12_isSign_4 : decode cX12_isSign 4 = .ok (.iconst 4, 1) := by decide +kernel
theorem dX12_isSign_5 : decode cX12_isSign 5 = .ok (.if_icmp .ne 15, 3) := by decide +kernel
theorem dX12_isSign_8 : decode cX12_isSign 8 = .ok (.aload_n 0, 1) := by decide +kernel
theorem dX12_isSign_9 : decode cX12_isSign 9 = .ok (.getfield 76, 3) := by decide +kernel
theorem dX12_isSign_12 : decode cX12_isSign 12 = .ok (.iload_n 1, 1) := by decide +kernel
theorem dX12_isSign_13 : decode cX12_isSign 13 = .ok (.if_icmp .ne 7, 3) := by decide +kernel
theorem dX12_isSign_16 : decode cX12_isSign 16 = .ok (.iconst 1, 1) := by decide +kernel
theorem dX12_isSign_17 : decode cX12_isSign 17 = .ok (.goto 4, 3) := by decide +kernel
theorem dX12_isSign_20 : decode cX12_isSign 20 = .ok (.iconst 0, 1) := by decide +kernel
theorem dX12_isSign_21 : decode cX12_isSign 21 = .ok (.ireturn, 1) := by decide +kernel
theorem dX12_put_0 : decode cX12_put 0 = .ok (.aload_n 0, 1) := by decide +kernel
theorem dX12_put_1 : decode cX12_put 1 = .ok (.getfield 67, 3) := by decide +kernel
theorem dX12_put_4 : decode cX12_put 4 = .ok (.sipush 160, 3) := by decide +kernel
theorem dX12_put_7 : decode cX12_put 7 = .ok (.aload_n 0, 1) := by decide +kernel
theorem dX12_put_8 : decode cX12_put 8 = .ok (.getfield 97, 3) := by decide +kernel
theorem dX12_put_11 : decode cX12_put 11 = .ok (.imul, 1) := by decide +kernel
theorem dX12_put_12 : decode cX12_put 12 = .ok (.aload_n 0, 1) := by decide +kernel
theorem dX12_put_13 : decode cX12_put 13 = .ok (.getfield 64, 3) := by decide +kernel
theorem dX12_put_16 : decode cX12_put 16 = .ok (.aload_n 0, 1) := by decide +kernel
theorem dX12_put_17 : decode cX12_put 17 = .ok (.getfield 97, 3) := by decide +kernel
theorem dX12_put_20 : decode cX12_put 20 = .ok (.iaload, 1) := by decide +kernel
theorem dX12_put_21 : decode cX12_put 21 = .ok (.iadd, 1) := by decide +kernel
theorem dX12_put_22 : decode cX12_put 22 = .ok (.iload_n 1, 1) := by decide +kernel
theorem dX12_put_23 : decode cX12_put 23 = .ok (.iastore, 1) := by decide +kernel
theorem dX12_put_24 : decode cX12_put 24 = .ok (.aload_n 0, 1) := by decide +kernel
theorem dX12_put_25 : decode cX12_put 25 = .ok (.getfield 64, 3) := by decide +kernel
theorem dX12_put_28 : decode cX12_put 28 = .ok (.aload_n 0, 1) := by decide +kernel
theorem dX12_put_29 : decode cX12_put 29 = .ok (.getfield 97, 3) := by decide +kernel
theorem dX12_put_32 : decode cX12_put 32 = .ok (.dup2, 1) := by decide +kernel
theorem dX12_put_33 : decode cX12_put 33 = .ok (.iaload, 1) := by decide +kernel
theorem dX12_put_34 : decode cX12_put 34 = .ok (.iconst 1, 1) := by decide +kernel
theorem dX12_put_35 : decode cX12_put 35 = .ok (.iadd, 1) := by decide +kernel
theorem dX12_put_36 : decode cX12_put 36 = .ok (.iastore, 1) := by decide +kernel
theorem dX12_put_37 : decode cX12_put 37 = .ok (.return_, 1) := by decide +kernel
theorem dX12_rank_0 : decode cX12_rank 0 = .ok (.iload_n 1, 1) := by decide +kernel
theorem dX12_rank_1 : decode cX12_rank 1 = .ok (.iconst (-1), 1) := by decide +kernel
theorem dX12_rank_2 : decode cX12_rank 2 = .ok (.if_icmp .ne 7, 3) := by decide +kernel
theorem dX12_rank_5 : decode cX12_rank 5 = .ok (.iconst 1, 1) := by decide +kernel
theorem dX12_rank_6 : decode cX12_rank 6 = .ok (.goto 78, 3) := by decide +kernel
theorem dX12_rank_9 : decode cX12_rank 9 = .ok (.iload_n 1, 1) := by decide +kernel
theorem dX12_rank_10 : decode cX12_rank 10 = .ok (.bipush (-2), 2) := by decide +kernel
theorem dX12_rank_12 : decode cX12_rank 12 = .ok (.if_icmp .ne 7, 3) := by decide +kernel
theorem dX12_rank_15 : decode cX12_rank 15 = .ok (.iconst 2, 1) := by decide +kernel
theorem dX12_rank_16 : decode cX12_rank 16 = .ok (.goto 68, 3) := by decide +kernel
theorem dX12_rank_19 : decode cX12_rank 19 = .ok (.iload_n 1, 1) := by decide +kernel
theorem dX12_rank_20 : decode cX12_rank 20 = .ok (.bipush (-3), 2) := by decide +kernel
theorem dX12_rank_22 : decode cX12_rank 22 = .ok (.if_icmp .ne 7, 3) := by decide +kernel
theorem dX12_rank_25 : decode cX12_rank 25 = .ok (.iconst 3, 1) := by decide +kernel
theorem dX12_rank_26 : decode cX12_rank 26 = .ok (.goto 58, 3) := by decide +kernel
theorem dX12_rank_29 : decode cX12_rank 29 = .ok (.iload_n 1, 1) := by decide +kernel
theorem dX12_rank_30 : decode cX12_rank 30 = .ok (.bipush (-4), 2) := by decide +kernel
theorem dX12_rank_32 : decode cX12_rank 32 = .ok (.if_icmp .eq 9, 3) := by decide +kernel
theorem dX12_rank_35 : decode cX12_rank 35 = .ok (.iload_n 1, 1) := by decide +kernel
theorem dX12_rank_36 : decode cX12_rank 36 = .ok (.bipush (-5), 2) := by decide +kernel
theorem dX12_rank_38 : decode cX12_rank 38 = .ok (.if_icmp .ne 7, 3) := by decide +kernel
theorem dX12_rank_41 : decode cX12_rank 41 = .ok (.iconst 4, 1) := by decide +kernel
theorem dX12_rank_42 : decode cX12_rank 42 = .ok (.goto 42, 3) := by decide +kernel
theorem dX12_rank_45 : decode cX12_rank 45 = .ok (.iload_n 1, 1) := by decide +kernel
theorem dX12_rank_46 : decode cX12_rank 46 = .ok (.bipush (-6), 2) := by decide +kernel
theorem dX12_rank_48 : decode cX12_rank 48 = .ok (.if_icmp .eq 9, 3) := by decide +kernel
theorem dX12_rank_51 : decode cX12_rank 51 = .ok (.iload_n 1, 1) := by decide +kernel
theorem dX12_rank_52 : decode cX12_rank 52 = .ok (.bipush (-7), 2) := by decide +kernel
theorem dX12_rank_54 : decode cX12_rank 54 = .ok (.if_icmp .ne 7, 3) := by decide +kernel
theorem dX12_rank_57 : decode cX12_rank 57 = .ok (.iconst 5, 1) := by decide +kernel
theorem dX12_rank_58 : decode cX12_rank 58 = .ok (.goto 26, 3) := by decide +kernel
theorem dX12_rank_61 : decode cX12_rank 61 = .ok (.iload_n 1, 1) := by decide +kernel
theorem dX12_rank_62 : decode cX12_rank 62 = .ok (.bipush (-8), 2) := by decide +kernel
theorem dX12_rank_64 : decode cX12_rank 64 = .ok (.if_icmp .ne 8, 3) := by decide +kernel
theorem dX12_rank_67 : decode cX12_rank 67 = .ok (.bipush 6, 2) := by decide +kernel
theorem dX12_rank_69 : decode cX12_rank 69 = .ok (.goto 15, 3) := by decide +kernel
theorem dX12_rank_72 : decode cX12_rank 72 = .ok (.iload_n 1, 1) := by decide +kernel
theorem dX12_rank_73 : decode cX12_rank 73 = .ok (.bipush (-9), 2) := by decide +kernel
theorem dX12_rank_75 : decode cX12_rank 75 = .ok (.if_icmp .ne 8, 3) := by decide +kernel
theorem dX12_rank_78 : decode cX12_rank 78 = .ok (.bipush 7, 2) := by decide +kernel
theorem dX12_rank_80 : decode cX12_rank 80 = .ok (.goto 4, 3) := by decide +kernel
theorem dX12_rank_83 : decode cX12_rank 83 = .ok (.iconst 0, 1) := by decide +kernel
theorem dX12_rank_84 : decode cX12_rank 84 = .ok (.ireturn, 1) := by decide +kernel
theorem dX12_settle_0 : decode cX12_settle 0 = .ok (.aload_n 0, 1) := by decide +kernel
theorem dX12_settle_1 : decode cX12_settle 1 = .ok (.getfield 88, 3) := by decide +kernel
theorem dX12_settle_4 : decode cX12_settle 4 = .ok (.ifCond .le 86, 3) := by decide +kernel
theorem dX12_settle_7 : decode cX12_settle 7 = .ok (.aload_n 0, 1) := by decide +kernel
theorem dX12_settle_8 : decode cX12_settle 8 = .ok (.aload_n 0, 1) := by decide +kernel
theorem dX12_settle_9 : decode cX12_settle 9 = .ok (.getfield 82, 3) := by decide +kernel
theorem dX12_settle_12 : decode cX12_settle 12 = .ok (.aload_n 0, 1) := by decide +kernel
theorem dX12_settle_13 : decode cX12_settle 13 = .ok (.getfield 88, 3) := by decide +kernel
theorem dX12_settle_16 : decode cX12_settle 16 = .ok (.iconst 1, 1) := by decide +kernel
theorem dX12_settle_17 : decode cX12_settle 17 = .ok (.isub, 1) := by decide +kernel
theorem dX12_settle_18 : decode cX12_settle 18 = .ok (.iaload, 1) := by decide +kernel
theorem dX12_settle_19 : decode cX12_settle 19 = .ok (.invokevirtual 316, 3) := by decide +kernel
theorem dX12_settle_22 : decode cX12_settle 22 = .ok (.iload_n 1, 1) := by decide +kernel
theorem dX12_settle_23 : decode cX12_settle 23 = .ok (.if_icmp .lt 67, 3) := by decide +kernel
theorem dX12_settle_26 : decode cX12_settle 26 = .ok (.aload_n 0, 1) := by decide +kernel
theorem dX12_settle_27 : decode cX12_settle 27 = .ok (.dup, 1) := by decide +kernel
theorem dX12_settle_28 : decode cX12_settle 28 = .ok (.getfield 88, 3) := by decide +kernel
theorem dX12_settle_31 : decode cX12_settle 31 = .ok (.iconst 1, 1) := by decide +kernel
theorem dX12_settle_32 : decode cX12_settle 32 = .ok (.isub, 1) := by decide +kernel
theorem dX12_settle_33 : decode cX12_settle 33 = .ok (.putfield 88, 3) := by decide +kernel
theorem dX12_settle_36 : decode cX12_settle 36 = .ok (.aload_n 0, 1) := by decide +kernel
theorem dX12_settle_37 : decode cX12_settle 37 = .ok (.aload_n 0, 1) := by decide +kernel
theorem dX12_settle_38 : decode cX12_settle 38 = .ok (.getfield 82, 3) := by decide +kernel
theorem dX12_settle_41 : decode cX12_settle 41 = .ok (.aload_n 0, 1) := by decide +kernel
theorem dX12_settle_42 : decode cX12_settle 42 = .ok (.getfield 88, 3) := by decide +kernel
theorem dX12_settle_45 : decode cX12_settle 45 = .ok (.iaload, 1) := by decide +kernel
theorem dX12_settle_46 : decode cX12_settle 46 = .ok (.invokevirtual 319, 3) := by decide +kernel
theorem dX12_settle_49 : decode cX12_settle 49 = .ok (.aload_n 0, 1) := by decide +kernel
theorem dX12_settle_50 : decode cX12_settle 50 = .ok (.getfield 82, 3) := by decide +kernel
theorem dX12_settle_53 : decode cX12_settle 53 = .ok (.aload_n 0, 1) := by decide +kernel
theorem dX12_settle_54 : decode cX12_settle 54 = .ok (.getfield 88, 3) := by decide +kernel
theorem dX12_settle_57 : decode cX12_settle 57 = .ok (.iaload, 1) := by decide +kernel
theorem dX12_settle_58 : decode cX12_settle 58 = .ok (.bipush (-3), 2) := by decide +kernel
theorem dX12_settle_60 : decode cX12_settle 60 = .ok (.if_icmp .eq 17, 3) := by decide +kernel
theorem dX12_settle_63 : decode cX12_settle 63 = .ok (.aload_n 0, 1) := by decide +kernel
theorem dX12_settle_64 : decode cX12_settle 64 = .ok (.getfield 82, 3) := by decide +kernel
theorem dX12_settle_67 : decode cX12_settle 67 = .ok (.aload_n 0, 1) := by decide +kernel
theorem dX12_settle_68 : decode cX12_settle 68 = .ok (.getfield 88, 3) := by decide +kernel
theorem dX12_settle_71 : decode cX12_settle 71 = .ok (.iaload, 1) := by decide +kernel
theorem dX12_settle_72 : decode cX12_settle 72 = .ok (.bipush (-9), 2) := by decide +kernel
theorem dX12_settle_74 : decode cX12_settle 74 = .ok (.if_icmp .ne (-74), 3) := by decide +kernel
theorem dX12_settle_77 : decode cX12_settle 77 = .ok (.aload_n 0, 1) := by decide +kernel
theorem dX12_settle_78 : decode cX12_settle 78 = .ok (.dup, 1) := by decide +kernel
theorem dX12_settle_79 : decode cX12_settle 79 = .ok (.getfield 94, 3) := by decide +kernel
theorem dX12_settle_82 : decode cX12_settle 82 = .ok (.iconst 1, 1) := by decide +kernel
theorem dX12_settle_83 : decode cX12_settle 83 = .ok (.isub, 1) := by decide +kernel
theorem dX12_settle_84 : decode cX12_settle 84 = .ok (.putfield 94, 3) := by decide +kernel
theorem dX12_settle_87 : decode cX12_settle 87 = .ok (.goto (-87), 3) := by decide +kernel
theorem dX12_settle_90 : decode cX12_settle 90 = .ok (.return_, 1) := by decide +kernel
theorem dX12_hold_0 : decode cX12_hold 0 = .ok (.aload_n 0, 1) := by decide +kernel
theorem dX12_hold_1 : decode cX12_hold 1 = .ok (.getfield 82, 3) := by decide +kernel
theorem dX12_hold_4 : decode cX12_hold 4 = .ok (.aload_n 0, 1) := by decide +kernel
theorem dX12_hold_5 : decode cX12_hold 5 = .ok (.getfield 88, 3) := by decide +kernel
theorem dX12_hold_8 : decode cX12_hold 8 = .ok (.iload_n 1, 1) := by decide +kernel
theorem dX12_hold_9 : decode cX12_hold 9 = .ok (.iastore, 1) := by decide +kernel
theorem dX12_hold_10 : decode cX12_hold 10 = .ok (.aload_n 0, 1) := by decide +kernel
theorem dX12_hold_11 : decode cX12_hold 11 = .ok (.dup, 1) := by decide +kernel
theorem dX12_hold_12 : decode cX12_hold 12 = .ok (.getfield 88, 3) := by decide +kernel
theorem dX12_hold_15 : decode cX12_hold 15 = .ok (.iconst 1, 1) := by decide +kernel
theorem dX12_hold_16 : decode cX12_hold 16 = .ok (.iadd, 1) := by decide +kernel
theorem dX12_hold_17 : decode cX12_hold 17 = .ok (.putfield 88, 3) := by decide +kernel
theorem dX12_hold_20 : decode cX12_hold 20 = .ok (.iload_n 1, 1) := by decide +kernel
theorem dX12_hold_21 : decode cX12_hold 21 = .ok (.bipush (-3), 2) := by decide +kernel
theorem dX12_hold_23 : decode cX12_hold 23 = .ok (.if_icmp .eq 15, 3) := by decide +kernel
theorem dX12_hold_26 : decode cX12_hold 26 = .ok (.iload_n 1, 1) := by decide +kernel
theorem dX12_hold_27 : decode cX12_hold 27 = .ok (.bipush (-9), 2) := by decide +kernel
theorem dX12_hold_29 : decode cX12_hold 29 = .ok (.if_icmp .eq 9, 3) := by decide +kernel
theorem dX12_hold_32 : decode cX12_hold 32 = .ok (.iload_n 1, 1) := by decide +kernel
theorem dX12_hold_33 : decode cX12_hold 33 = .ok (.bipush (-10), 2) := by decide +kernel
theorem dX12_hold_35 : decode cX12_hold 35 = .ok (.if_icmp .ne 13, 3) := by decide +kernel
theorem dX12_hold_38 : decode cX12_hold 38 = .ok (.aload_n 0, 1) := by decide +kernel
theorem dX12_hold_39 : decode cX12_hold 39 = .ok (.dup, 1) := by decide +kernel
theorem dX12_hold_40 : decode cX12_hold 40 = .ok (.getfield 94, 3) := by decide +kernel
theorem dX12_hold_43 : decode cX12_hold 43 = .ok (.iconst 1, 1) := by decide +kernel
theorem dX12_hold_44 : decode cX12_hold 44 = .ok (.iadd, 1) := by decide +kernel
theorem dX12_hold_45 : decode cX12_hold 45 = .ok (.putfield 94, 3) := by decide +kernel
theorem dX12_hold_48 : decode cX12_hold 48 = .ok (.return_, 1) := by decide +kernel
theorem dX12_ahead_0 : decode cX12_ahead 0 = .ok (.aload_n 0, 1) := by decide +kernel
theorem dX12_ahead_1 : decode cX12_ahead 1 = .ok (.getfield 73, 3) := by decide +kernel
theorem dX12_ahead_4 : decode cX12_ahead 4 = .ok (.iconst 1, 1) := by decide +kernel
theorem dX12_ahead_5 : decode cX12_ahead 5 = .ok (.if_icmp .eq 11, 3) := by decide +kernel
theorem dX12_ahead_8 : decode cX12_ahead 8 = .ok (.aload_n 0, 1) := by decide +kernel
theorem dX12_ahead_9 : decode cX12_ahead 9 = .ok (.getfield 73, 3) := by decide +kernel
theorem dX12_ahead_12 : decode cX12_ahead 12 = .ok (.iconst 2, 1) := by decide +kernel
theorem dX12_ahead_13 : decode cX12_ahead 13 = .ok (.if_icmp .ne 5, 3) := by decide +kernel
theorem dX12_ahead_16 : decode cX12_ahead 16 = .ok (.iconst 1, 1) := by decide +kernel
theorem dX12_ahead_17 : decode cX12_ahead 17 = .ok (.ireturn, 1) := by decide +kernel
theorem dX12_ahead_18 : decode cX12_ahead 18 = .ok (.aload_n 0, 1) := by decide +kernel
theorem dX12_ahead_19 : decode cX12_ahead 19 = .ok (.getfield 94, 3) := by decide +kernel
theorem dX12_ahead_22 : decode cX12_ahead 22 = .ok (.iconst 5, 1) := by decide +kernel
theorem dX12_ahead_23 : decode cX12_ahead 23 = .ok (.if_icmp .ne 5, 3) := by decide +kernel
theorem dX12_ahead_26 : decode cX12_ahead 26 = .ok (.iconst 0, 1) := by decide +kernel
theorem dX12_ahead_27 : decode cX12_ahead 27 = .ok (.ireturn, 1) := by decide +kernel
theorem dX12_ahead_28 : decode cX12_ahead 28 = .ok (.aload_n 0, 1) := by decide +kernel
theorem dX12_ahead_29 : decode cX12_ahead 29 = .ok (.iconst 4, 1) := by decide +kernel
theorem dX12_ahead_30 : decode cX12_ahead 30 = .ok (.invokevirtual 323, 3) := by decide +kernel
theorem dX12_ahead_33 : decode cX12_ahead 33 = .ok (.ifCond .eq 5, 3) := by decide +kernel
theorem dX12_ahead_36 : decode cX12_ahead 36 = .ok (.iload_n 1, 1) := by decide +kernel
theorem dX12_ahead_37 : decode cX12_ahead 37 = .ok (.ireturn, 1) := by decide +kernel
theorem dX12_ahead_38 : decode cX12_ahead 38 = .ok (.aload_n 0, 1) := by decide +kernel
theorem dX12_ahead_39 : decode cX12_ahead 39 = .ok (.bipush 40, 2) := by decide +kernel
theorem dX12_ahead_41 : decode cX12_ahead 41 = .ok (.invokevirtual 326, 3) := by decide +kernel
theorem dX12_ahead_44 : decode cX12_ahead 44 = .ok (.ifCond .ne 12, 3) := by decide +kernel
theorem dX12_ahead_47 : decode cX12_ahead 47 = .ok (.aload_n 0, 1) := by decide +kernel
theorem dX12_ahead_48 : decode cX12_ahead 48 = .ok (.bipush 45, 2) := by decide +kernel
theorem dX12_ahead_50 : decode cX12_ahead 50 = .ok (.invokevirtual 326, 3) := by decide +kernel
theorem dX12_ahead_53 : decode cX12_ahead 53 = .ok (.ifCond .eq 7, 3) := by decide +kernel
theorem dX12_ahead_56 : decode cX12_ahead 56 = .ok (.iconst 1, 1) := by decide +kernel
theorem dX12_ahead_57 : decode cX12_ahead 57 = .ok (.goto 4, 3) := by decide +kernel
theorem dX12_ahead_60 : decode cX12_ahead 60 = .ok (.iconst 0, 1) := by decide +kernel
theorem dX12_ahead_61 : decode cX12_ahead 61 = .ok (.ireturn, 1) := by decide +kernel
theorem dX12_signOf_0 : decode cX12_signOf 0 = .ok (.aload_n 0, 1) := by decide +kernel
theorem dX12_signOf_1 : decode cX12_signOf 1 = .ok (.iconst 2, 1) := by decide +kernel
theorem dX12_signOf_2 : decode cX12_signOf 2 = .ok (.invokevirtual 323, 3) := by decide +kernel
theorem dX12_signOf_5 : decode cX12_signOf 5 = .ok (.ifCond .eq 7, 3) := by decide +kernel
theorem dX12_signOf_8 : decode cX12_signOf 8 = .ok (.iconst (-1), 1) := by decide +kernel
theorem dX12_signOf_9 : decode cX12_signOf 9 = .ok (.goto 87, 3) := by decide +kernel
theorem dX12_signOf_12 : decode cX12_signOf 12 = .ok (.aload_n 0, 1) := by decide +kernel
theorem dX12_signOf_13 : decode cX12_signOf 13 = .ok (.iconst 3, 1) := by decide +kernel
theorem dX12_signOf_14 : decode cX12_signOf 14 = .ok (.invokevirtual 323, 3) := by decide +kernel
theorem dX12_signOf_17 : decode cX12_signOf 17 = .ok (.ifCond .eq 8, 3) := by decide +kernel
theorem dX12_signOf_20 : decode cX12_signOf 20 = .ok (.bipush (-2), 2) := by decide +kernel
theorem dX12_signOf_22 : decode cX12_signOf 22 = .ok (.goto 74, 3) := by decide +kernel
theorem dX12_signOf_25 : decode cX12_signOf 25 = .ok (.aload_n 0, 1) := by decide +kernel
theorem dX12_signOf_26 : decode cX12_signOf 26 = .ok (.bipush 60, 2) := by decide +kernel
theorem dX12_signOf_28 : decode cX12_signOf 28 = .ok (.invokevirtual 326, 3) := by decide +kernel
theorem dX12_signOf_31 : decode cX12_signOf 31 = .ok (.ifCond .eq 8, 3) := by decide +kernel
theorem dX12_signOf_34 : decode cX12_signOf 34 = .ok (.bipush (-4), 2) := by decide +kernel
theorem dX12_signOf_36 : decode cX12_signOf 36 = .ok (.goto 60, 3) := by decide +kernel
theorem dX12_signOf_39 : decode cX12_signOf 39 = .ok (.aload_n 0, 1) := by decide +kernel
theorem dX12_signOf_40 : decode cX12_signOf 40 = .ok (.bipush 61, 2) := by decide +kernel
theorem dX12_signOf_42 : decode cX12_signOf 42 = .ok (.invokevirtual 326, 3) := by decide +kernel
theorem dX12_signOf_45 : decode cX12_signOf 45 = .ok (.ifCond .eq 8, 3) := by decide +kernel
theorem dX12_signOf_48 : decode cX12_signOf 48 = .ok (.bipush (-5), 2) := by decide +kernel
theorem dX12_signOf_50 : decode cX12_signOf 50 = .ok (.goto 46, 3) := by decide +kernel
theorem dX12_signOf_53 : decode cX12_signOf 53 = .ok (.aload_n 0, 1) := by decide +kernel
theorem dX12_signOf_54 : decode cX12_signOf 54 = .ok (.bipush 43, 2) := by decide +kernel
theorem dX12_signOf_56 : decode cX12_signOf 56 = .ok (.invokevirtual 326, 3) := by decide +kernel
theorem dX12_signOf_59 : decode cX12_signOf 59 = .ok (.ifCond .eq 8, 3) := by decide +kernel
theorem dX12_signOf_62 : decode cX12_signOf 62 = .ok (.bipush (-6), 2) := by decide +kernel
theorem dX12_signOf_64 : decode cX12_signOf 64 = .ok (.goto 32, 3) := by decide +kernel
theorem dX12_signOf_67 : decode cX12_signOf 67 = .ok (.aload_n 0, 1) := by decide +kernel
theorem dX12_signOf_68 : decode cX12_signOf 68 = .ok (.bipush 45, 2) := by decide +kernel
theorem dX12_signOf_70 : decode cX12_signOf 70 = .ok (.invokevirtual 326, 3) := by decide +kernel
theorem dX12_signOf_73 : decode cX12_signOf 73 = .ok (.ifCond .eq 8, 3) := by decide +kernel
theorem dX12_signOf_76 : decode cX12_signOf 76 = .ok (.bipush (-7), 2) := by decide +kernel
theorem dX12_signOf_78 : decode cX12_signOf 78 = .ok (.goto 18, 3) := by decide +kernel
theorem dX12_signOf_81 : decode cX12_signOf 81 = .ok (.aload_n 0, 1) := by decide +kernel
theorem dX12_signOf_82 : decode cX12_signOf 82 = .ok (.bipush 42, 2) := by decide +kernel
theorem dX12_signOf_84 : decode cX12_signOf 84 = .ok (.invokevirtual 326, 3) := by decide +kernel
theorem dX12_signOf_87 : decode cX12_signOf 87 = .ok (.ifCond .eq 8, 3) := by decide +kernel
theorem dX12_signOf_90 : decode cX12_signOf 90 = .ok (.bipush (-8), 2) := by decide +kernel
theorem dX12_signOf_92 : decode cX12_signOf 92 = .ok (.goto 4, 3) := by decide +kernel
theorem dX12_signOf_95 : decode cX12_signOf 95 = .ok (.iconst 0, 1) := by decide +kernel
theorem dX12_signOf_96 : decode cX12_signOf 96 = .ok (.ireturn, 1) := by decide +kernel
theorem dX12_part_0 : decode cX12_part 0 = .ok (.aload_n 0, 1) := by decide +kernel
theorem dX12_part_1 : decode cX12_part 1 = .ok (.iconst 0, 1) := by decide +kernel
theorem dX12_part_2 : decode cX12_part 2 = .ok (.putfield 88, 3) := by decide +kernel
theorem dX12_part_5 : decode cX12_part 5 = .ok (.aload_n 0, 1) := by decide +kernel
theorem dX12_part_6 : decode cX12_part 6 = .ok (.iconst 0, 1) := by decide +kernel
theorem dX12_part_7 : decode cX12_part 7 = .ok (.putfield 91, 3) := by decide +kernel
theorem dX12_part_10 : decode cX12_part 10 = .ok (.aload_n 0, 1) := by decide +kernel
theorem dX12_part_11 : decode cX12_part 11 = .ok (.iconst 0, 1) := by decide +kernel
theorem dX12_part_12 : decode cX12_part 12 = .ok (.putfield 94, 3) := by decide +kernel
theorem dX12_part_15 : decode cX12_part 15 = .ok (.aload_n 0, 1) := by decide +kernel
theorem dX12_part_16 : decode cX12_part 16 = .ok (.getfield 64, 3) := by decide +kernel
theorem dX12_part_19 : decode cX12_part 19 = .ok (.aload_n 0, 1) := by decide +kernel
theorem dX12_part_20 : decode cX12_part 20 = .ok (.getfield 97, 3) := by decide +kernel
theorem dX12_part_23 : decode cX12_part 23 = .ok (.iconst 0, 1) := by decide +kernel
theorem dX12_part_24 : decode cX12_part 24 = .ok (.iastore, 1) := by decide +kernel
theorem dX12_part_25 : decode cX12_part 25 = .ok (.aload_n 0, 1) := by decide +kernel
theorem dX12_part_26 : decode cX12_part 26 = .ok (.getfield 85, 3) := by decide +kernel
theorem dX12_part_29 : decode cX12_part 29 = .ok (.iconst 0, 1) := by decide +kernel
theorem dX12_part_30 : decode cX12_part 30 = .ok (.iconst 0, 1) := by decide +kernel
theorem dX12_part_31 : decode cX12_part 31 = .ok (.bastore, 1) := by decide +kernel
theorem dX12_part_32 : decode cX12_part 32 = .ok (.iconst 1, 1) := by decide +kernel
theorem dX12_part_33 : decode cX12_part 33 = .ok (.istore_n 1, 1) := by decide +kernel
theorem dX12_part_34 : decode cX12_part 34 = .ok (.iconst 1, 1) := by decide +kernel
theorem dX12_part_35 : decode cX12_part 35 = .ok (.istore_n 2, 1) := by decide +kernel
theorem dX12_part_36 : decode cX12_part 36 = .ok (.iload_n 1, 1) := by decide +kernel
theorem dX12_part_37 : decode cX12_part 37 = .ok (.ifCond .eq 132, 3) := by decide +kernel
theorem dX12_part_40 : decode cX12_part 40 = .ok (.aload_n 0, 1) := by decide +kernel
theorem dX12_part_41 : decode cX12_part 41 = .ok (.iload_n 2, 1) := by decide +kernel
theorem dX12_part_42 : decode cX12_part 42 = .ok (.invokevirtual 329, 3) := by decide +kernel
theorem dX12_part_45 : decode cX12_part 45 = .ok (.ifCond .ne 5, 3) := by decide +kernel
theorem dX12_part_48 : decode cX12_part 48 = .ok (.iconst 0, 1) := by decide +kernel
theorem dX12_part_49 : decode cX12_part 49 = .ok (.ireturn, 1) := by decide +kernel
theorem dX12_part_50 : decode cX12_part 50 = .ok (.aload_n 0, 1) := by decide +kernel
theorem dX12_part_51 : decode cX12_part 51 = .ok (.iconst 4, 1) := by decide +kernel
theorem dX12_part_52 : decode cX12_part 52 = .ok (.invokevirtual 323, 3) := by decide +kernel
theorem dX12_part_55 : decode cX12_part 55 = .ok (.ifCond .eq 12, 3) := by decide +kernel
theorem dX12_part_58 : decode cX12_part 58 = .ok (.aload_n 0, 1) := by decide +kernel
theorem dX12_part_59 : decode cX12_part 59 = .ok (.bipush (-3), 2) := by decide +kernel
theorem dX12_part_61 : decode cX12_part 61 = .ok (.invokevirtual 333, 3) := by decide +kernel
theorem dX12_part_64 : decode cX12_part 64 = .ok (.goto 98, 3) := by decide +kernel
theorem dX12_part_67 : decode cX12_part 67 = .ok (.aload_n 0, 1) := by decide +kernel
theorem dX12_part_68 : decode cX12_part 68 = .ok (.bipush 45, 2) := by decide +kernel
theorem dX12_part_70 : decode cX12_part 70 = .ok (.invokevirtual 326, 3) := by decide +kernel
theorem dX12_part_73 : decode cX12_part 73 = .ok (.ifCond .eq 14, 3) := by decide +kernel
theorem dX12_part_76 : decode cX12_part 76 = .ok (.aload_n 0, 1) := by decide +kernel
theorem dX12_part_77 : decode cX12_part 77 = .ok (.bipush (-9), 2) := by decide +kernel
theorem dX12_part_79 : decode cX12_part 79 = .ok (.invokevirtual 333, 3) := by decide +kernel
theorem dX12_part_82 : decode cX12_part 82 = .ok (.iconst 0, 1) := by decide +kernel
theorem dX12_part_83 : decode cX12_part 83 = .ok (.istore_n 2, 1) := by decide +kernel
theorem dX12_part_84 : decode cX12_part 84 = .ok (.goto 78, 3) := by decide +kernel
theorem dX12_part_87 : decode cX12_part 87 = .ok (.aload_n 0, 1) := by decide +kernel
theorem dX12_part_88 : decode cX12_part 88 = .ok (.bipush 40, 2) := by decide +kernel
theorem dX12_part_90 : decode cX12_part 90 = .ok (.invokevirtual 326, 3) := by decide +kernel
theorem dX12_part_93 : decode cX12_part 93 = .ok (.ifCond .eq 34, 3) := by decide +kernel
theorem dX12_part_96 : decode cX12_part 96 = .ok (.aload_n 0, 1) := by decide +kernel
theorem dX12_part_97 : decode cX12_part 97 = .ok (.bipush (-10), 2) := by decide +kernel
theorem dX12_part_99 : decode cX12_part 99 = .ok (.invokevirtual 333, 3) := by decide +kernel
theorem dX12_part_102 : decode cX12_part 102 = .ok (.aload_n 0, 1) := by decide +kernel
theorem dX12_part_103 : decode cX12_part 103 = .ok (.dup, 1) := by decide +kernel
theorem dX12_part_104 : decode cX12_part 104 = .ok (.getfield 91, 3) := by decide +kernel
theorem dX12_part_107 : decode cX12_part 107 = .ok (.iconst 1, 1) := by decide +kernel
theorem dX12_part_108 : decode cX12_part 108 = .ok (.iadd, 1) := by decide +kernel
theorem dX12_part_109 : decode cX12_part 109 = .ok (.putfield 91, 3) := by decide +kernel
theorem dX12_part_112 : decode cX12_part 112 = .ok (.aload_n 0, 1) := by decide +kernel
theorem dX12_part_113 : decode cX12_part 113 = .ok (.getfield 85, 3) := by decide +kernel
theorem dX12_part_116 : decode cX12_part 116 = .ok (.aload_n 0, 1) := by decide +kernel
theorem dX12_part_117 : decode cX12_part 117 = .ok (.getfield 91, 3) := by decide +kernel
theorem dX12_part_120 : decode cX12_part 120 = .ok (.iconst 0, 1) := by decide +kernel
theorem dX12_part_121 : decode cX12_part 121 = .ok (.bastore, 1) := by decide +kernel
theorem dX12_part_122 : decode cX12_part 122 = .ok (.iconst 1, 1) := by decide +kernel
theorem dX12_part_123 : decode cX12_part 123 = .ok (.istore_n 2, 1) := by decide +kernel
theorem dX12_part_124 : decode cX12_part 124 = .ok (.goto 38, 3) := by decide +kernel
theorem dX12_part_127 : decode cX12_part 127 = .ok (.aload_n 0, 1) := by decide +kernel
theorem dX12_part_128 : decode cX12_part 128 = .ok (.aload_n 0, 1) := by decide +kernel
theorem dX12_part_129 : decode cX12_part 129 = .ok (.getfield 73, 3) := by decide +kernel
theorem dX12_part_132 : decode cX12_part 132 = .ok (.iconst 1, 1) := by decide +kernel
theorem dX12_part_133 : decode cX12_part 133 = .ok (.if_icmp .ne 10, 3) := by decide +kernel
theorem dX12_part_136 : decode cX12_part 136 = .ok (.aload_n 0, 1) := by decide +kernel
theorem dX12_part_137 : decode cX12_part 137 = .ok (.getfield 76, 3) := by decide +kernel
theorem dX12_part_140 : decode cX12_part 140 = .ok (.goto 11, 3) := by decide +kernel
theorem dX12_part_143 : decode cX12_part 143 = .ok (.sipush 10000, 3) := by decide +kernel
theorem dX12_part_146 : decode cX12_part 146 = .ok (.aload_n 0, 1) := by decide +kernel
theorem dX12_part_147 : decode cX12_part 147 = .ok (.getfield 76, 3) := by decide +kernel
theorem dX12_part_150 : decode cX12_part 150 = .ok (.iadd, 1) := by decide +kernel
theorem dX12_part_151 : decode cX12_part 151 = .ok (.invokevirtual 319, 3) := by decide +kernel
theorem dX12_part_154 : decode cX12_part 154 = .ok (.aload_n 0, 1) := by decide +kernel
theorem dX12_part_155 : decode cX12_part 155 = .ok (.bipush 7, 2) := by decide +kernel
theorem dX12_part_157 : decode cX12_part 157 = .ok (.invokevirtual 336, 3) := by decide +kernel
theorem dX12_part_160 : decode cX12_part 160 = .ok (.iconst 0, 1) := by decide +kernel
theorem dX12_part_161 : decode cX12_part 161 = .ok (.istore_n 1, 1) := by decide +kernel
theorem dX12_part_162 : decode cX12_part 162 = .ok (.aload_n 0, 1) := by decide +kernel
theorem dX12_part_163 : decode cX12_part 163 = .ok (.invokevirtual 339, 3) := by decide +kernel
theorem dX12_part_166 : decode cX12_part 166 = .ok (.goto (-130), 3) := by decide +kernel
theorem dX12_part_169 : decode cX12_part 169 = .ok (.aload_n 0, 1) := by decide +kernel
theorem dX12_part_170 : decode cX12_part 170 = .ok (.bipush 59, 2) := by decide +kernel
theorem dX12_part_172 : decode cX12_part 172 = .ok (.invokevirtual 326, 3) := by decide +kernel
theorem dX12_part_175 : decode cX12_part 175 = .ok (.ifCond .eq 21, 3) := by decide +kernel
theorem dX12_part_178 : decode cX12_part 178 = .ok (.aload_n 0, 1) := by decide +kernel
theorem dX12_part_179 : decode cX12_part 179 = .ok (.iconst 1, 1) := by decide +kernel
theorem dX12_part_180 : decode cX12_part 180 = .ok (.invokevirtual 336, 3) := by decide +kernel
theorem dX12_part_183 : decode cX12_part 183 = .ok (.aload_n 0, 1) := by decide +kernel
theorem dX12_part_184 : decode cX12_part 184 = .ok (.getfield 91, 3) := by decide +kernel
theorem dX12_part_187 : decode cX12_part 187 = .ok (.ifCond .ne 7, 3) := by decide +kernel
theorem dX12_part_190 : decode cX12_part 190 = .ok (.iconst 1, 1) := by decide +kernel
theorem dX12_part_191 : decode cX12_part 191 = .ok (.goto 4, 3) := by decide +kernel
theorem dX12_part_194 : decode cX12_part 194 = .ok (.iconst 0, 1) := by decide +kernel
theorem dX12_part_195 : decode cX12_part 195 = .ok (.ireturn, 1) := by decide +kernel
theorem dX12_part_196 : decode cX12_part 196 = .ok (.aload_n 0, 1) := by decide +kernel
theorem dX12_part_197 : decode cX12_part 197 = .ok (.bipush 41, 2) := by decide +kernel
theorem dX12_part_199 : decode cX12_part 199 = .ok (.invokevirtual 326, 3) := by decide +kernel
theorem dX12_part_202 : decode cX12_part 202 = .ok (.ifCond .eq 60, 3) := by decide +kernel
theorem dX12_part_205 : decode cX12_part 205 = .ok (.aload_n 0, 1) := by decide +kernel
theorem dX12_part_206 : decode cX12_part 206 = .ok (.getfield 91, 3) := by decide +kernel
theorem dX12_part_209 : decode cX12_part 209 = .ok (.ifCond .ne 5, 3) := by decide +kernel
theorem dX12_part_212 : decode cX12_part 212 = .ok (.iconst 0, 1) := by decide +kernel
theorem dX12_part_213 : decode cX12_part 213 = .ok (.ireturn, 1) := by decide +kernel
theorem dX12_part_214 : decode cX12_part 214 = .ok (.aload_n 0, 1) := by decide +kernel
theorem dX12_part_215 : decode cX12_part 215 = .ok (.iconst 1, 1) := by decide +kernel
theorem dX12_part_216 : decode cX12_part 216 = .ok (.invokevirtual 336, 3) := by decide +kernel
theorem dX12_part_219 : decode cX12_part 219 = .ok (.aload_n 0, 1) := by decide +kernel
theorem dX12_part_220 : decode cX12_part 220 = .ok (.dup, 1) := by decide +kernel
theorem dX12_part_221 : decode cX12_part 221 = .ok (.getfield 88, 3) := by decide +kernel
theorem dX12_part_224 : decode cX12_part 224 = .ok (.iconst 1, 1) := by decide +kernel
theorem dX12_part_225 : decode cX12_part 225 = .ok (.isub, 1) := by decide +kernel
theorem dX12_part_226 : decode cX12_part 226 = .ok (.putfield 88, 3) := by decide +kernel
theorem dX12_part_229 : decode cX12_part 229 = .ok (.aload_n 0, 1) := by decide +kernel
theorem dX12_part_230 : decode cX12_part 230 = .ok (.dup, 1) := by decide +kernel
theorem dX12_part_231 : decode cX12_part 231 = .ok (.getfield 94, 3) := by decide +kernel
theorem dX12_part_234 : decode cX12_part 234 = .ok (.iconst 1, 1) := by decide +kernel
theorem dX12_part_235 : decode cX12_part 235 = .ok (.isub, 1) := by decide +kernel
theorem dX12_part_236 : decode cX12_part 236 = .ok (.putfield 94, 3) := by decide +kernel
theorem dX12_part_239 : decode cX12_part 239 = .ok (.aload_n 0, 1) := by decide +kernel
theorem dX12_part_240 : decode cX12_part 240 = .ok (.dup, 1) := by decide +kernel
theorem dX12_part_241 : decode cX12_part 241 = .ok (.getfield 91, 3) := by decide +kernel
theorem dX12_part_244 : decode cX12_part 244 = .ok (.iconst 1, 1) := by decide +kernel
theorem dX12_part_245 : decode cX12_part 245 = .ok (.isub, 1) := by decide +kernel
theorem dX12_part_246 : decode cX12_part 246 = .ok (.putfield 91, 3) := by decide +kernel
theorem dX12_part_249 : decode cX12_part 249 = .ok (.aload_n 0, 1) := by decide +kernel
theorem dX12_part_250 : decode cX12_part 250 = .ok (.bipush 7, 2) := by decide +kernel
theorem dX12_part_252 : decode cX12_part 252 = .ok (.invokevirtual 336, 3) := by decide +kernel
theorem dX12_part_255 : decode cX12_part 255 = .ok (.aload_n 0, 1) := by decide +kernel
theorem dX12_part_256 : decode cX12_part 256 = .ok (.invokevirtual 339, 3) := by decide +kernel
theorem dX12_part_259 : decode cX12_part 259 = .ok (.goto (-223), 3) := by decide +kernel
theorem dX12_part_262 : decode cX12_part 262 = .ok (.aload_n 0, 1) := by decide +kernel
theorem dX12_part_263 : decode cX12_part 263 = .ok (.invokevirtual 342, 3) := by decide +kernel
theorem dX12_part_266 : decode cX12_part 266 = .ok (.istore_n 3, 1) := by decide +kernel
theorem dX12_part_267 : decode cX12_part 267 = .ok (.iload_n 3, 1) := by decide +kernel
theorem dX12_part_268 : decode cX12_part 268 = .ok (.ifCond .eq 24, 3) := by decide +kernel
theorem dX12_part_271 : decode cX12_part 271 = .ok (.aload_n 0, 1) := by decide +kernel
theorem dX12_part_272 : decode cX12_part 272 = .ok (.iload_n 3, 1) := by decide +kernel
theorem dX12_part_273 : decode cX12_part 273 = .ok (.invokevirtual 316, 3) := by decide +kernel
theorem dX12_part_276 : decode cX12_part 276 = .ok (.iconst 4, 1) := by decide +kernel
theorem dX12_part_277 : decode cX12_part 277 = .ok (.if_icmp .ne 17, 3) := by decide +kernel
theorem dX12_part_280 : decode cX12_part 280 = .ok (.aload_n 0, 1) := by decide +kernel
theorem dX12_part_281 : decode cX12_part 281 = .ok (.getfield 85, 3) := by decide +kernel
theorem dX12_part_284 : decode cX12_part 284 = .ok (.aload_n 0, 1) := by decide +kernel
theorem dX12_part_285 : decode cX12_part 285 = .ok (.getfield 91, 3) := by decide +kernel
theorem dX12_part_288 : decode cX12_part 288 = .ok (.baload, 1) := by decide +kernel
theorem dX12_part_289 : decode cX12_part 289 = .ok (.ifCond .eq 5, 3) := by decide +kernel
theorem dX12_part_292 : decode cX12_part 292 = .ok (.iconst 0, 1) := by decide +kernel
theorem dX12_part_293 : decode cX12_part 293 = .ok (.ireturn, 1) := by decide +kernel
theorem dX12_part_294 : decode cX12_part 294 = .ok (.aload_n 0, 1) := by decide +kernel
theorem dX12_part_295 : decode cX12_part 295 = .ok (.getfield 85, 3) := by decide +kernel
theorem dX12_part_298 : decode cX12_part 298 = .ok (.aload_n 0, 1) := by decide +kernel
theorem dX12_part_299 : decode cX12_part 299 = .ok (.getfield 91, 3) := by decide +kernel
theorem dX12_part_302 : decode cX12_part 302 = .ok (.aload_n 0, 1) := by decide +kernel
theorem dX12_part_303 : decode cX12_part 303 = .ok (.iload_n 3, 1) := by decide +kernel
theorem dX12_part_304 : decode cX12_part 304 = .ok (.invokevirtual 316, 3) := by decide +kernel
theorem dX12_part_307 : decode cX12_part 307 = .ok (.iconst 4, 1) := by decide +kernel
theorem dX12_part_308 : decode cX12_part 308 = .ok (.if_icmp .eq 24, 3) := by decide +kernel
theorem dX12_part_311 : decode cX12_part 311 = .ok (.aload_n 0, 1) := by decide +kernel
theorem dX12_part_312 : decode cX12_part 312 = .ok (.iload_n 3, 1) := by decide +kernel
theorem dX12_part_313 : decode cX12_part 313 = .ok (.invokevirtual 316, 3) := by decide +kernel
theorem dX12_part_316 : decode cX12_part 316 = .ok (.iconst 2, 1) := by decide +kernel
theorem dX12_part_317 : decode cX12_part 317 = .ok (.if_icmp .le 19, 3) := by decide +kernel
theorem dX12_part_320 : decode cX12_part 320 = .ok (.aload_n 0, 1) := by decide +kernel
theorem dX12_part_321 : decode cX12_part 321 = .ok (.getfield 85, 3) := by decide +kernel
theorem dX12_part_324 : decode cX12_part 324 = .ok (.aload_n 0, 1) := by decide +kernel
theorem dX12_part_325 : decode cX12_part 325 = .ok (.getfield 91, 3) := by decide +kernel
theorem dX12_part_328 : decode cX12_part 328 = .ok (.baload, 1) := by decide +kernel
theorem dX12_part_329 : decode cX12_part 329 = .ok (.ifCond .eq 7, 3) := by decide +kernel
theorem dX12_part_332 : decode cX12_part 332 = .ok (.iconst 1, 1) := by decide +kernel
theorem dX12_part_333 : decode cX12_part 333 = .ok (.goto 4, 3) := by decide +kernel
theorem dX12_part_336 : decode cX12_part 336 = .ok (.iconst 0, 1) := by decide +kernel
theorem dX12_part_337 : decode cX12_part 337 = .ok (.bastore, 1) := by decide +kernel
theorem dX12_part_338 : decode cX12_part 338 = .ok (.aload_n 0, 1) := by decide +kernel
theorem dX12_part_339 : decode cX12_part 339 = .ok (.aload_n 0, 1) := by decide +kernel
theorem dX12_part_340 : decode cX12_part 340 = .ok (.iload_n 3, 1) := by decide +kernel
theorem dX12_part_341 : decode cX12_part 341 = .ok (.invokevirtual 316, 3) := by decide +kernel
theorem dX12_part_344 : decode cX12_part 344 = .ok (.invokevirtual 336, 3) := by decide +kernel
theorem dX12_part_347 : decode cX12_part 347 = .ok (.aload_n 0, 1) := by decide +kernel
theorem dX12_part_348 : decode cX12_part 348 = .ok (.iload_n 3, 1) := by decide +kernel
theorem dX12_part_349 : decode cX12_part 349 = .ok (.invokevirtual 333, 3) := by decide +kernel
theorem dX12_part_352 : decode cX12_part 352 = .ok (.iconst 1, 1) := by decide +kernel
theorem dX12_part_353 : decode cX12_part 353 = .ok (.istore_n 1, 1) := by decide +kernel
theorem dX12_part_354 : decode cX12_part 354 = .ok (.aload_n 0, 1) := by decide +kernel
theorem dX12_part_355 : decode cX12_part 355 = .ok (.iload_n 3, 1) := by decide +kernel
theorem dX12_part_356 : decode cX12_part 356 = .ok (.invokevirtual 316, 3) := by decide +kernel
theorem dX12_part_359 : decode cX12_part 359 = .ok (.iconst 3, 1) := by decide +kernel
theorem dX12_part_360 : decode cX12_part 360 = .ok (.if_icmp .ge 7, 3) := by decide +kernel
theorem dX12_part_363 : decode cX12_part 363 = .ok (.iconst 1, 1) := by decide +kernel
theorem dX12_part_364 : decode cX12_part 364 = .ok (.goto 4, 3) := by decide +kernel
theorem dX12_part_367 : decode cX12_part 367 = .ok (.iconst 0, 1) := by decide +kernel
theorem dX12_part_368 : decode cX12_part 368 = .ok (.istore_n 2, 1) := by decide +kernel
theorem dX12_part_369 : decode cX12_part 369 = .ok (.aload_n 0, 1) := by decide +kernel
theorem dX12_part_370 : decode cX12_part 370 = .ok (.invokevirtual 339, 3) := by decide +kernel
theorem dX12_part_373 : decode cX12_part 373 = .ok (.goto (-337), 3) := by decide +kernel
theorem dX12_isText_0 : decode cX12_isText 0 = .ok (.aload_n 0, 1) := by decide +kernel
theorem dX12_isText_1 : decode cX12_isText 1 = .ok (.iconst 0, 1) := by decide +kernel
theorem dX12_isText_2 : decode cX12_isText 2 = .ok (.putfield 70, 3) := by decide +kernel
theorem dX12_isText_5 : decode cX12_isText 5 = .ok (.aload_n 0, 1) := by decide +kernel
theorem dX12_isText_6 : decode cX12_isText 6 = .ok (.invokevirtual 339, 3) := by decide +kernel
theorem dX12_isText_9 : decode cX12_isText 9 = .ok (.iconst 0, 1) := by decide +kernel
theorem dX12_isText_10 : decode cX12_isText 10 = .ok (.istore_n 1, 1) := by decide +kernel
theorem dX12_isText_11 : decode cX12_isText 11 = .ok (.iload_n 1, 1) := by decide +kernel
theorem dX12_isText_12 : decode cX12_isText 12 = .ok (.iconst 2, 1) := by decide +kernel
theorem dX12_isText_13 : decode cX12_isText 13 = .ok (.if_icmp .ge 48, 3) := by decide +kernel
theorem dX12_isText_16 : decode cX12_isText 16 = .ok (.aload_n 0, 1) := by decide +kernel
theorem dX12_isText_17 : decode cX12_isText 17 = .ok (.iload_n 1, 1) := by decide +kernel
theorem dX12_isText_18 : decode cX12_isText 18 = .ok (.invokevirtual 323, 3) := by decide +kernel
theorem dX12_isText_21 : decode cX12_isText 21 = .ok (.ifCond .ne 5, 3) := by decide +kernel
theorem dX12_isText_24 : decode cX12_isText 24 = .ok (.iconst 0, 1) := by decide +kernel
theorem dX12_isText_25 : decode cX12_isText 25 = .ok (.ireturn, 1) := by decide +kernel
theorem dX12_isText_26 : decode cX12_isText 26 = .ok (.aload_n 0, 1) := by decide +kernel
theorem dX12_isText_27 : decode cX12_isText 27 = .ok (.invokevirtual 339, 3) := by decide +kernel
theorem dX12_isText_30 : decode cX12_isText 30 = .ok (.aload_n 0, 1) := by decide +kernel
theorem dX12_isText_31 : decode cX12_isText 31 = .ok (.iconst 2, 1) := by decide +kernel
theorem dX12_isText_32 : decode cX12_isText 32 = .ok (.aload_n 0, 1) := by decide +kernel
theorem dX12_isText_33 : decode cX12_isText 33 = .ok (.getfield 58, 3) := by decide +kernel
theorem dX12_isText_36 : decode cX12_isText 36 = .ok (.imul, 1) := by decide +kernel
theorem dX12_isText_37 : decode cX12_isText 37 = .ok (.iload_n 1, 1) := by decide +kernel
theorem dX12_isText_38 : decode cX12_isText 38 = .ok (.iadd, 1) := by decide +kernel
theorem dX12_isText_39 : decode cX12_isText 39 = .ok (.putfield 97, 3) := by decide +kernel
theorem dX12_isText_42 : decode cX12_isText 42 = .ok (.aload_n 0, 1) := by decide +kernel
theorem dX12_isText_43 : decode cX12_isText 43 = .ok (.invokevirtual 346, 3) := by decide +kernel
theorem dX12_isText_46 : decode cX12_isText 46 = .ok (.ifCond .ne 5, 3) := by decide +kernel
theorem dX12_isText_49 : decode cX12_isText 49 = .ok (.iconst 0, 1) := by decide +kernel
theorem dX12_isText_50 : decode cX12_isText 50 = .ok (.ireturn, 1) := by decide +kernel
theorem dX12_isText_51 : decode cX12_isText 51 = .ok (.aload_n 0, 1) := by decide +kernel
theorem dX12_isText_52 : decode cX12_isText 52 = .ok (.invokevirtual 339, 3) := by decide +kernel
theorem dX12_isText_55 : decode cX12_isText 55 = .ok (.iinc 1 1, 3) := by decide +kernel
theorem dX12_isText_58 : decode cX12_isText 58 = .ok (.goto (-47), 3) := by decide +kernel
theorem dX12_isText_61 : decode cX12_isText 61 = .ok (.aload_n 0, 1) := by decide +kernel
theorem dX12_isText_62 : decode cX12_isText 62 = .ok (.getfield 73, 3) := by decide +kernel
theorem dX12_isText_65 : decode cX12_isText 65 = .ok (.ifCond .ne 7, 3) := by decide +kernel
theorem dX12_isText_68 : decode cX12_isText 68 = .ok (.iconst 1, 1) := by decide +kernel
theorem dX12_isText_69 : decode cX12_isText 69 = .ok (.goto 4, 3) := by decide +kernel
theorem dX12_isText_72 : decode cX12_isText 72 = .ok (.iconst 0, 1) := by decide +kernel
theorem dX12_isText_73 : decode cX12_isText 73 = .ok (.ireturn, 1) := by decide +kernel
theorem dX12_text_0 : decode cX12_text 0 = .ok (.aload_n 0, 1) := by decide +kernel
theorem dX12_text_1 : decode cX12_text 1 = .ok (.getfield 58, 3) := by decide +kernel
theorem dX12_text_4 : decode cX12_text 4 = .ok (.bipush 6, 2) := by decide +kernel
theorem dX12_text_6 : decode cX12_text 6 = .ok (.if_icmp .ne 6, 3) := by decide +kernel
theorem dX12_text_9 : decode cX12_text 9 = .ok (.bipush (-4), 2) := by decide +kernel
theorem dX12_text_11 : decode cX12_text 11 = .ok (.ireturn, 1) := by decide +kernel
theorem dX12_text_12 : decode cX12_text 12 = .ok (.aload_n 0, 1) := by decide +kernel
theorem dX12_text_13 : decode cX12_text 13 = .ok (.invokevirtual 350, 3) := by decide +kernel
theorem dX12_text_16 : decode cX12_text 16 = .ok (.istore_n 1, 1) := by decide +kernel
theorem dX12_text_17 : decode cX12_text 17 = .ok (.aload_n 0, 1) := by decide +kernel
theorem dX12_text_18 : decode cX12_text 18 = .ok (.getfield 79, 3) := by decide +kernel
theorem dX12_text_21 : decode cX12_text 21 = .ok (.istore_n 2, 1) := by decide +kernel
theorem dX12_text_22 : decode cX12_text 22 = .ok (.aload_n 0, 1) := by decide +kernel
theorem dX12_text_23 : decode cX12_text 23 = .ok (.iconst 0, 1) := by decide +kernel
theorem dX12_text_24 : decode cX12_text 24 = .ok (.putfield 55, 3) := by decide +kernel
theorem dX12_text_27 : decode cX12_text 27 = .ok (.iload_n 1, 1) := by decide +kernel
theorem dX12_text_28 : decode cX12_text 28 = .ok (.ifCond .ne 8, 3) := by decide +kernel
theorem dX12_text_31 : decode cX12_text 31 = .ok (.bipush (-100), 2) := by decide +kernel
theorem dX12_text_33 : decode cX12_text 33 = .ok (.iload_n 2, 1) := by decide +kernel
theorem dX12_text_34 : decode cX12_text 34 = .ok (.isub, 1) := by decide +kernel
theorem dX12_text_35 : decode cX12_text 35 = .ok (.ireturn, 1) := by decide +kernel
theorem dX12_text_36 : decode cX12_text 36 = .ok (.aload_n 0, 1) := by decide +kernel
theorem dX12_text_37 : decode cX12_text 37 = .ok (.dup, 1) := by decide +kernel
theorem dX12_text_38 : decode cX12_text 38 = .ok (.getfield 58, 3) := by decide +kernel
theorem dX12_text_41 : decode cX12_text 41 = .ok (.iconst 1, 1) := by decide +kernel
theorem dX12_text_42 : decode cX12_text 42 = .ok (.iadd, 1) := by decide +kernel
theorem dX12_text_43 : decode cX12_text 43 = .ok (.putfield 58, 3) := by decide +kernel
theorem dX12_text_46 : decode cX12_text 46 = .ok (.aload_n 0, 1) := by decide +kernel
theorem dX12_text_47 : decode cX12_text 47 = .ok (.getfield 58, 3) := by decide +kernel
theorem dX12_text_50 : decode cX12_text 50 = .ok (.iconst 1, 1) := by decide +kernel
theorem dX12_text_51 : decode cX12_text 51 = .ok (.isub, 1) := by decide +kernel
theorem dX12_text_52 : decode cX12_text 52 = .ok (.ireturn, 1) := by decide +kernel
theorem dX12_force_0 : decode cX12_force 0 = .ok (.aload_n 0, 1) := by decide +kernel
theorem dX12_force_1 : decode cX12_force 1 = .ok (.iload_n 1, 1) := by decide +kernel
theorem dX12_force_2 : decode cX12_force 2 = .ok (.iconst 0, 1) := by decide +kernel
theorem dX12_force_3 : decode cX12_force 3 = .ok (.iconst 2, 1) := by decide +kernel
theorem dX12_force_4 : decode cX12_force 4 = .ok (.invokevirtual 218, 3) := by decide +kernel
theorem dX12_force_7 : decode cX12_force 7 = .ok (.ifCond .eq 18, 3) := by decide +kernel
theorem dX12_force_10 : decode cX12_force 10 = .ok (.aload_n 0, 1) := by decide +kernel
theorem dX12_force_11 : decode cX12_force 11 = .ok (.iload_n 2, 1) := by decide +kernel
theorem dX12_force_12 : decode cX12_force 12 = .ok (.iconst 0, 1) := by decide +kernel
theorem dX12_force_13 : decode cX12_force 13 = .ok (.aload_n 0, 1) := by decide +kernel
theorem dX12_force_14 : decode cX12_force 14 = .ok (.getfield 58, 3) := by decide +kernel
theorem dX12_force_17 : decode cX12_force 17 = .ok (.iconst 1, 1) := by decide +kernel
theorem dX12_force_18 : decode cX12_force 18 = .ok (.isub, 1) := by decide +kernel
theorem dX12_force_19 : decode cX12_force 19 = .ok (.invokevirtual 218, 3) := by decide +kernel
theorem dX12_force_22 : decode cX12_force 22 = .ok (.ifCond .ne 6, 3) := by decide +kernel
theorem dX12_force_25 : decode cX12_force 25 = .ok (.bipush (-2), 2) := by decide +kernel
theorem dX12_force_27 : decode cX12_force 27 = .ok (.ireturn, 1) := by decide +kernel
theorem dX12_force_28 : decode cX12_force 28 = .ok (.aload_n 0, 1) := by decide +kernel
theorem dX12_force_29 : decode cX12_force 29 = .ok (.getfield 61, 3) := by decide +kernel
theorem dX12_force_32 : decode cX12_force 32 = .ok (.iload_n 1, 1) := by decide +kernel
theorem dX12_force_33 : decode cX12_force 33 = .ok (.iaload, 1) := by decide +kernel
theorem dX12_force_34 : decode cX12_force 34 = .ok (.istore_n 3, 1) := by decide +kernel
theorem dX12_force_35 : decode cX12_force 35 = .ok (.aload_n 0, 1) := by decide +kernel
theorem dX12_force_36 : decode cX12_force 36 = .ok (.getfield 61, 3) := by decide +kernel
theorem dX12_force_39 : decode cX12_force 39 = .ok (.iload_n 1, 1) := by decide +kernel
theorem dX12_force_40 : decode cX12_force 40 = .ok (.iload_n 2, 1) := by decide +kernel
theorem dX12_force_41 : decode cX12_force 41 = .ok (.iastore, 1) := by decide +kernel
theorem dX12_force_42 : decode cX12_force 42 = .ok (.iload_n 3, 1) := by decide +kernel
theorem dX12_force_43 : decode cX12_force 43 = .ok (.ireturn, 1) := by decide +kernel
theorem dX12_both_0 : decode cX12_both 0 = .ok (.iload_n 1, 1) := by decide +kernel
theorem dX12_both_1 : decode cX12_both 1 = .ok (.tableswitch 101 (-7) (-1) #[97, 93, 82, 71, 101, 57, 43], 43) := by decide +kernel
theorem dX12_both_44 : decode cX12_both 44 = .ok (.iload_n 2, 1) := by decide +kernel
theorem dX12_both_45 : decode cX12_both 45 = .ok (.ifCond .ne 7, 3) := by decide +kernel
theorem dX12_both_48 : decode cX12_both 48 = .ok (.iload_n 3, 1) := by decide +kernel
theorem dX12_both_49 : decode cX12_both 49 = .ok (.ifCond .eq 7, 3) := by decide +kernel
theorem dX12_both_52 : decode cX12_both 52 = .ok (.iconst 1, 1) := by decide +kernel
theorem dX12_both_53 : decode cX12_both 53 = .ok (.goto 4, 3) := by decide +kernel
theorem dX12_both_56 : decode cX12_both 56 = .ok (.iconst 0, 1) := by decide +kernel
theorem dX12_both_57 : decode cX12_both 57 = .ok (.ireturn, 1) := by decide +kernel
theorem dX12_both_58 : decode cX12_both 58 = .ok (.iload_n 2, 1) := by decide +kernel
theorem dX12_both_59 : decode cX12_both 59 = .ok (.ifCond .eq 11, 3) := by decide +kernel
theorem dX12_both_62 : decode cX12_both 62 = .ok (.iload_n 3, 1) := by decide +kernel
theorem dX12_both_63 : decode cX12_both 63 = .ok (.ifCond .eq 7, 3) := by decide +kernel
theorem dX12_both_66 : decode cX12_both 66 = .ok (.iconst 1, 1) := by decide +kernel
theorem dX12_both_67 : decode cX12_both 67 = .ok (.goto 4, 3) := by decide +kernel
theorem dX12_both_70 : decode cX12_both 70 = .ok (.iconst 0, 1) := by decide +kernel
theorem dX12_both_71 : decode cX12_both 71 = .ok (.ireturn, 1) := by decide +kernel
theorem dX12_both_72 : decode cX12_both 72 = .ok (.iload_n 2, 1) := by decide +kernel
theorem dX12_both_73 : decode cX12_both 73 = .ok (.iload_n 3, 1) := by decide +kernel
theorem dX12_both_74 : decode cX12_both 74 = .ok (.if_icmp .ge 7, 3) := by decide +kernel
theorem dX12_both_77 : decode cX12_both 77 = .ok (.iconst 1, 1) := by decide +kernel
theorem dX12_both_78 : decode cX12_both 78 = .ok (.goto 4, 3) := by decide +kernel
theorem dX12_both_81 : decode cX12_both 81 = .ok (.iconst 0, 1) := by decide +kernel
theorem dX12_both_82 : decode cX12_both 82 = .ok (.ireturn, 1) := by decide +kernel
theorem dX12_both_83 : decode cX12_both 83 = .ok (.iload_n 2, 1) := by decide +kernel
theorem dX12_both_84 : decode cX12_both 84 = .ok (.iload_n 3, 1) := by decide +kernel
theorem dX12_both_85 : decode cX12_both 85 = .ok (.if_icmp .ne 7, 3) := by decide +kernel
theorem dX12_both_88 : decode cX12_both 88 = .ok (.iconst 1, 1) := by decide +kernel
theorem dX12_both_89 : decode cX12_both 89 = .ok (.goto 4, 3) := by decide +kernel
theorem dX12_both_92 : decode cX12_both 92 = .ok (.iconst 0, 1) := by decide +kernel
theorem dX12_both_93 : decode cX12_both 93 = .ok (.ireturn, 1) := by decide +kernel
theorem dX12_both_94 : decode cX12_both 94 = .ok (.iload_n 2, 1) := by decide +kernel
theorem dX12_both_95 : decode cX12_both 95 = .ok (.iload_n 3, 1) := by decide +kernel
theorem dX12_both_96 : decode cX12_both 96 = .ok (.iadd, 1) := by decide +kernel
theorem dX12_both_97 : decode cX12_both 97 = .ok (.ireturn, 1) := by decide +kernel
theorem dX12_both_98 : decode cX12_both 98 = .ok (.iload_n 2, 1) := by decide +kernel
theorem dX12_both_99 : decode cX12_both 99 = .ok (.iload_n 3, 1) := by decide +kernel
theorem dX12_both_100 : decode cX12_both 100 = .ok (.isub, 1) := by decide +kernel
theorem dX12_both_101 : decode cX12_both 101 = .ok (.ireturn, 1) := by decide +kernel
theorem dX12_both_102 : decode cX12_both 102 = .ok (.iload_n 2, 1) := by decide +kernel
theorem dX12_both_103 : decode cX12_both 103 = .ok (.iload_n 3, 1) := by decide +kernel
theorem dX12_both_104 : decode cX12_both 104 = .ok (.imul, 1) := by decide +kernel
theorem dX12_both_105 : decode cX12_both 105 = .ok (.ireturn, 1) := by decide +kernel
theorem dX12_work_0 : decode cX12_work 0 = .ok (.iconst 2, 1) := by decide +kernel
theorem dX12_work_1 : decode cX12_work 1 = .ok (.iload_n 1, 1) := by decide +kernel
theorem dX12_work_2 : decode cX12_work 2 = .ok (.imul, 1) := by decide +kernel
theorem dX12_work_3 : decode cX12_work 3 = .ok (.iload_n 2, 1) := by decide +kernel
theorem dX12_work_4 : decode cX12_work 4 = .ok (.iadd, 1) := by decide +kernel
theorem dX12_work_5 : decode cX12_work 5 = .ok (.istore_n 3, 1) := by decide +kernel
theorem dX12_work_6 : decode cX12_work 6 = .ok (.iconst 0, 1) := by decide +kernel
theorem dX12_work_7 : decode cX12_work 7 = .ok (.istore 4, 2) := by decide +kernel
theorem dX12_work_9 : decode cX12_work 9 = .ok (.iconst 0, 1) := by decide +kernel
theorem dX12_work_10 : decode cX12_work 10 = .ok (.istore 5, 2) := by decide +kernel
theorem dX12_work_12 : decode cX12_work 12 = .ok (.iload 5, 2) := by decide +kernel
theorem dX12_work_14 : decode cX12_work 14 = .ok (.aload_n 0, 1) := by decide +kernel
theorem dX12_work_15 : decode cX12_work 15 = .ok (.getfield 64, 3) := by decide +kernel
theorem dX12_work_18 : decode cX12_work 18 = .ok (.iload_n 3, 1) := by decide +kernel
theorem dX12_work_19 : decode cX12_work 19 = .ok (.iaload, 1) := by decide +kernel
theorem dX12_work_20 : decode cX12_work 20 = .ok (.if_icmp .ge 163, 3) := by decide +kernel
theorem dX12_work_23 : decode cX12_work 23 = .ok (.aload_n 0, 1) := by decide +kernel
theorem dX12_work_24 : decode cX12_work 24 = .ok (.getfield 67, 3) := by decide +kernel
theorem dX12_work_27 : decode cX12_work 27 = .ok (.sipush 160, 3) := by decide +kernel
theorem dX12_work_30 : decode cX12_work 30 = .ok (.iload_n 3, 1) := by decide +kernel
theorem dX12_work_31 : decode cX12_work 31 = .ok (.imul, 1) := by decide +kernel
theorem dX12_work_32 : decode cX12_work 32 = .ok (.iload 5, 2) := by decide +kernel
theorem dX12_work_34 : decode cX12_work 34 = .ok (.iadd, 1) := by decide +kernel
theorem dX12_work_35 : decode cX12_work 35 = .ok (.iaload, 1) := by decide +kernel
theorem dX12_work_36 : decode cX12_work 36 = .ok (.istore 6, 2) := by decide +kernel
theorem dX12_work_38 : decode cX12_work 38 = .ok (.iload 6, 2) := by decide +kernel
theorem dX12_work_40 : decode cX12_work 40 = .ok (.ifCond .lt 40, 3) := by decide +kernel
theorem dX12_work_43 : decode cX12_work 43 = .ok (.aload_n 0, 1) := by decide +kernel
theorem dX12_work_44 : decode cX12_work 44 = .ok (.getfield 103, 3) := by decide +kernel
theorem dX12_work_47 : decode cX12_work 47 = .ok (.iload 4, 2) := by decide +kernel
theorem dX12_work_49 : decode cX12_work 49 = .ok (.iload 6, 2) := by decide +kernel
theorem dX12_work_51 : decode cX12_work 51 = .ok (.sipush 10000, 3) := by decide +kernel
theorem dX12_work_54 : decode cX12_work 54 = .ok (.if_icmp .ge 8, 3) := by decide +kernel
theorem dX12_work_57 : decode cX12_work 57 = .ok (.iload 6, 2) := by decide +kernel
theorem dX12_work_59 : decode cX12_work 59 = .ok (.goto 14, 3) := by decide +kernel
theorem dX12_work_62 : decode cX12_work 62 = .ok (.aload_n 0, 1) := by decide +kernel
theorem dX12_work_63 : decode cX12_work 63 = .ok (.getfield 100, 3) := by decide +kernel
theorem dX12_work_66 : decode cX12_work 66 = .ok (.iload 6, 2) := by decide +kernel
theorem dX12_work_68 : decode cX12_work 68 = .ok (.sipush 10000, 3) := by decide +kernel
theorem dX12_work_71 : decode cX12_work 71 = .ok (.isub, 1) := by decide +kernel
theorem dX12_work_72 : decode cX12_work 72 = .ok (.iaload, 1) := by decide +kernel
theorem dX12_work_73 : decode cX12_work 73 = .ok (.iastore, 1) := by decide +kernel
theorem dX12_work_74 : decode cX12_work 74 = .ok (.iinc 4 1, 3) := by decide +kernel
theorem dX12_work_77 : decode cX12_work 77 = .ok (.goto 100, 3) := by decide +kernel
theorem dX12_work_80 : decode cX12_work 80 = .ok (.iload 6, 2) := by decide +kernel
theorem dX12_work_82 : decode cX12_work 82 = .ok (.bipush (-3), 2) := by decide +kernel
theorem dX12_work_84 : decode cX12_work 84 = .ok (.if_icmp .eq 10, 3) := by decide +kernel
theorem dX12_work_87 : decode cX12_work 87 = .ok (.iload 6, 2) := by decide +kernel
theorem dX12_work_89 : decode cX12_work 89 = .ok (.bipush (-9), 2) := by decide +kernel
theorem dX12_work_91 : decode cX12_work 91 = .ok (.if_icmp .ne 52, 3) := by decide +kernel
theorem dX12_work_94 : decode cX12_work 94 = .ok (.aload_n 0, 1) := by decide +kernel
theorem dX12_work_95 : decode cX12_work 95 = .ok (.getfield 103, 3) := by decide +kernel
theorem dX12_work_98 : decode cX12_work 98 = .ok (.iload 4, 2) := by decide +kernel
theorem dX12_work_100 : decode cX12_work 100 = .ok (.iconst 1, 1) := by decide +kernel
theorem dX12_work_101 : decode cX12_work 101 = .ok (.isub, 1) := by decide +kernel
theorem dX12_work_102 : decode cX12_work 102 = .ok (.iload 6, 2) := by decide +kernel
theorem dX12_work_104 : decode cX12_work 104 = .ok (.bipush (-9), 2) := by decide +kernel
theorem dX12_work_106 : decode cX12_work 106 = .ok (.if_icmp .ne 16, 3) := by decide +kernel
theorem dX12_work_109 : decode cX12_work 109 = .ok (.aload_n 0, 1) := by decide +kernel
theorem dX12_work_110 : decode cX12_work 110 = .ok (.getfield 103, 3) := by decide +kernel
theorem dX12_work_113 : decode cX12_work 113 = .ok (.iload 4, 2) := by decide +kernel
theorem dX12_work_115 : decode cX12_work 115 = .ok (.iconst 1, 1) := by decide +kernel
theorem dX12_work_116 : decode cX12_work 116 = .ok (.isub, 1) := by decide +kernel
theorem dX12_work_117 : decode cX12_work 117 = .ok (.iaload, 1) := by decide +kernel
theorem dX12_work_118 : decode cX12_work 118 = .ok (.ineg, 1) := by decide +kernel
theorem dX12_work_119 : decode cX12_work 119 = .ok (.goto 20, 3) := by decide +kernel
theorem dX12_work_122 : decode cX12_work 122 = .ok (.aload_n 0, 1) := by decide +kernel
theorem dX12_work_123 : decode cX12_work 123 = .ok (.getfield 103, 3) := by decide +kernel
theorem dX12_work_126 : decode cX12_work 126 = .ok (.iload 4, 2) := by decide +kernel
theorem dX12_work_128 : decode cX12_work 128 = .ok (.iconst 1, 1) := by decide +kernel
theorem dX12_work_129 : decode cX12_work 129 = .ok (.isub, 1) := by decide +kernel
theorem dX12_work_130 : decode cX12_work 130 = .ok (.iaload, 1) := by decide +kernel
theorem dX12_work_131 : decode cX12_work 131 = .ok (.ifCond .ne 7, 3) := by decide +kernel
theorem dX12_work_134 : decode cX12_work 134 = .ok (.iconst 1, 1) := by decide +kernel
theorem dX12_work_135 : decode cX12_work 135 = .ok (.goto 4, 3) := by decide +kernel
theorem dX12_work_138 : decode cX12_work 138 = .ok (.iconst 0, 1) := by decide +kernel
theorem dX12_work_139 : decode cX12_work 139 = .ok (.iastore, 1) := by decide +kernel
theorem dX12_work_140 : decode cX12_work 140 = .ok (.goto 37, 3) := by decide +kernel
theorem dX12_work_143 : decode cX12_work 143 = .ok (.iinc 4 (-1), 3) := by decide +kernel
theorem dX12_work_146 : decode cX12_work 146 = .ok (.aload_n 0, 1) := by decide +kernel
theorem dX12_work_147 : decode cX12_work 147 = .ok (.getfield 103, 3) := by decide +kernel
theorem dX12_work_150 : decode cX12_work 150 = .ok (.iload 4, 2) := by decide +kernel
theorem dX12_work_152 : decode cX12_work 152 = .ok (.iconst 1, 1) := by decide +kernel
theorem dX12_work_153 : decode cX12_work 153 = .ok (.isub, 1) := by decide +kernel
theorem dX12_work_154 : decode cX12_work 154 = .ok (.aload_n 0, 1) := by decide +kernel
theorem dX12_work_155 : decode cX12_work 155 = .ok (.iload 6, 2) := by decide +kernel
theorem dX12_work_157 : decode cX12_work 157 = .ok (.aload_n 0, 1) := by decide +kernel
theorem dX12_work_158 : decode cX12_work 158 = .ok (.getfield 103, 3) := by decide +kernel
theorem dX12_work_161 : decode cX12_work 161 = .ok (.iload 4, 2) := by decide +kernel
theorem dX12_work_163 : decode cX12_work 163 = .ok (.iconst 1, 1) := by decide +kernel
theorem dX12_work_164 : decode cX12_work 164 = .ok (.isub, 1) := by decide +kernel
theorem dX12_work_165 : decode cX12_work 165 = .ok (.iaload, 1) := by decide +kernel
theorem dX12_work_166 : decode cX12_work 166 = .ok (.aload_n 0, 1) := by decide +kernel
theorem dX12_work_167 : decode cX12_work 167 = .ok (.getfield 103, 3) := by decide +kernel
theorem dX12_work_170 : decode cX12_work 170 = .ok (.iload 4, 2) := by decide +kernel
theorem dX12_work_172 : decode cX12_work 172 = .ok (.iaload, 1) := by decide +kernel
theorem dX12_work_173 : decode cX12_work 173 = .ok (.invokevirtual 353, 3) := by decide +kernel
theorem dX12_work_176 : decode cX12_work 176 = .ok (.iastore, 1) := by decide +kernel
theorem dX12_work_177 : decode cX12_work 177 = .ok (.iinc 5 1, 3) := by decide +kernel
theorem dX12_work_180 : decode cX12_work 180 = .ok (.goto (-168), 3) := by decide +kernel
theorem dX12_work_183 : decode cX12_work 183 = .ok (.aload_n 0, 1) := by decide +kernel
theorem dX12_work_184 : decode cX12_work 184 = .ok (.getfield 103, 3) := by decide +kernel
theorem dX12_work_187 : decode cX12_work 187 = .ok (.iconst 0, 1) := by decide +kernel
theorem dX12_work_188 : decode cX12_work 188 = .ok (.iaload, 1) := by decide +kernel
theorem dX12_work_189 : decode cX12_work 189 = .ok (.ireturn, 1) := by decide +kernel
theorem dX12_ask_0 : decode cX12_ask 0 = .ok (.aload_n 0, 1) := by decide +kernel
theorem dX12_ask_1 : decode cX12_ask 1 = .ok (.iload_n 1, 1) := by decide +kernel
theorem dX12_ask_2 : decode cX12_ask 2 = .ok (.iload_n 2, 1) := by decide +kernel
theorem dX12_ask_3 : decode cX12_ask 3 = .ok (.invokevirtual 249, 3) := by decide +kernel
theorem dX12_ask_6 : decode cX12_ask 6 = .ok (.istore 5, 2) := by decide +kernel
theorem dX12_ask_8 : decode cX12_ask 8 = .ok (.aload_n 0, 1) := by decide +kernel
theorem dX12_ask_9 : decode cX12_ask 9 = .ok (.getfield 100, 3) := by decide +kernel
theorem dX12_ask_12 : decode cX12_ask 12 = .ok (.iconst 0, 1) := by decide +kernel
theorem dX12_ask_13 : decode cX12_ask 13 = .ok (.aload_n 0, 1) := by decide +kernel
theorem dX12_ask_14 : decode cX12_ask 14 = .ok (.getfield 35, 3) := by decide +kernel
theorem dX12_ask_17 : decode cX12_ask 17 = .ok (.iload_n 1, 1) := by decide +kernel
theorem dX12_ask_18 : decode cX12_ask 18 = .ok (.iaload, 1) := by decide +kernel
theorem dX12_ask_19 : decode cX12_ask 19 = .ok (.iastore, 1) := by decide +kernel
theorem dX12_ask_20 : decode cX12_ask 20 = .ok (.aload_n 0, 1) := by decide +kernel
theorem dX12_ask_21 : decode cX12_ask 21 = .ok (.getfield 100, 3) := by decide +kernel
theorem dX12_ask_24 : decode cX12_ask 24 = .ok (.iconst 1, 1) := by decide +kernel
theorem dX12_ask_25 : decode cX12_ask 25 = .ok (.aload_n 0, 1) := by decide +kernel
theorem dX12_ask_26 : decode cX12_ask 26 = .ok (.getfield 29, 3) := by decide +kernel
theorem dX12_ask_29 : decode cX12_ask 29 = .ok (.iload_n 1, 1) := by decide +kernel
theorem dX12_ask_30 : decode cX12_ask 30 = .ok (.iaload, 1) := by decide +kernel
theorem dX12_ask_31 : decode cX12_ask 31 = .ok (.iconst 2, 1) := by decide +kernel
theorem dX12_ask_32 : decode cX12_ask 32 = .ok (.if_icmp .ge 29, 3) := by decide +kernel
theorem dX12_ask_35 : decode cX12_ask 35 = .ok (.aload_n 0, 1) := by decide +kernel
theorem dX12_ask_36 : decode cX12_ask 36 = .ok (.getfield 29, 3) := by decide +kernel
theorem dX12_ask_39 : decode cX12_ask 39 = .ok (.iload_n 1, 1) := by decide +kernel
theorem dX12_ask_40 : decode cX12_ask 40 = .ok (.iaload, 1) := by decide +kernel
theorem dX12_ask_41 : decode cX12_ask 41 = .ok (.aload_n 0, 1) := by decide +kernel
theorem dX12_ask_42 : decode cX12_ask 42 = .ok (.iload 5, 2) := by decide +kernel
theorem dX12_ask_44 : decode cX12_ask 44 = .ok (.invokevirtual 226, 3) := by decide +kernel
theorem dX12_ask_47 : decode cX12_ask 47 = .ok (.if_icmp .eq 14, 3) := by decide +kernel
theorem dX12_ask_50 : decode cX12_ask 50 = .ok (.iconst (-1), 1) := by decide +kernel
theorem dX12_ask_51 : decode cX12_ask 51 = .ok (.aload_n 0, 1) := by decide +kernel
theorem dX12_ask_52 : decode cX12_ask 52 = .ok (.iload 5, 2) := by decide +kernel
theorem dX12_ask_54 : decode cX12_ask 54 = .ok (.invokevirtual 230, 3) := by decide +kernel
theorem dX12_ask_57 : decode cX12_ask 57 = .ok (.isub, 1) := by decide +kernel
theorem dX12_ask_58 : decode cX12_ask 58 = .ok (.goto 9, 3) := by decide +kernel
theorem dX12_ask_61 : decode cX12_ask 61 = .ok (.aload_n 0, 1) := by decide +kernel
theorem dX12_ask_62 : decode cX12_ask 62 = .ok (.iload 5, 2) := by decide +kernel
theorem dX12_ask_64 : decode cX12_ask 64 = .ok (.invokevirtual 230, 3) := by decide +kernel
theorem dX12_ask_67 : decode cX12_ask 67 = .ok (.iastore, 1) := by decide +kernel
theorem dX12_ask_68 : decode cX12_ask 68 = .ok (.aload_n 0, 1) := by decide +kernel
theorem dX12_ask_69 : decode cX12_ask 69 = .ok (.getfield 100, 3) := by decide +kernel
theorem dX12_ask_72 : decode cX12_ask 72 = .ok (.iconst 2, 1) := by decide +kernel
theorem dX12_ask_73 : decode cX12_ask 73 = .ok (.aload_n 0, 1) := by decide +kernel
theorem dX12_ask_74 : decode cX12_ask 74 = .ok (.iload 5, 2) := by decide +kernel
theorem dX12_ask_76 : decode cX12_ask 76 = .ok (.invokevirtual 230, 3) := by decide +kernel
theorem dX12_ask_79 : decode cX12_ask 79 = .ok (.aload_n 0, 1) := by decide +kernel
theorem dX12_ask_80 : decode cX12_ask 80 = .ok (.getfield 16, 3) := by decide +kernel
theorem dX12_ask_83 : decode cX12_ask 83 = .ok (.if_icmp .ge 7, 3) := by decide +kernel
theorem dX12_ask_86 : decode cX12_ask 86 = .ok (.iconst 1, 1) := by decide +kernel
theorem dX12_ask_87 : decode cX12_ask 87 = .ok (.goto 4, 3) := by decide +kernel
theorem dX12_ask_90 : decode cX12_ask 90 = .ok (.iconst 0, 1) := by decide +kernel
theorem dX12_ask_91 : decode cX12_ask 91 = .ok (.iastore, 1) := by decide +kernel
theorem dX12_ask_92 : decode cX12_ask 92 = .ok (.aload_n 0, 1) := by decide +kernel
theorem dX12_ask_93 : decode cX12_ask 93 = .ok (.getfield 100, 3) := by decide +kernel
theorem dX12_ask_96 : decode cX12_ask 96 = .ok (.iconst 3, 1) := by decide +kernel
theorem dX12_ask_97 : decode cX12_ask 97 = .ok (.iload_n 2, 1) := by decide +kernel
theorem dX12_ask_98 : decode cX12_ask 98 = .ok (.iastore, 1) := by decide +kernel
theorem dX12_ask_99 : decode cX12_ask 99 = .ok (.aload_n 0, 1) := by decide +kernel
theorem dX12_ask_100 : decode cX12_ask 100 = .ok (.getfield 100, 3) := by decide +kernel
theorem dX12_ask_103 : decode cX12_ask 103 = .ok (.iconst 4, 1) := by decide +kernel
theorem dX12_ask_104 : decode cX12_ask 104 = .ok (.aload_n 0, 1) := by decide +kernel
theorem dX12_ask_105 : decode cX12_ask 105 = .ok (.getfield 26, 3) := by decide +kernel
theorem dX12_ask_108 : decode cX12_ask 108 = .ok (.iload_n 1, 1) := by decide +kernel
theorem dX12_ask_109 : decode cX12_ask 109 = .ok (.iaload, 1) := by decide +kernel
theorem dX12_ask_110 : decode cX12_ask 110 = .ok (.iastore, 1) := by decide +kernel
theorem dX12_ask_111 : decode cX12_ask 111 = .ok (.aload_n 0, 1) := by decide +kernel
theorem dX12_ask_112 : decode cX12_ask 112 = .ok (.getfield 100, 3) := by decide +kernel
theorem dX12_ask_115 : decode cX12_ask 115 = .ok (.iconst 5, 1) := by decide +kernel
theorem dX12_ask_116 : decode cX12_ask 116 = .ok (.iload_n 3, 1) := by decide +kernel
theorem dX12_ask_117 : decode cX12_ask 117 = .ok (.ifCond .ne 7, 3) := by decide +kernel
theorem dX12_ask_120 : decode cX12_ask 120 = .ok (.iconst 0, 1) := by decide +kernel
theorem dX12_ask_121 : decode cX12_ask 121 = .ok (.goto 5, 3) := by decide +kernel
theorem dX12_ask_124 : decode cX12_ask 124 = .ok (.iload 4, 2) := by decide +kernel
theorem dX12_ask_126 : decode cX12_ask 126 = .ok (.iastore, 1) := by decide +kernel
theorem dX12_ask_127 : decode cX12_ask 127 = .ok (.aload_n 0, 1) := by decide +kernel
theorem dX12_ask_128 : decode cX12_ask 128 = .ok (.aload_n 0, 1) := by decide +kernel
theorem dX12_ask_129 : decode cX12_ask 129 = .ok (.getfield 61, 3) := by decide +kernel
theorem dX12_ask_132 : decode cX12_ask 132 = .ok (.iload_n 3, 1) := by decide +kernel
theorem dX12_ask_133 : decode cX12_ask 133 = .ok (.ifCond .ne 7, 3) := by decide +kernel
theorem dX12_ask_136 : decode cX12_ask 136 = .ok (.iconst 2, 1) := by decide +kernel
theorem dX12_ask_137 : decode cX12_ask 137 = .ok (.goto 9, 3) := by decide +kernel
theorem dX12_ask_140 : decode cX12_ask 140 = .ok (.aload_n 0, 1) := by decide +kernel
theorem dX12_ask_141 : decode cX12_ask 141 = .ok (.getfield 29, 3) := by decide +kernel
theorem dX12_ask_144 : decode cX12_ask 144 = .ok (.iload_n 1, 1) := by decide +kernel
theorem dX12_ask_145 : decode cX12_ask 145 = .ok (.iaload, 1) := by decide +kernel
theorem dX12_ask_146 : decode cX12_ask 146 = .ok (.iaload, 1) := by decide +kernel
theorem dX12_ask_147 : decode cX12_ask 147 = .ok (.iload_n 3, 1) := by decide +kernel
theorem dX12_ask_148 : decode cX12_ask 148 = .ok (.invokevirtual 356, 3) := by decide +kernel
theorem dX12_ask_151 : decode cX12_ask 151 = .ok (.ireturn, 1) := by decide +kernel
theorem dX12_says_0 : decode cX12_says 0 = .ok (.aload_n 0, 1) := by decide +kernel
theorem dX12_says_1 : decode cX12_says 1 = .ok (.iload_n 1, 1) := by decide +kernel
theorem dX12_says_2 : decode cX12_says 2 = .ok (.invokevirtual 236, 3) := by decide +kernel
theorem dX12_says_5 : decode cX12_says 5 = .ok (.ifCond .eq 46, 3) := by decide +kernel
theorem dX12_says_8 : decode cX12_says 8 = .ok (.aload_n 0, 1) := by decide +kernel
theorem dX12_says_9 : decode cX12_says 9 = .ok (.iload_n 2, 1) := by decide +kernel
theorem dX12_says_10 : decode cX12_says 10 = .ok (.invokevirtual 246, 3) := by decide +kernel
theorem dX12_says_13 : decode cX12_says 13 = .ok (.ifCond .eq 38, 3) := by decide +kernel
theorem dX12_says_16 : decode cX12_says 16 = .ok (.aload_n 0, 1) := by decide +kernel
theorem dX12_says_17 : decode cX12_says 17 = .ok (.iload_n 3, 1) := by decide +kernel
theorem dX12_says_18 : decode cX12_says 18 = .ok (.iconst 0, 1) := by decide +kernel
theorem dX12_says_19 : decode cX12_says 19 = .ok (.iconst 1, 1) := by decide +kernel
theorem dX12_says_20 : decode cX12_says 20 = .ok (.invokevirtual 218, 3) := by decide +kernel
theorem dX12_says_23 : decode cX12_says 23 = .ok (.ifCond .eq 28, 3) := by decide +kernel
theorem dX12_says_26 : decode cX12_says 26 = .ok (.aload_n 0, 1) := by decide +kernel
theorem dX12_says_27 : decode cX12_says 27 = .ok (.iload 4, 2) := by decide +kernel
theorem dX12_says_29 : decode cX12_says 29 = .ok (.iconst 0, 1) := by decide +kernel
theorem dX12_says_30 : decode cX12_says 30 = .ok (.bipush 99, 2) := by decide +kernel
theorem dX12_says_32 : decode cX12_says 32 = .ok (.invokevirtual 218, 3) := by decide +kernel
theorem dX12_says_35 : decode cX12_says 35 = .ok (.ifCond .eq 16, 3) := by decide +kernel
theorem dX12_says_38 : decode cX12_says 38 = .ok (.aload_n 0, 1) := by decide +kernel
theorem dX12_says_39 : decode cX12_says 39 = .ok (.iload_n 1, 1) := by decide +kernel
theorem dX12_says_40 : decode cX12_says 40 = .ok (.iload_n 2, 1) := by decide +kernel
theorem dX12_says_41 : decode cX12_says 41 = .ok (.iload_n 3, 1) := by decide +kernel
theorem dX12_says_42 : decode cX12_says 42 = .ok (.iload 4, 2) := by decide +kernel
theorem dX12_says_44 : decode cX12_says 44 = .ok (.invokevirtual 359, 3) := by decide +kernel
theorem dX12_says_47 : decode cX12_says 47 = .ok (.i2l, 1) := by decide +kernel
theorem dX12_says_48 : decode cX12_says 48 = .ok (.goto 6, 3) := by decide +kernel
theorem dX12_says_51 : decode cX12_says 51 = .ok (.ldc2_w 274, 3) := by decide +kernel
theorem dX12_says_54 : decode cX12_says 54 = .ok (.lreturn, 1) := by decide +kernel
theorem dX12_breaches_0 : decode cX12_breaches 0 = .ok (.aload_n 0, 1) := by decide +kernel
theorem dX12_breaches_1 : decode cX12_breaches 1 = .ok (.iload_n 1, 1) := by decide +kernel
theorem dX12_breaches_2 : decode cX12_breaches 2 = .ok (.iconst (-1), 1) := by decide +kernel
theorem dX12_breaches_3 : decode cX12_breaches 3 = .ok (.iconst 2, 1) := by decide +kernel
theorem dX12_breaches_4 : decode cX12_breaches 4 = .ok (.invokevirtual 218, 3) := by decide +kernel
theorem dX12_breaches_7 : decode cX12_breaches 7 = .ok (.ifCond .eq 11, 3) := by decide +kernel
theorem dX12_breaches_10 : decode cX12_breaches 10 = .ok (.aload_n 0, 1) := by decide +kernel
theorem dX12_breaches_11 : decode cX12_breaches 11 = .ok (.iload_n 2, 1) := by decide +kernel
theorem dX12_breaches_12 : decode cX12_breaches 12 = .ok (.invokevirtual 246, 3) := by decide +kernel
theorem dX12_breaches_15 : decode cX12_breaches 15 = .ok (.ifCond .ne 6, 3) := by decide +kernel
theorem dX12_breaches_18 : decode cX12_breaches 18 = .ok (.bipush (-2), 2) := by decide +kernel
theorem dX12_breaches_20 : decode cX12_breaches 20 = .ok (.ireturn, 1) := by decide +kernel
theorem dX12_breaches_21 : decode cX12_breaches 21 = .ok (.iload_n 1, 1) := by decide +kernel
theorem dX12_breaches_22 : decode cX12_breaches 22 = .ok (.ifCond .ge 7, 3) := by decide +kernel
theorem dX12_breaches_25 : decode cX12_breaches 25 = .ok (.lconst 0, 1) := by decide +kernel
theorem dX12_breaches_26 : decode cX12_breaches 26 = .ok (.goto 9, 3) := by decide +kernel
theorem dX12_breaches_29 : decode cX12_breaches 29 = .ok (.aload_n 0, 1) := by decide +kernel
theorem dX12_breaches_30 : decode cX12_breaches 30 = .ok (.iload_n 1, 1) := by decide +kernel
theorem dX12_breaches_31 : decode cX12_breaches 31 = .ok (.iload_n 2, 1) := by decide +kernel
theorem dX12_breaches_32 : decode cX12_breaches 32 = .ok (.invokevirtual 276, 3) := by decide +kernel
theorem dX12_breaches_35 : decode cX12_breaches 35 = .ok (.lstore_n 3, 1) := by decide +kernel
theorem dX12_breaches_36 : decode cX12_breaches 36 = .ok (.iconst 0, 1) := by decide +kernel
theorem dX12_breaches_37 : decode cX12_breaches 37 = .ok (.istore 5, 2) := by decide +kernel
theorem dX12_breaches_39 : decode cX12_breaches 39 = .ok (.iconst 0, 1) := by decide +kernel
theorem dX12_breaches_40 : decode cX12_breaches 40 = .ok (.istore 6, 2) := by decide +kernel
theorem dX12_breaches_42 : decode cX12_breaches 42 = .ok (.iload 6, 2) := by decide +kernel
theorem dX12_breaches_44 : decode cX12_breaches 44 = .ok (.aload_n 0, 1) := by decide +kernel
theorem dX12_breaches_45 : decode cX12_breaches 45 = .ok (.getfield 23, 3) := by decide +kernel
theorem dX12_breaches_48 : decode cX12_breaches 48 = .ok (.if_icmp .ge 74, 3) := by decide +kernel
theorem dX12_breaches_51 : decode cX12_breaches 51 = .ok (.aload_n 0, 1) := by decide +kernel
theorem dX12_breaches_52 : decode cX12_breaches 52 = .ok (.getfield 44, 3) := by decide +kernel
theorem dX12_breaches_55 : decode cX12_breaches 55 = .ok (.iload 6, 2) := by decide +kernel
theorem dX12_breaches_57 : decode cX12_breaches 57 = .ok (.baload, 1) := by decide +kernel
theorem dX12_breaches_58 : decode cX12_breaches 58 = .ok (.ifCond .ne 58, 3) := by decide +kernel
theorem dX12_breaches_61 : decode cX12_breaches 61 = .ok (.aload_n 0, 1) := by decide +kernel
theorem dX12_breaches_62 : decode cX12_breaches 62 = .ok (.iload 6, 2) := by decide +kernel
theorem dX12_breaches_64 : decode cX12_breaches 64 = .ok (.iload_n 2, 1) := by decide +kernel
theorem dX12_breaches_65 : decode cX12_breaches 65 = .ok (.iconst 0, 1) := by decide +kernel
theorem dX12_breaches_66 : decode cX12_breaches 66 = .ok (.iconst 0, 1) := by decide +kernel
theorem dX12_breaches_67 : decode cX12_breaches 67 = .ok (.invokevirtual 359, 3) := by decide +kernel
theorem dX12_breaches_70 : decode cX12_breaches 70 = .ok (.ifCond .ne 6, 3) := by decide +kernel
theorem dX12_breaches_73 : decode cX12_breaches 73 = .ok (.goto 43, 3) := by decide +kernel
theorem dX12_breaches_76 : decode cX12_breaches 76 = .ok (.iload_n 1, 1) := by decide +kernel
theorem dX12_breaches_77 : decode cX12_breaches 77 = .ok (.ifCond .lt 30, 3) := by decide +kernel
theorem dX12_breaches_80 : decode cX12_breaches 80 = .ok (.aload_n 0, 1) := by decide +kernel
theorem dX12_breaches_81 : decode cX12_breaches 81 = .ok (.getfield 29, 3) := by decide +kernel
theorem dX12_breaches_84 : decode cX12_breaches 84 = .ok (.iload 6, 2) := by decide +kernel
theorem dX12_breaches_86 : decode cX12_breaches 86 = .ok (.iaload, 1) := by decide +kernel
theorem dX12_breaches_87 : decode cX12_breaches 87 = .ok (.iload_n 1, 1) := by decide +kernel
theorem dX12_breaches_88 : decode cX12_breaches 88 = .ok (.if_icmp .eq 28, 3) := by decide +kernel
theorem dX12_breaches_91 : decode cX12_breaches 91 = .ok (.lload_n 3, 1) := by decide +kernel
theorem dX12_breaches_92 : decode cX12_breaches 92 = .ok (.aload_n 0, 1) := by decide +kernel
theorem dX12_breaches_93 : decode cX12_breaches 93 = .ok (.iload 6, 2) := by decide +kernel
theorem dX12_breaches_95 : decode cX12_breaches 95 = .ok (.iload_n 2, 1) := by decide +kernel
theorem dX12_breaches_96 : decode cX12_breaches 96 = .ok (.invokevirtual 249, 3) := by decide +kernel
theorem dX12_breaches_99 : decode cX12_breaches 99 = .ok (.lshr, 1) := by decide +kernel
theorem dX12_breaches_100 : decode cX12_breaches 100 = .ok (.lconst 1, 1) := by decide +kernel
theorem dX12_breaches_101 : decode cX12_breaches 101 = .ok (.land, 1) := by decide +kernel
theorem dX12_breaches_102 : decode cX12_breaches 102 = .ok (.lconst 1, 1) := by decide +kernel
theorem dX12_breaches_103 : decode cX12_breaches 103 = .ok (.lcmp, 1) := by decide +kernel
theorem dX12_breaches_104 : decode cX12_breaches 104 = .ok (.ifCond .ne 12, 3) := by decide +kernel
theorem dX12_breaches_107 : decode cX12_breaches 107 = .ok (.iload 5, 2) := by decide +kernel
theorem dX12_breaches_109 : decode cX12_breaches 109 = .ok (.iconst 1, 1) := by decide +kernel
theorem dX12_breaches_110 : decode cX12_breaches 110 = .ok (.iload 6, 2) := by decide +kernel
theorem dX12_breaches_112 : decode cX12_breaches 112 = .ok (.ishl, 1) := by decide +kernel
theorem dX12_breaches_113 : decode cX12_breaches 113 = .ok (.ior, 1) := by decide +kernel
theorem dX12_breaches_114 : decode cX12_breaches 114 = .ok (.istore 5, 2) := by decide +kernel
theorem dX12_breaches_116 : decode cX12_breaches 116 = .ok (.iinc 6 1, 3) := by decide +kernel
theorem dX12_breaches_119 : decode cX12_breaches 119 = .ok (.goto (-77), 3) := by decide +kernel
theorem dX12_breaches_122 : decode cX12_breaches 122 = .ok (.iload 5, 2) := by decide +kernel
theorem dX12_breaches_124 : decode cX12_breaches 124 = .ok (.ireturn, 1) := by decide +kernel
theorem dX12_astray_0 : decode cX12_astray 0 = .ok (.aload_n 0, 1) := by decide +kernel
theorem dX12_astray_1 : decode cX12_astray 1 = .ok (.iload_n 1, 1) := by decide +kernel
theorem dX12_astray_2 : decode cX12_astray 2 = .ok (.invokevirtual 246, 3) := by decide +kernel
theorem dX12_astray_5 : decode cX12_astray 5 = .ok (.ifCond .ne 6, 3) := by decide +kernel
theorem dX12_astray_8 : decode cX12_astray 8 = .ok (.bipush (-2), 2) := by decide +kernel
theorem dX12_astray_10 : decode cX12_astray 10 = .ok (.ireturn, 1) := by decide +kernel
theorem dX12_astray_11 : decode cX12_astray 11 = .ok (.iconst 0, 1) := by decide +kernel
theorem dX12_astray_12 : decode cX12_astray 12 = .ok (.istore_n 2, 1) := by decide +kernel
theorem dX12_astray_13 : decode cX12_astray 13 = .ok (.iconst 0, 1) := by decide +kernel
theorem dX12_astray_14 : decode cX12_astray 14 = .ok (.istore_n 3, 1) := by decide +kernel
theorem dX12_astray_15 : decode cX12_astray 15 = .ok (.iload_n 3, 1) := by decide +kernel
theorem dX12_astray_16 : decode cX12_astray 16 = .ok (.aload_n 0, 1) := by decide +kernel
theorem dX12_astray_17 : decode cX12_astray 17 = .ok (.getfield 23, 3) := by decide +kernel
theorem dX12_astray_20 : decode cX12_astray 20 = .ok (.if_icmp .ge 53, 3) := by decide +kernel
theorem dX12_astray_23 : decode cX12_astray 23 = .ok (.aload_n 0, 1) := by decide +kernel
theorem dX12_astray_24 : decode cX12_astray 24 = .ok (.getfield 44, 3) := by decide +kernel
theorem dX12_astray_27 : decode cX12_astray 27 = .ok (.iload_n 3, 1) := by decide +kernel
theorem dX12_astray_28 : decode cX12_astray 28 = .ok (.baload, 1) := by decide +kernel
theorem dX12_astray_29 : decode cX12_astray 29 = .ok (.ifCond .ne 38, 3) := by decide +kernel
theorem dX12_astray_32 : decode cX12_astray 32 = .ok (.aload_n 0, 1) := by decide +kernel
theorem dX12_astray_33 : decode cX12_astray 33 = .ok (.getfield 29, 3) := by decide +kernel
theorem dX12_astray_36 : decode cX12_astray 36 = .ok (.iload_n 3, 1) := by decide +kernel
theorem dX12_astray_37 : decode cX12_astray 37 = .ok (.iaload, 1) := by decide +kernel
theorem dX12_astray_38 : decode cX12_astray 38 = .ok (.iconst 2, 1) := by decide +kernel
theorem dX12_astray_39 : decode cX12_astray 39 = .ok (.if_icmp .ge 28, 3) := by decide +kernel
theorem dX12_astray_42 : decode cX12_astray 42 = .ok (.aload_n 0, 1) := by decide +kernel
theorem dX12_astray_43 : decode cX12_astray 43 = .ok (.aload_n 0, 1) := by decide +kernel
theorem dX12_astray_44 : decode cX12_astray 44 = .ok (.iload_n 3, 1) := by decide +kernel
theorem dX12_astray_45 : decode cX12_astray 45 = .ok (.iload_n 1, 1) := by decide +kernel
theorem dX12_astray_46 : decode cX12_astray 46 = .ok (.invokevirtual 249, 3) := by decide +kernel
theorem dX12_astray_49 : decode cX12_astray 49 = .ok (.invokevirtual 226, 3) := by decide +kernel
theorem dX12_astray_52 : decode cX12_astray 52 = .ok (.aload_n 0, 1) := by decide +kernel
theorem dX12_astray_53 : decode cX12_astray 53 = .ok (.getfield 29, 3) := by decide +kernel
theorem dX12_astray_56 : decode cX12_astray 56 = .ok (.iload_n 3, 1) := by decide +kernel
theorem dX12_astray_57 : decode cX12_astray 57 = .ok (.iaload, 1) := by decide +kernel
theorem dX12_astray_58 : decode cX12_astray 58 = .ok (.if_icmp .eq 9, 3) := by decide +kernel
theorem dX12_astray_61 : decode cX12_astray 61 = .ok (.iload_n 2, 1) := by decide +kernel
theorem dX12_astray_62 : decode cX12_astray 62 = .ok (.iconst 1, 1) := by decide +kernel
theorem dX12_astray_63 : decode cX12_astray 63 = .ok (.iload_n 3, 1) := by decide +kernel
theorem dX12_astray_64 : decode cX12_astray 64 = .ok (.ishl, 1) := by decide +kernel
theorem dX12_astray_65 : decode cX12_astray 65 = .ok (.ior, 1) := by decide +kernel
theorem dX12_astray_66 : decode cX12_astray 66 = .ok (.istore_n 2, 1) := by decide +kernel
theorem dX12_astray_67 : decode cX12_astray 67 = .ok (.iinc 3 1, 3) := by decide +kernel
theorem dX12_astray_70 : decode cX12_astray 70 = .ok (.goto (-55), 3) := by decide +kernel
theorem dX12_astray_73 : decode cX12_astray 73 = .ok (.iload_n 2, 1) := by decide +kernel
theorem dX12_astray_74 : decode cX12_astray 74 = .ok (.ireturn, 1) := by decide +kernel
theorem dX12_permit_0 : decode cX12_permit 0 = .ok (.aload_n 0, 1) := by decide +kernel
theorem dX12_permit_1 : decode cX12_permit 1 = .ok (.iload_n 1, 1) := by decide +kernel
theorem dX12_permit_2 : decode cX12_permit 2 = .ok (.iconst 0, 1) := by decide +kernel
theorem dX12_permit_3 : decode cX12_permit 3 = .ok (.bipush 99, 2) := by decide +kernel
theorem dX12_permit_5 : decode cX12_permit 5 = .ok (.invokevirtual 218, 3) := by decide +kernel
theorem dX12_permit_8 : decode cX12_permit 8 = .ok (.ifCond .eq 50, 3) := by decide +kernel
theorem dX12_permit_11 : decode cX12_permit 11 = .ok (.aload_n 0, 1) := by decide +kernel
theorem dX12_permit_12 : decode cX12_permit 12 = .ok (.iload_n 2, 1) := by decide +kernel
theorem dX12_permit_13 : decode cX12_permit 13 = .ok (.iconst 0, 1) := by decide +kernel
theorem dX12_permit_14 : decode cX12_permit 14 = .ok (.bipush 7, 2) := by decide +kernel
theorem dX12_permit_16 : decode cX12_permit 16 = .ok (.invokevirtual 218, 3) := by decide +kernel
theorem dX12_permit_19 : decode cX12_permit 19 = .ok (.ifCond .eq 39, 3) := by decide +kernel
theorem dX12_permit_22 : decode cX12_permit 22 = .ok (.aload_n 0, 1) := by decide +kernel
theorem dX12_permit_23 : decode cX12_permit 23 = .ok (.iload_n 3, 1) := by decide +kernel
theorem dX12_permit_24 : decode cX12_permit 24 = .ok (.iload_n 2, 1) := by decide +kernel
theorem dX12_permit_25 : decode cX12_permit 25 = .ok (.bipush 7, 2) := by decide +kernel
theorem dX12_permit_27 : decode cX12_permit 27 = .ok (.invokevirtual 218, 3) := by decide +kernel
theorem dX12_permit_30 : decode cX12_permit 30 = .ok (.ifCond .eq 28, 3) := by decide +kernel
theorem dX12_permit_33 : decode cX12_permit 33 = .ok (.aload_n 0, 1) := by decide +kernel
theorem dX12_permit_34 : decode cX12_permit 34 = .ok (.iload 4, 2) := by decide +kernel
theorem dX12_permit_36 : decode cX12_permit 36 = .ok (.invokevirtual 246, 3) := by decide +kernel
theorem dX12_permit_39 : decode cX12_permit 39 = .ok (.ifCond .eq 19, 3) := by decide +kernel
theorem dX12_permit_42 : decode cX12_permit 42 = .ok (.aload_n 0, 1) := by decide +kernel
theorem dX12_permit_43 : decode cX12_permit 43 = .ok (.iload 5, 2) := by decide +kernel
theorem dX12_permit_45 : decode cX12_permit 45 = .ok (.iload 4, 2) := by decide +kernel
theorem dX12_permit_47 : decode cX12_permit 47 = .ok (.iconst 1, 1) := by decide +kernel
theorem dX12_permit_48 : decode cX12_permit 48 = .ok (.iadd, 1) := by decide +kernel
theorem dX12_permit_49 : decode cX12_permit 49 = .ok (.sipush 999, 3) := by decide +kernel
theorem dX12_permit_52 : decode cX12_permit 52 = .ok (.invokevirtual 218, 3) := by decide +kernel
theorem dX12_permit_55 : decode cX12_permit 55 = .ok (.ifCond .ne 6, 3) := by decide +kernel
theorem dX12_permit_58 : decode cX12_permit 58 = .ok (.bipush (-2), 2) := by decide +kernel
theorem dX12_permit_60 : decode cX12_permit 60 = .ok (.ireturn, 1) := by decide +kernel
theorem dX12_permit_61 : decode cX12_permit 61 = .ok (.aload_n 0, 1) := by decide +kernel
theorem dX12_permit_62 : decode cX12_permit 62 = .ok (.getfield 106, 3) := by decide +kernel
theorem dX12_permit_65 : decode cX12_permit 65 = .ok (.bipush 12, 2) := by decide +kernel
theorem dX12_permit_67 : decode cX12_permit 67 = .ok (.if_icmp .ne 6, 3) := by decide +kernel
theorem dX12_permit_70 : decode cX12_permit 70 = .ok (.bipush (-4), 2) := by decide +kernel
theorem dX12_permit_72 : decode cX12_permit 72 = .ok (.ireturn, 1) := by decide +kernel
theorem dX12_permit_73 : decode cX12_permit 73 = .ok (.aload_n 0, 1) := by decide +kernel
theorem dX12_permit_74 : decode cX12_permit 74 = .ok (.getfield 109, 3) := by decide +kernel
theorem dX12_permit_77 : decode cX12_permit 77 = .ok (.aload_n 0, 1) := by decide +kernel
theorem dX12_permit_78 : decode cX12_permit 78 = .ok (.getfield 106, 3) := by decide +kernel
theorem dX12_permit_81 : decode cX12_permit 81 = .ok (.iload_n 1, 1) := by decide +kernel
theorem dX12_permit_82 : decode cX12_permit 82 = .ok (.iastore, 1) := by decide +kernel
theorem dX12_permit_83 : decode cX12_permit 83 = .ok (.aload_n 0, 1) := by decide +kernel
theorem dX12_permit_84 : decode cX12_permit 84 = .ok (.getfield 112, 3) := by decide +kernel
theorem dX12_permit_87 : decode cX12_permit 87 = .ok (.aload_n 0, 1) := by decide +kernel
theorem dX12_permit_88 : decode cX12_permit 88 = .ok (.getfield 106, 3) := by decide +kernel
theorem dX12_permit_91 : decode cX12_permit 91 = .ok (.iload_n 2, 1) := by decide +kernel
theorem dX12_permit_92 : decode cX12_permit 92 = .ok (.iastore, 1) := by decide +kernel
theorem dX12_permit_93 : decode cX12_permit 93 = .ok (.aload_n 0, 1) := by decide +kernel
theorem dX12_permit_94 : decode cX12_permit 94 = .ok (.getfield 115, 3) := by decide +kernel
theorem dX12_permit_97 : decode cX12_permit 97 = .ok (.aload_n 0, 1) := by decide +kernel
theorem dX12_permit_98 : decode cX12_permit 98 = .ok (.getfield 106, 3) := by decide +kernel
theorem dX12_permit_101 : decode cX12_permit 101 = .ok (.iload_n 3, 1) := by decide +kernel
theorem dX12_permit_102 : decode cX12_permit 102 = .ok (.iastore, 1) := by decide +kernel
theorem dX12_permit_103 : decode cX12_permit 103 = .ok (.aload_n 0, 1) := by decide +kernel
theorem dX12_permit_104 : decode cX12_permit 104 = .ok (.getfield 118, 3) := by decide +kernel
theorem dX12_permit_107 : decode cX12_permit 107 = .ok (.aload_n 0, 1) := by decide +kernel
theorem dX12_permit_108 : decode cX12_permit 108 = .ok (.getfield 106, 3) := by decide +kernel
theorem dX12_permit_111 : decode cX12_permit 111 = .ok (.iload 4, 2) := by decide +kernel
theorem dX12_permit_113 : decode cX12_permit 113 = .ok (.iastore, 1) := by decide +kernel
theorem dX12_permit_114 : decode cX12_permit 114 = .ok (.aload_n 0, 1) := by decide +kernel
theorem dX12_permit_115 : decode cX12_permit 115 = .ok (.getfield 121, 3) := by decide +kernel
theorem dX12_permit_118 : decode cX12_permit 118 = .ok (.aload_n 0, 1) := by decide +kernel
theorem dX12_permit_119 : decode cX12_permit 119 = .ok (.getfield 106, 3) := by decide +kernel
theorem dX12_permit_122 : decode cX12_permit 122 = .ok (.iload 5, 2) := by decide +kernel
theorem dX12_permit_124 : decode cX12_permit 124 = .ok (.iastore, 1) := by decide +kernel
theorem dX12_permit_125 : decode cX12_permit 125 = .ok (.aload_n 0, 1) := by decide +kernel
theorem dX12_permit_126 : decode cX12_permit 126 = .ok (.dup, 1) := by decide +kernel
theorem dX12_permit_127 : decode cX12_permit 127 = .ok (.getfield 106, 3) := by decide +kernel
theorem dX12_permit_130 : decode cX12_permit 130 = .ok (.iconst 1, 1) := by decide +kernel
theorem dX12_permit_131 : decode cX12_permit 131 = .ok (.iadd, 1) := by decide +kernel
theorem dX12_permit_132 : decode cX12_permit 132 = .ok (.putfield 106, 3) := by decide +kernel
theorem dX12_permit_135 : decode cX12_permit 135 = .ok (.aload_n 0, 1) := by decide +kernel
theorem dX12_permit_136 : decode cX12_permit 136 = .ok (.getfield 106, 3) := by decide +kernel
theorem dX12_permit_139 : decode cX12_permit 139 = .ok (.iconst 1, 1) := by decide +kernel
theorem dX12_permit_140 : decode cX12_permit 140 = .ok (.isub, 1) := by decide +kernel
theorem dX12_permit_141 : decode cX12_permit 141 = .ok (.ireturn, 1) := by decide +kernel
theorem dX12_may_0 : decode cX12_may 0 = .ok (.aload_n 0, 1) := by decide +kernel
theorem dX12_may_1 : decode cX12_may 1 = .ok (.iload_n 1, 1) := by decide +kernel
theorem dX12_may_2 : decode cX12_may 2 = .ok (.iconst 0, 1) := by decide +kernel
theorem dX12_may_3 : decode cX12_may 3 = .ok (.bipush 99, 2) := by decide +kernel
theorem dX12_may_5 : decode cX12_may 5 = .ok (.invokevirtual 218, 3) := by decide +kernel
theorem dX12_may_8 : decode cX12_may 8 = .ok (.ifCond .eq 19, 3) := by decide +kernel
theorem dX12_may_11 : decode cX12_may 11 = .ok (.aload_n 0, 1) := by decide +kernel
theorem dX12_may_12 : decode cX12_may 12 = .ok (.iload_n 2, 1) := by decide +kernel
theorem dX12_may_13 : decode cX12_may 13 = .ok (.invokevirtual 222, 3) := by decide +kernel
theorem dX12_may_16 : decode cX12_may 16 = .ok (.ifCond .eq 11, 3) := by decide +kernel
theorem dX12_may_19 : decode cX12_may 19 = .ok (.aload_n 0, 1) := by decide +kernel
theorem dX12_may_20 : decode cX12_may 20 = .ok (.iload_n 3, 1) := by decide +kernel
theorem dX12_may_21 : decode cX12_may 21 = .ok (.invokevirtual 246, 3) := by decide +kernel
theorem dX12_may_24 : decode cX12_may 24 = .ok (.ifCond .ne 6, 3) := by decide +kernel
theorem dX12_may_27 : decode cX12_may 27 = .ok (.bipush (-2), 2) := by decide +kernel
theorem dX12_may_29 : decode cX12_may 29 = .ok (.ireturn, 1) := by decide +kernel
theorem dX12_may_30 : decode cX12_may 30 = .ok (.iconst 0, 1) := by decide +kernel
theorem dX12_may_31 : decode cX12_may 31 = .ok (.istore 4, 2) := by decide +kernel
theorem dX12_may_33 : decode cX12_may 33 = .ok (.iload 4, 2) := by decide +kernel
theorem dX12_may_35 : decode cX12_may 35 = .ok (.aload_n 0, 1) := by decide +kernel
theorem dX12_may_36 : decode cX12_may 36 = .ok (.getfield 106, 3) := by decide +kernel
theorem dX12_may_39 : decode cX12_may 39 = .ok (.if_icmp .ge 70, 3) := by decide +kernel
theorem dX12_may_42 : decode cX12_may 42 = .ok (.aload_n 0, 1) := by decide +kernel
theorem dX12_may_43 : decode cX12_may 43 = .ok (.getfield 109, 3) := by decide +kernel
theorem dX12_may_46 : decode cX12_may 46 = .ok (.iload 4, 2) := by decide +kernel
theorem dX12_may_48 : decode cX12_may 48 = .ok (.iaload, 1) := by decide +kernel
theorem dX12_may_49 : decode cX12_may 49 = .ok (.iload_n 1, 1) := by decide +kernel
theorem dX12_may_50 : decode cX12_may 50 = .ok (.if_icmp .ne 53, 3) := by decide +kernel
theorem dX12_may_53 : decode cX12_may 53 = .ok (.aload_n 0, 1) := by decide +kernel
theorem dX12_may_54 : decode cX12_may 54 = .ok (.iload_n 2, 1) := by decide +kernel
theorem dX12_may_55 : decode cX12_may 55 = .ok (.bipush 8, 2) := by decide +kernel
theorem dX12_may_57 : decode cX12_may 57 = .ok (.idiv, 1) := by decide +kernel
theorem dX12_may_58 : decode cX12_may 58 = .ok (.aload_n 0, 1) := by decide +kernel
theorem dX12_may_59 : decode cX12_may 59 = .ok (.getfield 112, 3) := by decide +kernel
theorem dX12_may_62 : decode cX12_may 62 = .ok (.iload 4, 2) := by decide +kernel
theorem dX12_may_64 : decode cX12_may 64 = .ok (.iaload, 1) := by decide +kernel
theorem dX12_may_65 : decode cX12_may 65 = .ok (.aload_n 0, 1) := by decide +kernel
theorem dX12_may_66 : decode cX12_may 66 = .ok (.getfield 115, 3) := by decide +kernel
theorem dX12_may_69 : decode cX12_may 69 = .ok (.iload 4, 2) := by decide +kernel
theorem dX12_may_71 : decode cX12_may 71 = .ok (.iaload, 1) := by decide +kernel
theorem dX12_may_72 : decode cX12_may 72 = .ok (.invokevirtual 218, 3) := by decide +kernel
theorem dX12_may_75 : decode cX12_may 75 = .ok (.ifCond .eq 28, 3) := by decide +kernel
theorem dX12_may_78 : decode cX12_may 78 = .ok (.iload_n 3, 1) := by decide +kernel
theorem dX12_may_79 : decode cX12_may 79 = .ok (.aload_n 0, 1) := by decide +kernel
theorem dX12_may_80 : decode cX12_may 80 = .ok (.getfield 118, 3) := by decide +kernel
theorem dX12_may_83 : decode cX12_may 83 = .ok (.iload 4, 2) := by decide +kernel
theorem dX12_may_85 : decode cX12_may 85 = .ok (.iaload, 1) := by decide +kernel
theorem dX12_may_86 : decode cX12_may 86 = .ok (.if_icmp .lt 17, 3) := by decide +kernel
theorem dX12_may_89 : decode cX12_may 89 = .ok (.iload_n 3, 1) := by decide +kernel
theorem dX12_may_90 : decode cX12_may 90 = .ok (.aload_n 0, 1) := by decide +kernel
theorem dX12_may_91 : decode cX12_may 91 = .ok (.getfield 121, 3) := by decide +kernel
theorem dX12_may_94 : decode cX12_may 94 = .ok (.iload 4, 2) := by decide +kernel
theorem dX12_may_96 : decode cX12_may 96 = .ok (.iaload, 1) := by decide +kernel
theorem dX12_may_97 : decode cX12_may 97 = .ok (.if_icmp .ge 6, 3) := by decide +kernel
theorem dX12_may_100 : decode cX12_may 100 = .ok (.iload 4, 2) := by decide +kernel
theorem dX12_may_102 : decode cX12_may 102 = .ok (.ireturn, 1) := by decide +kernel
theorem dX12_may_103 : decode cX12_may 103 = .ok (.iinc 4 1, 3) := by decide +kernel
theorem dX12_may_106 : decode cX12_may 106 = .ok (.goto (-73), 3) := by decide +kernel
theorem dX12_may_109 : decode cX12_may 109 = .ok (.iconst (-1), 1) := by decide +kernel
theorem dX12_may_110 : decode cX12_may 110 = .ok (.ireturn, 1) := by decide +kernel
theorem dX12_isDoing_0 : decode cX12_isDoing 0 = .ok (.aload_n 0, 1) := by decide +kernel
theorem dX12_isDoing_1 : decode cX12_isDoing 1 = .ok (.iload_n 1, 1) := by decide +kernel
theorem dX12_isDoing_2 : decode cX12_isDoing 2 = .ok (.iconst 0, 1) := by decide +kernel
theorem dX12_isDoing_3 : decode cX12_isDoing 3 = .ok (.aload_n 0, 1) := by decide +kernel
theorem dX12_isDoing_4 : decode cX12_isDoing 4 = .ok (.getfield 124, 3) := by decide +kernel
theorem dX12_isDoing_7 : decode cX12_isDoing 7 = .ok (.iconst 1, 1) := by decide +kernel
theorem dX12_isDoing_8 : decode cX12_isDoing 8 = .ok (.isub, 1) := by decide +kernel
theorem dX12_isDoing_9 : decode cX12_isDoing 9 = .ok (.invokevirtual 218, 3) := by decide +kernel
theorem dX12_isDoing_12 : decode cX12_isDoing 12 = .ok (.ireturn, 1) := by decide +kernel
theorem dX12_doing_0 : decode cX12_doing 0 = .ok (.aload_n 0, 1) := by decide +kernel
theorem dX12_doing_1 : decode cX12_doing 1 = .ok (.iload_n 1, 1) := by decide +kernel
theorem dX12_doing_2 : decode cX12_doing 2 = .ok (.iconst 0, 1) := by decide +kernel
theorem dX12_doing_3 : decode cX12_doing 3 = .ok (.iconst 3, 1) := by decide +kernel
theorem dX12_doing_4 : decode cX12_doing 4 = .ok (.invokevirtual 218, 3) := by decide +kernel
theorem dX12_doing_7 : decode cX12_doing 7 = .ok (.ifCond .eq 19, 3) := by decide +kernel
theorem dX12_doing_10 : decode cX12_doing 10 = .ok (.aload_n 0, 1) := by decide +kernel
theorem dX12_doing_11 : decode cX12_doing 11 = .ok (.iload_n 2, 1) := by decide +kernel
theorem dX12_doing_12 : decode cX12_doing 12 = .ok (.invokevirtual 222, 3) := by decide +kernel
theorem dX12_doing_15 : decode cX12_doing 15 = .ok (.ifCond .eq 11, 3) := by decide +kernel
theorem dX12_doing_18 : decode cX12_doing 18 = .ok (.aload_n 0, 1) := by decide +kernel
theorem dX12_doing_19 : decode cX12_doing 19 = .ok (.iload_n 3, 1) := by decide +kernel
theorem dX12_doing_20 : decode cX12_doing 20 = .ok (.invokevirtual 246, 3) := by decide +kernel
theorem dX12_doing_23 : decode cX12_doing 23 = .ok (.ifCond .ne 6, 3) := by decide +kernel
theorem dX12_doing_26 : decode cX12_doing 26 = .ok (.bipush (-2), 2) := by decide +kernel
theorem dX12_doing_28 : decode cX12_doing 28 = .ok (.ireturn, 1) := by decide +kernel
theorem dX12_doing_29 : decode cX12_doing 29 = .ok (.aload_n 0, 1) := by decide +kernel
theorem dX12_doing_30 : decode cX12_doing 30 = .ok (.getfield 124, 3) := by decide +kernel
theorem dX12_doing_33 : decode cX12_doing 33 = .ok (.bipush 12, 2) := by decide +kernel
theorem dX12_doing_35 : decode cX12_doing 35 = .ok (.if_icmp .ne 6, 3) := by decide +kernel
theorem dX12_doing_38 : decode cX12_doing 38 = .ok (.bipush (-4), 2) := by decide +kernel
theorem dX12_doing_40 : decode cX12_doing 40 = .ok (.ireturn, 1) := by decide +kernel
theorem dX12_doing_41 : decode cX12_doing 41 = .ok (.aload_n 0, 1) := by decide +kernel
theorem dX12_doing_42 : decode cX12_doing 42 = .ok (.getfield 133, 3) := by decide +kernel
theorem dX12_doing_45 : decode cX12_doing 45 = .ok (.aload_n 0, 1) := by decide +kernel
theorem dX12_doing_46 : decode cX12_doing 46 = .ok (.getfield 124, 3) := by decide +kernel
theorem dX12_doing_49 : decode cX12_doing 49 = .ok (.iload_n 1, 1) := by decide +kernel
theorem dX12_doing_50 : decode cX12_doing 50 = .ok (.iastore, 1) := by decide +kernel
theorem dX12_doing_51 : decode cX12_doing 51 = .ok (.aload_n 0, 1) := by decide +kernel
theorem dX12_doing_52 : decode cX12_doing 52 = .ok (.getfield 136, 3) := by decide +kernel
theorem dX12_doing_55 : decode cX12_doing 55 = .ok (.aload_n 0, 1) := by decide +kernel
theorem dX12_doing_56 : decode cX12_doing 56 = .ok (.getfield 124, 3) := by decide +kernel
theorem dX12_doing_59 : decode cX12_doing 59 = .ok (.iload_n 2, 1) := by decide +kernel
theorem dX12_doing_60 : decode cX12_doing 60 = .ok (.iastore, 1) := by decide +kernel
theorem dX12_doing_61 : decode cX12_doing 61 = .ok (.aload_n 0, 1) := by decide +kernel
theorem dX12_doing_62 : decode cX12_doing 62 = .ok (.getfield 139, 3) := by decide +kernel
theorem dX12_doing_65 : decode cX12_doing 65 = .ok (.aload_n 0, 1) := by decide +kernel
theorem dX12_doing_66 : decode cX12_doing 66 = .ok (.getfield 124, 3) := by decide +kernel
theorem dX12_doing_69 : decode cX12_doing 69 = .ok (.iload_n 3, 1) := by decide +kernel
theorem dX12_doing_70 : decode cX12_doing 70 = .ok (.iastore, 1) := by decide +kernel
theorem dX12_doing_71 : decode cX12_doing 71 = .ok (.aload_n 0, 1) := by decide +kernel
theorem dX12_doing_72 : decode cX12_doing 72 = .ok (.dup, 1) := by decide +kernel
theorem dX12_doing_73 : decode cX12_doing 73 = .ok (.getfield 124, 3) := by decide +kernel
theorem dX12_doing_76 : decode cX12_doing 76 = .ok (.iconst 1, 1) := by decide +kernel
theorem dX12_doing_77 : decode cX12_doing 77 = .ok (.iadd, 1) := by decide +kernel
theorem dX12_doing_78 : decode cX12_doing 78 = .ok (.putfield 124, 3) := by decide +kernel
theorem dX12_doing_81 : decode cX12_doing 81 = .ok (.aload_n 0, 1) := by decide +kernel
theorem dX12_doing_82 : decode cX12_doing 82 = .ok (.getfield 124, 3) := by decide +kernel
theorem dX12_doing_85 : decode cX12_doing 85 = .ok (.iconst 1, 1) := by decide +kernel
theorem dX12_doing_86 : decode cX12_doing 86 = .ok (.isub, 1) := by decide +kernel
theorem dX12_doing_87 : decode cX12_doing 87 = .ok (.ireturn, 1) := by decide +kernel
theorem dX12_loud_0 : decode cX12_loud 0 = .ok (.iload_n 1, 1) := by decide +kernel
theorem dX12_loud_1 : decode cX12_loud 1 = .ok (.ifCond .ne 7, 3) := by decide +kernel
theorem dX12_loud_4 : decode cX12_loud 4 = .ok (.iconst 4, 1) := by decide +kernel
theorem dX12_loud_5 : decode cX12_loud 5 = .ok (.goto 23, 3) := by decide +kernel
theorem dX12_loud_8 : decode cX12_loud 8 = .ok (.iload_n 1, 1) := by decide +kernel
theorem dX12_loud_9 : decode cX12_loud 9 = .ok (.iconst 1, 1) := by decide +kernel
theorem dX12_loud_10 : decode cX12_loud 10 = .ok (.if_icmp .ne 7, 3) := by decide +kernel
theorem dX12_loud_13 : decode cX12_loud 13 = .ok (.iconst 3, 1) := by decide +kernel
theorem dX12_loud_14 : decode cX12_loud 14 = .ok (.goto 14, 3) := by decide +kernel
theorem dX12_loud_17 : decode cX12_loud 17 = .ok (.iload_n 1, 1) := by decide +kernel
theorem dX12_loud_18 : decode cX12_loud 18 = .ok (.iconst 2, 1) := by decide +kernel
theorem dX12_loud_19 : decode cX12_loud 19 = .ok (.if_icmp .ne 7, 3) := by decide +kernel
theorem dX12_loud_22 : decode cX12_loud 22 = .ok (.iconst 1, 1) := by decide +kernel
theorem dX12_loud_23 : decode cX12_loud 23 = .ok (.goto 5, 3) := by decide +kernel
theorem dX12_loud_26 : decode cX12_loud 26 = .ok (.bipush 99, 2) := by decide +kernel
theorem dX12_loud_28 : decode cX12_loud 28 = .ok (.ireturn, 1) := by decide +kernel
theorem dX12_knows_0 : decode cX12_knows 0 = .ok (.aload_n 0, 1) := by decide +kernel
theorem dX12_knows_1 : decode cX12_knows 1 = .ok (.getfield 44, 3) := by decide +kernel
theorem dX12_knows_4 : decode cX12_knows 4 = .ok (.iload_n 1, 1) := by decide +kernel
theorem dX12_knows_5 : decode cX12_knows 5 = .ok (.baload, 1) := by decide +kernel
theorem dX12_knows_6 : decode cX12_knows 6 = .ok (.ifCond .ne 14, 3) := by decide +kernel
theorem dX12_knows_9 : decode cX12_knows 9 = .ok (.aload_n 0, 1) := by decide +kernel
theorem dX12_knows_10 : decode cX12_knows 10 = .ok (.getfield 139, 3) := by decide +kernel
theorem dX12_knows_13 : decode cX12_knows 13 = .ok (.iload 4, 2) := by decide +kernel
theorem dX12_knows_15 : decode cX12_knows 15 = .ok (.iaload, 1) := by decide +kernel
theorem dX12_knows_16 : decode cX12_knows 16 = .ok (.iload_n 2, 1) := by decide +kernel
theorem dX12_knows_17 : decode cX12_knows 17 = .ok (.if_icmp .eq 5, 3) := by decide +kernel
theorem dX12_knows_20 : decode cX12_knows 20 = .ok (.iconst 0, 1) := by decide +kernel
theorem dX12_knows_21 : decode cX12_knows 21 = .ok (.ireturn, 1) := by decide +kernel
theorem dX12_knows_22 : decode cX12_knows 22 = .ok (.iload_n 3, 1) := by decide +kernel
theorem dX12_knows_23 : decode cX12_knows 23 = .ok (.ifCond .ne 46, 3) := by decide +kernel
theorem dX12_knows_26 : decode cX12_knows 26 = .ok (.aload_n 0, 1) := by decide +kernel
theorem dX12_knows_27 : decode cX12_knows 27 = .ok (.aload_n 0, 1) := by decide +kernel
theorem dX12_knows_28 : decode cX12_knows 28 = .ok (.iload_n 1, 1) := by decide +kernel
theorem dX12_knows_29 : decode cX12_knows 29 = .ok (.iload_n 2, 1) := by decide +kernel
theorem dX12_knows_30 : decode cX12_knows 30 = .ok (.invokevirtual 249, 3) := by decide +kernel
theorem dX12_knows_33 : decode cX12_knows 33 = .ok (.aload_n 0, 1) := by decide +kernel
theorem dX12_knows_34 : decode cX12_knows 34 = .ok (.getfield 136, 3) := by decide +kernel
theorem dX12_knows_37 : decode cX12_knows 37 = .ok (.iload 4, 2) := by decide +kernel
theorem dX12_knows_39 : decode cX12_knows 39 = .ok (.iaload, 1) := by decide +kernel
theorem dX12_knows_40 : decode cX12_knows 40 = .ok (.invokevirtual 260, 3) := by decide +kernel
theorem dX12_knows_43 : decode cX12_knows 43 = .ok (.aload_n 0, 1) := by decide +kernel
theorem dX12_knows_44 : decode cX12_knows 44 = .ok (.iload_n 1, 1) := by decide +kernel
theorem dX12_knows_45 : decode cX12_knows 45 = .ok (.invokevirtual 243, 3) := by decide +kernel
theorem dX12_knows_48 : decode cX12_knows 48 = .ok (.aload_n 0, 1) := by decide +kernel
theorem dX12_knows_49 : decode cX12_knows 49 = .ok (.aload_n 0, 1) := by decide +kernel
theorem dX12_knows_50 : decode cX12_knows 50 = .ok (.getfield 133, 3) := by decide +kernel
theorem dX12_knows_53 : decode cX12_knows 53 = .ok (.iload 4, 2) := by decide +kernel
theorem dX12_knows_55 : decode cX12_knows 55 = .ok (.iaload, 1) := by decide +kernel
theorem dX12_knows_56 : decode cX12_knows 56 = .ok (.invokevirtual 363, 3) := by decide +kernel
theorem dX12_knows_59 : decode cX12_knows 59 = .ok (.iadd, 1) := by decide +kernel
theorem dX12_knows_60 : decode cX12_knows 60 = .ok (.if_icmp .gt 7, 3) := by decide +kernel
theorem dX12_knows_63 : decode cX12_knows 63 = .ok (.iconst 1, 1) := by decide +kernel
theorem dX12_knows_64 : decode cX12_knows 64 = .ok (.goto 4, 3) := by decide +kernel
theorem dX12_knows_67 : decode cX12_knows 67 = .ok (.iconst 0, 1) := by decide +kernel
theorem dX12_knows_68 : decode cX12_knows 68 = .ok (.ireturn, 1) := by decide +kernel
theorem dX12_knows_69 : decode cX12_knows 69 = .ok (.aload_n 0, 1) := by decide +kernel
theorem dX12_knows_70 : decode cX12_knows 70 = .ok (.getfield 133, 3) := by decide +kernel
theorem dX12_knows_73 : decode cX12_knows 73 = .ok (.iload 4, 2) := by decide +kernel
theorem dX12_knows_75 : decode cX12_knows 75 = .ok (.iaload, 1) := by decide +kernel
theorem dX12_knows_76 : decode cX12_knows 76 = .ok (.iconst 2, 1) := by decide +kernel
theorem dX12_knows_77 : decode cX12_knows 77 = .ok (.if_icmp .ge 28, 3) := by decide +kernel
theorem dX12_knows_80 : decode cX12_knows 80 = .ok (.aload_n 0, 1) := by decide +kernel
theorem dX12_knows_81 : decode cX12_knows 81 = .ok (.iload_n 1, 1) := by decide +kernel
theorem dX12_knows_82 : decode cX12_knows 82 = .ok (.iload_n 2, 1) := by decide +kernel
theorem dX12_knows_83 : decode cX12_knows 83 = .ok (.invokevirtual 270, 3) := by decide +kernel
theorem dX12_knows_86 : decode cX12_knows 86 = .ok (.aload_n 0, 1) := by decide +kernel
theorem dX12_knows_87 : decode cX12_knows 87 = .ok (.getfield 136, 3) := by decide +kernel
theorem dX12_knows_90 : decode cX12_knows 90 = .ok (.iload 4, 2) := by decide +kernel
theorem dX12_knows_92 : decode cX12_knows 92 = .ok (.iaload, 1) := by decide +kernel
theorem dX12_knows_93 : decode cX12_knows 93 = .ok (.lshr, 1) := by decide +kernel
theorem dX12_knows_94 : decode cX12_knows 94 = .ok (.lconst 1, 1) := by decide +kernel
theorem dX12_knows_95 : decode cX12_knows 95 = .ok (.land, 1) := by decide +kernel
theorem dX12_knows_96 : decode cX12_knows 96 = .ok (.lconst 1, 1) := by decide +kernel
theorem dX12_knows_97 : decode cX12_knows 97 = .ok (.lcmp, 1) := by decide +kernel
theorem dX12_knows_98 : decode cX12_knows 98 = .ok (.ifCond .ne 7, 3) := by decide +kernel
theorem dX12_knows_101 : decode cX12_knows 101 = .ok (.iconst 1, 1) := by decide +kernel
theorem dX12_knows_102 : decode cX12_knows 102 = .ok (.goto 4, 3) := by decide +kernel
theorem dX12_knows_105 : decode cX12_knows 105 = .ok (.iconst 0, 1) := by decide +kernel
theorem dX12_knows_106 : decode cX12_knows 106 = .ok (.ireturn, 1) := by decide +kernel
theorem dX12_report_0 : decode cX12_report 0 = .ok (.aload_n 0, 1) := by decide +kernel
theorem dX12_report_1 : decode cX12_report 1 = .ok (.iload_n 1, 1) := by decide +kernel
theorem dX12_report_2 : decode cX12_report 2 = .ok (.invokevirtual 236, 3) := by decide +kernel
theorem dX12_report_5 : decode cX12_report 5 = .ok (.ifCond .eq 32, 3) := by decide +kernel
theorem dX12_report_8 : decode cX12_report 8 = .ok (.aload_n 0, 1) := by decide +kernel
theorem dX12_report_9 : decode cX12_report 9 = .ok (.iload_n 2, 1) := by decide +kernel
theorem dX12_report_10 : decode cX12_report 10 = .ok (.invokevirtual 246, 3) := by decide +kernel
theorem dX12_report_13 : decode cX12_report 13 = .ok (.ifCond .eq 24, 3) := by decide +kernel
theorem dX12_report_16 : decode cX12_report 16 = .ok (.aload_n 0, 1) := by decide +kernel
theorem dX12_report_17 : decode cX12_report 17 = .ok (.iload_n 3, 1) := by decide +kernel
theorem dX12_report_18 : decode cX12_report 18 = .ok (.iconst 0, 1) := by decide +kernel
theorem dX12_report_19 : decode cX12_report 19 = .ok (.iconst 1, 1) := by decide +kernel
theorem dX12_report_20 : decode cX12_report 20 = .ok (.invokevirtual 218, 3) := by decide +kernel
theorem dX12_report_23 : decode cX12_report 23 = .ok (.ifCond .eq 14, 3) := by decide +kernel
theorem dX12_report_26 : decode cX12_report 26 = .ok (.aload_n 0, 1) := by decide +kernel
theorem dX12_report_27 : decode cX12_report 27 = .ok (.iload 4, 2) := by decide +kernel
theorem dX12_report_29 : decode cX12_report 29 = .ok (.iconst 0, 1) := by decide +kernel
theorem dX12_report_30 : decode cX12_report 30 = .ok (.iconst 1, 1) := by decide +kernel
theorem dX12_report_31 : decode cX12_report 31 = .ok (.invokevirtual 218, 3) := by decide +kernel
theorem dX12_report_34 : decode cX12_report 34 = .ok (.ifCond .ne 6, 3) := by decide +kernel
theorem dX12_report_37 : decode cX12_report 37 = .ok (.bipush (-2), 2) := by decide +kernel
theorem dX12_report_39 : decode cX12_report 39 = .ok (.ireturn, 1) := by decide +kernel
theorem dX12_report_40 : decode cX12_report 40 = .ok (.aload_n 0, 1) := by decide +kernel
theorem dX12_report_41 : decode cX12_report 41 = .ok (.getfield 127, 3) := by decide +kernel
theorem dX12_report_44 : decode cX12_report 44 = .ok (.bipush 24, 2) := by decide +kernel
theorem dX12_report_46 : decode cX12_report 46 = .ok (.if_icmp .ne 6, 3) := by decide +kernel
theorem dX12_report_49 : decode cX12_report 49 = .ok (.bipush (-4), 2) := by decide +kernel
theorem dX12_report_51 : decode cX12_report 51 = .ok (.ireturn, 1) := by decide +kernel
theorem dX12_report_52 : decode cX12_report 52 = .ok (.aload_n 0, 1) := by decide +kernel
theorem dX12_report_53 : decode cX12_report 53 = .ok (.getfield 142, 3) := by decide +kernel
theorem dX12_report_56 : decode cX12_report 56 = .ok (.aload_n 0, 1) := by decide +kernel
theorem dX12_report_57 : decode cX12_report 57 = .ok (.getfield 127, 3) := by decide +kernel
theorem dX12_report_60 : decode cX12_report 60 = .ok (.iload_n 1, 1) := by decide +kernel
theorem dX12_report_61 : decode cX12_report 61 = .ok (.iastore, 1) := by decide +kernel
theorem dX12_report_62 : decode cX12_report 62 = .ok (.aload_n 0, 1) := by decide +kernel
theorem dX12_report_63 : decode cX12_report 63 = .ok (.getfield 145, 3) := by decide +kernel
theorem dX12_report_66 : decode cX12_report 66 = .ok (.aload_n 0, 1) := by decide +kernel
theorem dX12_report_67 : decode cX12_report 67 = .ok (.getfield 127, 3) := by decide +kernel
theorem dX12_report_70 : decode cX12_report 70 = .ok (.iload_n 2, 1) := by decide +kernel
theorem dX12_report_71 : decode cX12_report 71 = .ok (.iastore, 1) := by decide +kernel
theorem dX12_report_72 : decode cX12_report 72 = .ok (.aload_n 0, 1) := by decide +kernel
theorem dX12_report_73 : decode cX12_report 73 = .ok (.getfield 148, 3) := by decide +kernel
theorem dX12_report_76 : decode cX12_report 76 = .ok (.aload_n 0, 1) := by decide +kernel
theorem dX12_report_77 : decode cX12_report 77 = .ok (.getfield 127, 3) := by decide +kernel
theorem dX12_report_80 : decode cX12_report 80 = .ok (.iload_n 3, 1) := by decide +kernel
theorem dX12_report_81 : decode cX12_report 81 = .ok (.iastore, 1) := by decide +kernel
theorem dX12_report_82 : decode cX12_report 82 = .ok (.aload_n 0, 1) := by decide +kernel
theorem dX12_report_83 : decode cX12_report 83 = .ok (.getfield 151, 3) := by decide +kernel
theorem dX12_report_86 : decode cX12_report 86 = .ok (.aload_n 0, 1) := by decide +kernel
theorem dX12_report_87 : decode cX12_report 87 = .ok (.getfield 127, 3) := by decide +kernel
theorem dX12_report_90 : decode cX12_report 90 = .ok (.iload 4, 2) := by decide +kernel
theorem dX12_report_92 : decode cX12_report 92 = .ok (.iastore, 1) := by decide +kernel
theorem dX12_report_93 : decode cX12_report 93 = .ok (.aload_n 0, 1) := by decide +kernel
theorem dX12_report_94 : decode cX12_report 94 = .ok (.getfield 163, 3) := by decide +kernel
theorem dX12_report_97 : decode cX12_report 97 = .ok (.aload_n 0, 1) := by decide +kernel
theorem dX12_report_98 : decode cX12_report 98 = .ok (.getfield 127, 3) := by decide +kernel
theorem dX12_report_101 : decode cX12_report 101 = .ok (.iconst 0, 1) := by decide +kernel
theorem dX12_report_102 : decode cX12_report 102 = .ok (.bastore, 1) := by decide +kernel
theorem dX12_report_103 : decode cX12_report 103 = .ok (.aload_n 0, 1) := by decide +kernel
theorem dX12_report_104 : decode cX12_report 104 = .ok (.dup, 1) := by decide +kernel
theorem dX12_report_105 : decode cX12_report 105 = .ok (.getfield 127, 3) := by decide +kernel
theorem dX12_report_108 : decode cX12_report 108 = .ok (.iconst 1, 1) := by decide +kernel
theorem dX12_report_109 : decode cX12_report 109 = .ok (.iadd, 1) := by decide +kernel
theorem dX12_report_110 : decode cX12_report 110 = .ok (.putfield 127, 3) := by decide +kernel
theorem dX12_report_113 : decode cX12_report 113 = .ok (.aload_n 0, 1) := by decide +kernel
theorem dX12_report_114 : decode cX12_report 114 = .ok (.getfield 127, 3) := by decide +kernel
theorem dX12_report_117 : decode cX12_report 117 = .ok (.iconst 1, 1) := by decide +kernel
theorem dX12_report_118 : decode cX12_report 118 = .ok (.isub, 1) := by decide +kernel
theorem dX12_report_119 : decode cX12_report 119 = .ok (.ireturn, 1) := by decide +kernel
theorem dX12_takeBack_0 : decode cX12_takeBack 0 = .ok (.aload_n 0, 1) := by decide +kernel
theorem dX12_takeBack_1 : decode cX12_takeBack 1 = .ok (.iload_n 1, 1) := by decide +kernel
theorem dX12_takeBack_2 : decode cX12_takeBack 2 = .ok (.iconst 0, 1) := by decide +kernel
theorem dX12_takeBack_3 : decode cX12_takeBack 3 = .ok (.aload_n 0, 1) := by decide +kernel
theorem dX12_takeBack_4 : decode cX12_takeBack 4 = .ok (.getfield 127, 3) := by decide +kernel
theorem dX12_takeBack_7 : decode cX12_takeBack 7 = .ok (.iconst 1, 1) := by decide +kernel
theorem dX12_takeBack_8 : decode cX12_takeBack 8 = .ok (.isub, 1) := by decide +kernel
theorem dX12_takeBack_9 : decode cX12_takeBack 9 = .ok (.invokevirtual 218, 3) := by decide +kernel
theorem dX12_takeBack_12 : decode cX12_takeBack 12 = .ok (.ifCond .ne 6, 3) := by decide +kernel
theorem dX12_takeBack_15 : decode cX12_takeBack 15 = .ok (.bipush (-2), 2) := by decide +kernel
theorem dX12_takeBack_17 : decode cX12_takeBack 17 = .ok (.ireturn, 1) := by decide +kernel
theorem dX12_takeBack_18 : decode cX12_takeBack 18 = .ok (.aload_n 0, 1) := by decide +kernel
theorem dX12_takeBack_19 : decode cX12_takeBack 19 = .ok (.getfield 163, 3) := by decide +kernel
theorem dX12_takeBack_22 : decode cX12_takeBack 22 = .ok (.iload_n 1, 1) := by decide +kernel
theorem dX12_takeBack_23 : decode cX12_takeBack 23 = .ok (.baload, 1) := by decide +kernel
theorem dX12_takeBack_24 : decode cX12_takeBack 24 = .ok (.ifCond .eq 6, 3) := by decide +kernel
theorem dX12_takeBack_27 : decode cX12_takeBack 27 = .ok (.bipush (-3), 2) := by decide +kernel
theorem dX12_takeBack_29 : decode cX12_takeBack 29 = .ok (.ireturn, 1) := by decide +kernel
theorem dX12_takeBack_30 : decode cX12_takeBack 30 = .ok (.aload_n 0, 1) := by decide +kernel
theorem dX12_takeBack_31 : decode cX12_takeBack 31 = .ok (.getfield 163, 3) := by decide +kernel
theorem dX12_takeBack_34 : decode cX12_takeBack 34 = .ok (.iload_n 1, 1) := by decide +kernel
theorem dX12_takeBack_35 : decode cX12_takeBack 35 = .ok (.iconst 1, 1) := by decide +kernel
theorem dX12_takeBack_36 : decode cX12_takeBack 36 = .ok (.bastore, 1) := by decide +kernel
theorem dX12_takeBack_37 : decode cX12_takeBack 37 = .ok (.iconst 0, 1) := by decide +kernel
theorem dX12_takeBack_38 : decode cX12_takeBack 38 = .ok (.istore_n 2, 1) := by decide +kernel
theorem dX12_takeBack_39 : decode cX12_takeBack 39 = .ok (.iconst 0, 1) := by decide +kernel
theorem dX12_takeBack_40 : decode cX12_takeBack 40 = .ok (.istore_n 3, 1) := by decide +kernel
theorem dX12_takeBack_41 : decode cX12_takeBack 41 = .ok (.iload_n 3, 1) := by decide +kernel
theorem dX12_takeBack_42 : decode cX12_takeBack 42 = .ok (.aload_n 0, 1) := by decide +kernel
theorem dX12_takeBack_43 : decode cX12_takeBack 43 = .ok (.getfield 127, 3) := by decide +kernel
theorem dX12_takeBack_46 : decode cX12_takeBack 46 = .ok (.if_icmp .ge 26, 3) := by decide +kernel
theorem dX12_takeBack_49 : decode cX12_takeBack 49 = .ok (.iload_n 2, 1) := by decide +kernel
theorem dX12_takeBack_50 : decode cX12_takeBack 50 = .ok (.aload_n 0, 1) := by decide +kernel
theorem dX12_takeBack_51 : decode cX12_takeBack 51 = .ok (.getfield 163, 3) := by decide +kernel
theorem dX12_takeBack_54 : decode cX12_takeBack 54 = .ok (.iload_n 3, 1) := by decide +kernel
theorem dX12_takeBack_55 : decode cX12_takeBack 55 = .ok (.baload, 1) := by decide +kernel
theorem dX12_takeBack_56 : decode cX12_takeBack 56 = .ok (.ifCond .eq 7, 3) := by decide +kernel
theorem dX12_takeBack_59 : decode cX12_takeBack 59 = .ok (.iconst 0, 1) := by decide +kernel
theorem dX12_takeBack_60 : decode cX12_takeBack 60 = .ok (.goto 4, 3) := by decide +kernel
theorem dX12_takeBack_63 : decode cX12_takeBack 63 = .ok (.iconst 1, 1) := by decide +kernel
theorem dX12_takeBack_64 : decode cX12_takeBack 64 = .ok (.iadd, 1) := by decide +kernel
theorem dX12_takeBack_65 : decode cX12_takeBack 65 = .ok (.istore_n 2, 1) := by decide +kernel
theorem dX12_takeBack_66 : decode cX12_takeBack 66 = .ok (.iinc 3 1, 3) := by decide +kernel
theorem dX12_takeBack_69 : decode cX12_takeBack 69 = .ok (.goto (-28), 3) := by decide +kernel
theorem dX12_takeBack_72 : decode cX12_takeBack 72 = .ok (.iload_n 2, 1) := by decide +kernel
theorem dX12_takeBack_73 : decode cX12_takeBack 73 = .ok (.ireturn, 1) := by decide +kernel
theorem dX12_isLet_0 : decode cX12_isLet 0 = .ok (.aload_n 0, 1) := by decide +kernel
theorem dX12_isLet_1 : decode cX12_isLet 1 = .ok (.aload_n 0, 1) := by decide +kernel
theorem dX12_isLet_2 : decode cX12_isLet 2 = .ok (.getfield 142, 3) := by decide +kernel
theorem dX12_isLet_5 : decode cX12_isLet 5 = .ok (.iload_n 1, 1) := by decide +kernel
theorem dX12_isLet_6 : decode cX12_isLet 6 = .ok (.iaload, 1) := by decide +kernel
theorem dX12_isLet_7 : decode cX12_isLet 7 = .ok (.aload_n 0, 1) := by decide +kernel
theorem dX12_isLet_8 : decode cX12_isLet 8 = .ok (.getfield 145, 3) := by decide +kernel
theorem dX12_isLet_11 : decode cX12_isLet 11 = .ok (.iload_n 1, 1) := by decide +kernel
theorem dX12_isLet_12 : decode cX12_isLet 12 = .ok (.iaload, 1) := by decide +kernel
theorem dX12_isLet_13 : decode cX12_isLet 13 = .ok (.aload_n 0, 1) := by decide +kernel
theorem dX12_isLet_14 : decode cX12_isLet 14 = .ok (.getfield 148, 3) := by decide +kernel
theorem dX12_isLet_17 : decode cX12_isLet 17 = .ok (.iload_n 1, 1) := by decide +kernel
theorem dX12_isLet_18 : decode cX12_isLet 18 = .ok (.iaload, 1) := by decide +kernel
theorem dX12_isLet_19 : decode cX12_isLet 19 = .ok (.iload_n 2, 1) := by decide +kernel
theorem dX12_isLet_20 : decode cX12_isLet 20 = .ok (.invokevirtual 366, 3) := by decide +kernel
theorem dX12_isLet_23 : decode cX12_isLet 23 = .ok (.aload_n 0, 1) := by decide +kernel
theorem dX12_isLet_24 : decode cX12_isLet 24 = .ok (.getfield 151, 3) := by decide +kernel
theorem dX12_isLet_27 : decode cX12_isLet 27 = .ok (.iload_n 1, 1) := by decide +kernel
theorem dX12_isLet_28 : decode cX12_isLet 28 = .ok (.iaload, 1) := by decide +kernel
theorem dX12_isLet_29 : decode cX12_isLet 29 = .ok (.iconst 1, 1) := by decide +kernel
theorem dX12_isLet_30 : decode cX12_isLet 30 = .ok (.if_icmp .ne 7, 3) := by decide +kernel
theorem dX12_isLet_33 : decode cX12_isLet 33 = .ok (.iconst 1, 1) := by decide +kernel
theorem dX12_isLet_34 : decode cX12_isLet 34 = .ok (.goto 4, 3) := by decide +kernel
theorem dX12_isLet_37 : decode cX12_isLet 37 = .ok (.iconst 0, 1) := by decide +kernel
theorem dX12_isLet_38 : decode cX12_isLet 38 = .ok (.if_icmp .ne 7, 3) := by decide +kernel
theorem dX12_isLet_41 : decode cX12_isLet 41 = .ok (.iconst 1, 1) := by decide +kernel
theorem dX12_isLet_42 : decode cX12_isLet 42 = .ok (.goto 4, 3) := by decide +kernel
theorem dX12_isLet_45 : decode cX12_isLet 45 = .ok (.iconst 0, 1) := by decide +kernel
theorem dX12_isLet_46 : decode cX12_isLet 46 = .ok (.ireturn, 1) := by decide +kernel
theorem dX12_lets_0 : decode cX12_lets 0 = .ok (.aload_n 0, 1) := by decide +kernel
theorem dX12_lets_1 : decode cX12_lets 1 = .ok (.iload_n 1, 1) := by decide +kernel
theorem dX12_lets_2 : decode cX12_lets 2 = .ok (.iconst 0, 1) := by decide +kernel
theorem dX12_lets_3 : decode cX12_lets 3 = .ok (.aload_n 0, 1) := by decide +kernel
theorem dX12_lets_4 : decode cX12_lets 4 = .ok (.getfield 127, 3) := by decide +kernel
theorem dX12_lets_7 : decode cX12_lets 7 = .ok (.iconst 1, 1) := by decide +kernel
theorem dX12_lets_8 : decode cX12_lets 8 = .ok (.isub, 1) := by decide +kernel
theorem dX12_lets_9 : decode cX12_lets 9 = .ok (.invokevirtual 218, 3) := by decide +kernel
theorem dX12_lets_12 : decode cX12_lets 12 = .ok (.ifCond .eq 11, 3) := by decide +kernel
theorem dX12_lets_15 : decode cX12_lets 15 = .ok (.aload_n 0, 1) := by decide +kernel
theorem dX12_lets_16 : decode cX12_lets 16 = .ok (.iload_n 2, 1) := by decide +kernel
theorem dX12_lets_17 : decode cX12_lets 17 = .ok (.invokevirtual 370, 3) := by decide +kernel
theorem dX12_lets_20 : decode cX12_lets 20 = .ok (.ifCond .ne 8, 3) := by decide +kernel
theorem dX12_lets_23 : decode cX12_lets 23 = .ok (.bipush (-2), 2) := by decide +kernel
theorem dX12_lets_25 : decode cX12_lets 25 = .ok (.goto 17, 3) := by decide +kernel
theorem dX12_lets_28 : decode cX12_lets 28 = .ok (.aload_n 0, 1) := by decide +kernel
theorem dX12_lets_29 : decode cX12_lets 29 = .ok (.iload_n 1, 1) := by decide +kernel
theorem dX12_lets_30 : decode cX12_lets 30 = .ok (.iload_n 2, 1) := by decide +kernel
theorem dX12_lets_31 : decode cX12_lets 31 = .ok (.invokevirtual 373, 3) := by decide +kernel
theorem dX12_lets_34 : decode cX12_lets 34 = .ok (.ifCond .eq 7, 3) := by decide +kernel
theorem dX12_lets_37 : decode cX12_lets 37 = .ok (.iconst 1, 1) := by decide +kernel
theorem dX12_lets_38 : decode cX12_lets 38 = .ok (.goto 4, 3) := by decide +kernel
theorem dX12_lets_41 : decode cX12_lets 41 = .ok (.iconst 0, 1) := by decide +kernel
theorem dX12_lets_42 : decode cX12_lets 42 = .ok (.ireturn, 1) := by decide +kernel
theorem dX12_left_0 : decode cX12_left 0 = .ok (.iconst 0, 1) := by decide +kernel
theorem dX12_left_1 : decode cX12_left 1 = .ok (.istore_n 1, 1) := by decide +kernel
theorem dX12_left_2 : decode cX12_left 2 = .ok (.iconst 0, 1) := by decide +kernel
theorem dX12_left_3 : decode cX12_left 3 = .ok (.istore_n 2, 1) := by decide +kernel
theorem dX12_left_4 : decode cX12_left 4 = .ok (.iload_n 2, 1) := by decide +kernel
theorem dX12_left_5 : decode cX12_left 5 = .ok (.aload_n 0, 1) := by decide +kernel
theorem dX12_left_6 : decode cX12_left 6 = .ok (.getfield 124, 3) := by decide +kernel
theorem dX12_left_9 : decode cX12_left 9 = .ok (.if_icmp .ge 69, 3) := by decide +kernel
theorem dX12_left_12 : decode cX12_left 12 = .ok (.iconst 1, 1) := by decide +kernel
theorem dX12_left_13 : decode cX12_left 13 = .ok (.istore_n 3, 1) := by decide +kernel
theorem dX12_left_14 : decode cX12_left 14 = .ok (.iconst 0, 1) := by decide +kernel
theorem dX12_left_15 : decode cX12_left 15 = .ok (.istore 4, 2) := by decide +kernel
theorem dX12_left_17 : decode cX12_left 17 = .ok (.iload 4, 2) := by decide +kernel
theorem dX12_left_19 : decode cX12_left 19 = .ok (.aload_n 0, 1) := by decide +kernel
theorem dX12_left_20 : decode cX12_left 20 = .ok (.getfield 127, 3) := by decide +kernel
theorem dX12_left_23 : decode cX12_left 23 = .ok (.if_icmp .ge 39, 3) := by decide +kernel
theorem dX12_left_26 : decode cX12_left 26 = .ok (.iload_n 3, 1) := by decide +kernel
theorem dX12_left_27 : decode cX12_left 27 = .ok (.ifCond .eq 27, 3) := by decide +kernel
theorem dX12_left_30 : decode cX12_left 30 = .ok (.aload_n 0, 1) := by decide +kernel
theorem dX12_left_31 : decode cX12_left 31 = .ok (.getfield 163, 3) := by decide +kernel
theorem dX12_left_34 : decode cX12_left 34 = .ok (.iload 4, 2) := by decide +kernel
theorem dX12_left_36 : decode cX12_left 36 = .ok (.baload, 1) := by decide +kernel
theorem dX12_left_37 : decode cX12_left 37 = .ok (.ifCond .ne 13, 3) := by decide +kernel
theorem dX12_left_40 : decode cX12_left 40 = .ok (.aload_n 0, 1) := by decide +kernel
theorem dX12_left_41 : decode cX12_left 41 = .ok (.iload 4, 2) := by decide +kernel
theorem dX12_left_43 : decode cX12_left 43 = .ok (.iload_n 2, 1) := by decide +kernel
theorem dX12_left_44 : decode cX12_left 44 = .ok (.invokevirtual 373, 3) := by decide +kernel
theorem dX12_left_47 : decode cX12_left 47 = .ok (.ifCond .eq 7, 3) := by decide +kernel
theorem dX12_left_50 : decode cX12_left 50 = .ok (.iconst 1, 1) := by decide +kernel
theorem dX12_left_51 : decode cX12_left 51 = .ok (.goto 4, 3) := by decide +kernel
theorem dX12_left_54 : decode cX12_left 54 = .ok (.iconst 0, 1) := by decide +kernel
theorem dX12_left_55 : decode cX12_left 55 = .ok (.istore_n 3, 1) := by decide +kernel
theorem dX12_left_56 : decode cX12_left 56 = .ok (.iinc 4 1, 3) := by decide +kernel
theorem dX12_left_59 : decode cX12_left 59 = .ok (.goto (-42), 3) := by decide +kernel
theorem dX12_left_62 : decode cX12_left 62 = .ok (.iload_n 3, 1) := by decide +kernel
theorem dX12_left_63 : decode cX12_left 63 = .ok (.ifCond .eq 9, 3) := by decide +kernel
theorem dX12_left_66 : decode cX12_left 66 = .ok (.iload_n 1, 1) := by decide +kernel
theorem dX12_left_67 : decode cX12_left 67 = .ok (.iconst 1, 1) := by decide +kernel
theorem dX12_left_68 : decode cX12_left 68 = .ok (.iload_n 2, 1) := by decide +kernel
theorem dX12_left_69 : decode cX12_left 69 = .ok (.ishl, 1) := by decide +kernel
theorem dX12_left_70 : decode cX12_left 70 = .ok (.ior, 1) := by decide +kernel
theorem dX12_left_71 : decode cX12_left 71 = .ok (.istore_n 1, 1) := by decide +kernel
theorem dX12_left_72 : decode cX12_left 72 = .ok (.iinc 2 1, 3) := by decide +kernel
theorem dX12_left_75 : decode cX12_left 75 = .ok (.goto (-71), 3) := by decide +kernel
theorem dX12_left_78 : decode cX12_left 78 = .ok (.iload_n 1, 1) := by decide +kernel
theorem dX12_left_79 : decode cX12_left 79 = .ok (.ireturn, 1) := by decide +kernel
theorem dX12_worstOf_0 : decode cX12_worstOf 0 = .ok (.iconst 0, 1) := by decide +kernel
theorem dX12_worstOf_1 : decode cX12_worstOf 1 = .ok (.istore 5, 2) := by decide +kernel
theorem dX12_worstOf_3 : decode cX12_worstOf 3 = .ok (.iconst 0, 1) := by decide +kernel
theorem dX12_worstOf_4 : decode cX12_worstOf 4 = .ok (.istore 6, 2) := by decide +kernel
theorem dX12_worstOf_6 : decode cX12_worstOf 6 = .ok (.iconst 0, 1) := by decide +kernel
theorem dX12_worstOf_7 : decode cX12_worstOf 7 = .ok (.istore 7, 2) := by decide +kernel
theorem dX12_worstOf_9 : decode cX12_worstOf 9 = .ok (.iload 7, 2) := by decide +kernel
theorem dX12_worstOf_11 : decode cX12_worstOf 11 = .ok (.aload_n 0, 1) := by decide +kernel
theorem dX12_worstOf_12 : decode cX12_worstOf 12 = .ok (.getfield 124, 3) := by decide +kernel
theorem dX12_worstOf_15 : decode cX12_worstOf 15 = .ok (.if_icmp .ge 47, 3) := by decide +kernel
theorem dX12_worstOf_18 : decode cX12_worstOf 18 = .ok (.iload 4, 2) := by decide +kernel
theorem dX12_worstOf_20 : decode cX12_worstOf 20 = .ok (.iload 7, 2) := by decide +kernel
theorem dX12_worstOf_22 : decode cX12_worstOf 22 = .ok (.ishr, 1) := by decide +kernel
theorem dX12_worstOf_23 : decode cX12_worstOf 23 = .ok (.iconst 1, 1) := by decide +kernel
theorem dX12_worstOf_24 : decode cX12_worstOf 24 = .ok (.iand, 1) := by decide +kernel
theorem dX12_worstOf_25 : decode cX12_worstOf 25 = .ok (.ifCond .ne 6, 3) := by decide +kernel
theorem dX12_worstOf_28 : decode cX12_worstOf 28 = .ok (.goto 28, 3) := by decide +kernel
theorem dX12_worstOf_31 : decode cX12_worstOf 31 = .ok (.iinc 6 1, 3) := by decide +kernel
theorem dX12_worstOf_34 : decode cX12_worstOf 34 = .ok (.iload 5, 2) := by decide +kernel
theorem dX12_worstOf_36 : decode cX12_worstOf 36 = .ok (.aload_n 0, 1) := by decide +kernel
theorem dX12_worstOf_37 : decode cX12_worstOf 37 = .ok (.iload_n 1, 1) := by decide +kernel
theorem dX12_worstOf_38 : decode cX12_worstOf 38 = .ok (.iload_n 2, 1) := by decide +kernel
theorem dX12_worstOf_39 : decode cX12_worstOf 39 = .ok (.iload_n 3, 1) := by decide +kernel
theorem dX12_worstOf_40 : decode cX12_worstOf 40 = .ok (.iload 7, 2) := by decide +kernel
theorem dX12_worstOf_42 : decode cX12_worstOf 42 = .ok (.invokevirtual 366, 3) := by decide +kernel
theorem dX12_worstOf_45 : decode cX12_worstOf 45 = .ok (.ifCond .eq 7, 3) := by decide +kernel
theorem dX12_worstOf_48 : decode cX12_worstOf 48 = .ok (.iconst 1, 1) := by decide +kernel
theorem dX12_worstOf_49 : decode cX12_worstOf 49 = .ok (.goto 4, 3) := by decide +kernel
theorem dX12_worstOf_52 : decode cX12_worstOf 52 = .ok (.iconst 0, 1) := by decide +kernel
theorem dX12_worstOf_53 : decode cX12_worstOf 53 = .ok (.iadd, 1) := by decide +kernel
theorem dX12_worstOf_54 : decode cX12_worstOf 54 = .ok (.istore 5, 2) := by decide +kernel
theorem dX12_worstOf_56 : decode cX12_worstOf 56 = .ok (.iinc 7 1, 3) := by decide +kernel
theorem dX12_worstOf_59 : decode cX12_worstOf 59 = .ok (.goto (-50), 3) := by decide +kernel
theorem dX12_worstOf_62 : decode cX12_worstOf 62 = .ok (.iload 5, 2) := by decide +kernel
theorem dX12_worstOf_64 : decode cX12_worstOf 64 = .ok (.iload 6, 2) := by decide +kernel
theorem dX12_worstOf_66 : decode cX12_worstOf 66 = .ok (.iload 5, 2) := by decide +kernel
theorem dX12_worstOf_68 : decode cX12_worstOf 68 = .ok (.isub, 1) := by decide +kernel
theorem dX12_worstOf_69 : decode cX12_worstOf 69 = .ok (.if_icmp .le 8, 3) := by decide +kernel
theorem dX12_worstOf_72 : decode cX12_worstOf 72 = .ok (.iload 5, 2) := by decide +kernel
theorem dX12_worstOf_74 : decode cX12_worstOf 74 = .ok (.goto 8, 3) := by decide +kernel
theorem dX12_worstOf_77 : decode cX12_worstOf 77 = .ok (.iload 6, 2) := by decide +kernel
theorem dX12_worstOf_79 : decode cX12_worstOf 79 = .ok (.iload 5, 2) := by decide +kernel
theorem dX12_worstOf_81 : decode cX12_worstOf 81 = .ok (.isub, 1) := by decide +kernel
theorem dX12_worstOf_82 : decode cX12_worstOf 82 = .ok (.ireturn, 1) := by decide +kernel
theorem dX12_worst_0 : decode cX12_worst 0 = .ok (.aload_n 0, 1) := by decide +kernel
theorem dX12_worst_1 : decode cX12_worst 1 = .ok (.iload_n 1, 1) := by decide +kernel
theorem dX12_worst_2 : decode cX12_worst 2 = .ok (.invokevirtual 236, 3) := by decide +kernel
theorem dX12_worst_5 : decode cX12_worst 5 = .ok (.ifCond .eq 44, 3) := by decide +kernel
theorem dX12_worst_8 : decode cX12_worst 8 = .ok (.aload_n 0, 1) := by decide +kernel
theorem dX12_worst_9 : decode cX12_worst 9 = .ok (.getfield 44, 3) := by decide +kernel
theorem dX12_worst_12 : decode cX12_worst 12 = .ok (.iload_n 1, 1) := by decide +kernel
theorem dX12_worst_13 : decode cX12_worst 13 = .ok (.baload, 1) := by decide +kernel
theorem dX12_worst_14 : decode cX12_worst 14 = .ok (.ifCond .ne 35, 3) := by decide +kernel
theorem dX12_worst_17 : decode cX12_worst 17 = .ok (.aload_n 0, 1) := by decide +kernel
theorem dX12_worst_18 : decode cX12_worst 18 = .ok (.iload_n 2, 1) := by decide +kernel
theorem dX12_worst_19 : decode cX12_worst 19 = .ok (.invokevirtual 246, 3) := by decide +kernel
theorem dX12_worst_22 : decode cX12_worst 22 = .ok (.ifCond .eq 27, 3) := by decide +kernel
theorem dX12_worst_25 : decode cX12_worst 25 = .ok (.aload_n 0, 1) := by decide +kernel
theorem dX12_worst_26 : decode cX12_worst 26 = .ok (.iload_n 3, 1) := by decide +kernel
theorem dX12_worst_27 : decode cX12_worst 27 = .ok (.iconst 0, 1) := by decide +kernel
theorem dX12_worst_28 : decode cX12_worst 28 = .ok (.iconst 1, 1) := by decide +kernel
theorem dX12_worst_29 : decode cX12_worst 29 = .ok (.invokevirtual 218, 3) := by decide +kernel
theorem dX12_worst_32 : decode cX12_worst 32 = .ok (.ifCond .eq 17, 3) := by decide +kernel
theorem dX12_worst_35 : decode cX12_worst 35 = .ok (.aload_n 0, 1) := by decide +kernel
theorem dX12_worst_36 : decode cX12_worst 36 = .ok (.iload_n 1, 1) := by decide +kernel
theorem dX12_worst_37 : decode cX12_worst 37 = .ok (.iload_n 2, 1) := by decide +kernel
theorem dX12_worst_38 : decode cX12_worst 38 = .ok (.iload_n 3, 1) := by decide +kernel
theorem dX12_worst_39 : decode cX12_worst 39 = .ok (.aload_n 0, 1) := by decide +kernel
theorem dX12_worst_40 : decode cX12_worst 40 = .ok (.invokevirtual 376, 3) := by decide +kernel
theorem dX12_worst_43 : decode cX12_worst 43 = .ok (.invokevirtual 379, 3) := by decide +kernel
theorem dX12_worst_46 : decode cX12_worst 46 = .ok (.goto 5, 3) := by decide +kernel
theorem dX12_worst_49 : decode cX12_worst 49 = .ok (.bipush (-2), 2) := by decide +kernel
theorem dX12_worst_51 : decode cX12_worst 51 = .ok (.ireturn, 1) := by decide +kernel
theorem dX12_look_0 : decode cX12_look 0 = .ok (.aload_n 0, 1) := by decide +kernel
theorem dX12_look_1 : decode cX12_look 1 = .ok (.iload_n 1, 1) := by decide +kernel
theorem dX12_look_2 : decode cX12_look 2 = .ok (.invokevirtual 246, 3) := by decide +kernel
theorem dX12_look_5 : decode cX12_look 5 = .ok (.ifCond .ne 6, 3) := by decide +kernel
theorem dX12_look_8 : decode cX12_look 8 = .ok (.bipush (-2), 2) := by decide +kernel
theorem dX12_look_10 : decode cX12_look 10 = .ok (.ireturn, 1) := by decide +kernel
theorem dX12_look_11 : decode cX12_look 11 = .ok (.aload_n 0, 1) := by decide +kernel
theorem dX12_look_12 : decode cX12_look 12 = .ok (.invokevirtual 376, 3) := by decide +kernel
theorem dX12_look_15 : decode cX12_look 15 = .ok (.istore_n 2, 1) := by decide +kernel
theorem dX12_look_16 : decode cX12_look 16 = .ok (.iconst (-1), 1) := by decide +kernel
theorem dX12_look_17 : decode cX12_look 17 = .ok (.istore_n 3, 1) := by decide +kernel
theorem dX12_look_18 : decode cX12_look 18 = .ok (.iconst 0, 1) := by decide +kernel
theorem dX12_look_19 : decode cX12_look 19 = .ok (.istore 4, 2) := by decide +kernel
theorem dX12_look_21 : decode cX12_look 21 = .ok (.iconst 0, 1) := by decide +kernel
theorem dX12_look_22 : decode cX12_look 22 = .ok (.istore 5, 2) := by decide +kernel
theorem dX12_look_24 : decode cX12_look 24 = .ok (.iload 5, 2) := by decide +kernel
theorem dX12_look_26 : decode cX12_look 26 = .ok (.iconst 2, 1) := by decide +kernel
theorem dX12_look_27 : decode cX12_look 27 = .ok (.aload_n 0, 1) := by decide +kernel
theorem dX12_look_28 : decode cX12_look 28 = .ok (.getfield 23, 3) := by decide +kernel
theorem dX12_look_31 : decode cX12_look 31 = .ok (.imul, 1) := by decide +kernel
theorem dX12_look_32 : decode cX12_look 32 = .ok (.if_icmp .ge 61, 3) := by decide +kernel
theorem dX12_look_35 : decode cX12_look 35 = .ok (.aload_n 0, 1) := by decide +kernel
theorem dX12_look_36 : decode cX12_look 36 = .ok (.getfield 44, 3) := by decide +kernel
theorem dX12_look_39 : decode cX12_look 39 = .ok (.iload 5, 2) := by decide +kernel
theorem dX12_look_41 : decode cX12_look 41 = .ok (.iconst 2, 1) := by decide +kernel
theorem dX12_look_42 : decode cX12_look 42 = .ok (.idiv, 1) := by decide +kernel
theorem dX12_look_43 : decode cX12_look 43 = .ok (.baload, 1) := by decide +kernel
theorem dX12_look_44 : decode cX12_look 44 = .ok (.ifCond .eq 6, 3) := by decide +kernel
theorem dX12_look_47 : decode cX12_look 47 = .ok (.goto 40, 3) := by decide +kernel
theorem dX12_look_50 : decode cX12_look 50 = .ok (.aload_n 0, 1) := by decide +kernel
theorem dX12_look_51 : decode cX12_look 51 = .ok (.iload 5, 2) := by decide +kernel
theorem dX12_look_53 : decode cX12_look 53 = .ok (.iconst 2, 1) := by decide +kernel
theorem dX12_look_54 : decode cX12_look 54 = .ok (.idiv, 1) := by decide +kernel
theorem dX12_look_55 : decode cX12_look 55 = .ok (.iload_n 1, 1) := by decide +kernel
theorem dX12_look_56 : decode cX12_look 56 = .ok (.iload 5, 2) := by decide +kernel
theorem dX12_look_58 : decode cX12_look 58 = .ok (.iconst 2, 1) := by decide +kernel
theorem dX12_look_59 : decode cX12_look 59 = .ok (.irem, 1) := by decide +kernel
theorem dX12_look_60 : decode cX12_look 60 = .ok (.iload_n 2, 1) := by decide +kernel
theorem dX12_look_61 : decode cX12_look 61 = .ok (.invokevirtual 379, 3) := by decide +kernel
theorem dX12_look_64 : decode cX12_look 64 = .ok (.istore 6, 2) := by decide +kernel
theorem dX12_look_66 : decode cX12_look 66 = .ok (.iload_n 3, 1) := by decide +kernel
theorem dX12_look_67 : decode cX12_look 67 = .ok (.ifCond .lt 13, 3) := by decide +kernel
theorem dX12_look_70 : decode cX12_look 70 = .ok (.iload 6, 2) := by decide +kernel
theorem dX12_look_72 : decode cX12_look 72 = .ok (.iload 4, 2) := by decide +kernel
theorem dX12_look_74 : decode cX12_look 74 = .ok (.if_icmp .lt 6, 3) := by decide +kernel
theorem dX12_look_77 : decode cX12_look 77 = .ok (.goto 10, 3) := by decide +kernel
theorem dX12_look_80 : decode cX12_look 80 = .ok (.iload 5, 2) := by decide +kernel
theorem dX12_look_82 : decode cX12_look 82 = .ok (.istore_n 3, 1) := by decide +kernel
theorem dX12_look_83 : decode cX12_look 83 = .ok (.iload 6, 2) := by decide +kernel
theorem dX12_look_85 : decode cX12_look 85 = .ok (.istore 4, 2) := by decide +kernel
theorem dX12_look_87 : decode cX12_look 87 = .ok (.iinc 5 1, 3) := by decide +kernel
theorem dX12_look_90 : decode cX12_look 90 = .ok (.goto (-66), 3) := by decide +kernel
theorem dX12_look_93 : decode cX12_look 93 = .ok (.iload_n 3, 1) := by decide +kernel
theorem dX12_look_94 : decode cX12_look 94 = .ok (.ireturn, 1) := by decide +kernel
theorem dX12_finding_0 : decode cX12_finding 0 = .ok (.aload_n 0, 1) := by decide +kernel
theorem dX12_finding_1 : decode cX12_finding 1 = .ok (.iload_n 1, 1) := by decide +kernel
theorem dX12_finding_2 : decode cX12_finding 2 = .ok (.invokevirtual 370, 3) := by decide +kernel
theorem dX12_finding_5 : decode cX12_finding 5 = .ok (.ifCond .eq 29, 3) := by decide +kernel
theorem dX12_finding_8 : decode cX12_finding 8 = .ok (.iload_n 2, 1) := by decide +kernel
theorem dX12_finding_9 : decode cX12_finding 9 = .ok (.ifCond .lt 25, 3) := by decide +kernel
theorem dX12_finding_12 : decode cX12_finding 12 = .ok (.iload_n 2, 1) := by decide +kernel
theorem dX12_finding_13 : decode cX12_finding 13 = .ok (.aload_n 0, 1) := by decide +kernel
theorem dX12_finding_14 : decode cX12_finding 14 = .ok (.getfield 127, 3) := by decide +kernel
theorem dX12_finding_17 : decode cX12_finding 17 = .ok (.ishr, 1) := by decide +kernel
theorem dX12_finding_18 : decode cX12_finding 18 = .ok (.ifCond .ne 16, 3) := by decide +kernel
theorem dX12_finding_21 : decode cX12_finding 21 = .ok (.iload_n 3, 1) := by decide +kernel
theorem dX12_finding_22 : decode cX12_finding 22 = .ok (.ifCond .lt 12, 3) := by decide +kernel
theorem dX12_finding_25 : decode cX12_finding 25 = .ok (.iload_n 3, 1) := by decide +kernel
theorem dX12_finding_26 : decode cX12_finding 26 = .ok (.aload_n 0, 1) := by decide +kernel
theorem dX12_finding_27 : decode cX12_finding 27 = .ok (.getfield 130, 3) := by decide +kernel
theorem dX12_finding_30 : decode cX12_finding 30 = .ok (.ishr, 1) := by decide +kernel
theorem dX12_finding_31 : decode cX12_finding 31 = .ok (.ifCond .eq 6, 3) := by decide +kernel
theorem dX12_finding_34 : decode cX12_finding 34 = .ok (.bipush (-2), 2) := by decide +kernel
theorem dX12_finding_36 : decode cX12_finding 36 = .ok (.ireturn, 1) := by decide +kernel
theorem dX12_finding_37 : decode cX12_finding 37 = .ok (.aload_n 0, 1) := by decide +kernel
theorem dX12_finding_38 : decode cX12_finding 38 = .ok (.getfield 130, 3) := by decide +kernel
theorem dX12_finding_41 : decode cX12_finding 41 = .ok (.bipush 10, 2) := by decide +kernel
theorem dX12_finding_43 : decode cX12_finding 43 = .ok (.if_icmp .ne 6, 3) := by decide +kernel
theorem dX12_finding_46 : decode cX12_finding 46 = .ok (.bipush (-4), 2) := by decide +kernel
theorem dX12_finding_48 : decode cX12_finding 48 = .ok (.ireturn, 1) := by decide +kernel
theorem dX12_finding_49 : decode cX12_finding 49 = .ok (.aload_n 0, 1) := by decide +kernel
theorem dX12_finding_50 : decode cX12_finding 50 = .ok (.getfield 154, 3) := by decide +kernel
theorem dX12_finding_53 : decode cX12_finding 53 = .ok (.aload_n 0, 1) := by decide +kernel
theorem dX12_finding_54 : decode cX12_finding 54 = .ok (.getfield 130, 3) := by decide +kernel
theorem dX12_finding_57 : decode cX12_finding 57 = .ok (.iload_n 1, 1) := by decide +kernel
theorem dX12_finding_58 : decode cX12_finding 58 = .ok (.iastore, 1) := by decide +kernel
theorem dX12_finding_59 : decode cX12_finding 59 = .ok (.aload_n 0, 1) := by decide +kernel
theorem dX12_finding_60 : decode cX12_finding 60 = .ok (.getfield 157, 3) := by decide +kernel
theorem dX12_finding_63 : decode cX12_finding 63 = .ok (.aload_n 0, 1) := by decide +kernel
theorem dX12_finding_64 : decode cX12_finding 64 = .ok (.getfield 130, 3) := by decide +kernel
theorem dX12_finding_67 : decode cX12_finding 67 = .ok (.iload_n 2, 1) := by decide +kernel
theorem dX12_finding_68 : decode cX12_finding 68 = .ok (.iastore, 1) := by decide +kernel
theorem dX12_finding_69 : decode cX12_finding 69 = .ok (.aload_n 0, 1) := by decide +kernel
theorem dX12_finding_70 : decode cX12_finding 70 = .ok (.getfield 160, 3) := by decide +kernel
theorem dX12_finding_73 : decode cX12_finding 73 = .ok (.aload_n 0, 1) := by decide +kernel
theorem dX12_finding_74 : decode cX12_finding 74 = .ok (.getfield 130, 3) := by decide +kernel
theorem dX12_finding_77 : decode cX12_finding 77 = .ok (.iload_n 3, 1) := by decide +kernel
theorem dX12_finding_78 : decode cX12_finding 78 = .ok (.iastore, 1) := by decide +kernel
theorem dX12_finding_79 : decode cX12_finding 79 = .ok (.aload_n 0, 1) := by decide +kernel
theorem dX12_finding_80 : decode cX12_finding 80 = .ok (.dup, 1) := by decide +kernel
theorem dX12_finding_81 : decode cX12_finding 81 = .ok (.getfield 130, 3) := by decide +kernel
theorem dX12_finding_84 : decode cX12_finding 84 = .ok (.iconst 1, 1) := by decide +kernel
theorem dX12_finding_85 : decode cX12_finding 85 = .ok (.iadd, 1) := by decide +kernel
theorem dX12_finding_86 : decode cX12_finding 86 = .ok (.putfield 130, 3) := by decide +kernel
theorem dX12_finding_89 : decode cX12_finding 89 = .ok (.aload_n 0, 1) := by decide +kernel
theorem dX12_finding_90 : decode cX12_finding 90 = .ok (.getfield 130, 3) := by decide +kernel
theorem dX12_finding_93 : decode cX12_finding 93 = .ok (.iconst 1, 1) := by decide +kernel
theorem dX12_finding_94 : decode cX12_finding 94 = .ok (.isub, 1) := by decide +kernel
theorem dX12_finding_95 : decode cX12_finding 95 = .ok (.ireturn, 1) := by decide +kernel
theorem dX12_standing_0 : decode cX12_standing 0 = .ok (.iconst 0, 1) := by decide +kernel
theorem dX12_standing_1 : decode cX12_standing 1 = .ok (.istore_n 1, 1) := by decide +kernel
theorem dX12_standing_2 : decode cX12_standing 2 = .ok (.iconst 0, 1) := by decide +kernel
theorem dX12_standing_3 : decode cX12_standing 3 = .ok (.istore_n 2, 1) := by decide +kernel
theorem dX12_standing_4 : decode cX12_standing 4 = .ok (.iload_n 2, 1) := by decide +kernel
theorem dX12_standing_5 : decode cX12_standing 5 = .ok (.aload_n 0, 1) := by decide +kernel
theorem dX12_standing_6 : decode cX12_standing 6 = .ok (.getfield 130, 3) := by decide +kernel
theorem dX12_standing_9 : decode cX12_standing 9 = .ok (.if_icmp .ge 106, 3) := by decide +kernel
theorem dX12_standing_12 : decode cX12_standing 12 = .ok (.aload_n 0, 1) := by decide +kernel
theorem dX12_standing_13 : decode cX12_standing 13 = .ok (.getfield 160, 3) := by decide +kernel
theorem dX12_standing_16 : decode cX12_standing 16 = .ok (.iload_n 2, 1) := by decide +kernel
theorem dX12_standing_17 : decode cX12_standing 17 = .ok (.iaload, 1) := by decide +kernel
theorem dX12_standing_18 : decode cX12_standing 18 = .ok (.iload_n 1, 1) := by decide +kernel
theorem dX12_standing_19 : decode cX12_standing 19 = .ok (.iconst (-1), 1) := by decide +kernel
theorem dX12_standing_20 : decode cX12_standing 20 = .ok (.ixor, 1) := by decide +kernel
theorem dX12_standing_21 : decode cX12_standing 21 = .ok (.iand, 1) := by decide +kernel
theorem dX12_standing_22 : decode cX12_standing 22 = .ok (.ifCond .ne 7, 3) := by decide +kernel
theorem dX12_standing_25 : decode cX12_standing 25 = .ok (.iconst 1, 1) := by decide +kernel
theorem dX12_standing_26 : decode cX12_standing 26 = .ok (.goto 4, 3) := by decide +kernel
theorem dX12_standing_29 : decode cX12_standing 29 = .ok (.iconst 0, 1) := by decide +kernel
theorem dX12_standing_30 : decode cX12_standing 30 = .ok (.istore_n 3, 1) := by decide +kernel
theorem dX12_standing_31 : decode cX12_standing 31 = .ok (.iconst 0, 1) := by decide +kernel
theorem dX12_standing_32 : decode cX12_standing 32 = .ok (.istore 4, 2) := by decide +kernel
theorem dX12_standing_34 : decode cX12_standing 34 = .ok (.iload 4, 2) := by decide +kernel
theorem dX12_standing_36 : decode cX12_standing 36 = .ok (.aload_n 0, 1) := by decide +kernel
theorem dX12_standing_37 : decode cX12_standing 37 = .ok (.getfield 127, 3) := by decide +kernel
theorem dX12_standing_40 : decode cX12_standing 40 = .ok (.if_icmp .ge 59, 3) := by decide +kernel
theorem dX12_standing_43 : decode cX12_standing 43 = .ok (.aload_n 0, 1) := by decide +kernel
theorem dX12_standing_44 : decode cX12_standing 44 = .ok (.getfield 157, 3) := by decide +kernel
theorem dX12_standing_47 : decode cX12_standing 47 = .ok (.iload_n 2, 1) := by decide +kernel
theorem dX12_standing_48 : decode cX12_standing 48 = .ok (.iaload, 1) := by decide +kernel
theorem dX12_standing_49 : decode cX12_standing 49 = .ok (.iload 4, 2) := by decide +kernel
theorem dX12_standing_51 : decode cX12_standing 51 = .ok (.ishr, 1) := by decide +kernel
theorem dX12_standing_52 : decode cX12_standing 52 = .ok (.iconst 1, 1) := by decide +kernel
theorem dX12_standing_53 : decode cX12_standing 53 = .ok (.iand, 1) := by decide +kernel
theorem dX12_standing_54 : decode cX12_standing 54 = .ok (.iconst 1, 1) := by decide +kernel
theorem dX12_standing_55 : decode cX12_standing 55 = .ok (.if_icmp .ne 38, 3) := by decide +kernel
theorem dX12_standing_58 : decode cX12_standing 58 = .ok (.iload_n 3, 1) := by decide +kernel
theorem dX12_standing_59 : decode cX12_standing 59 = .ok (.ifCond .eq 32, 3) := by decide +kernel
theorem dX12_standing_62 : decode cX12_standing 62 = .ok (.aload_n 0, 1) := by decide +kernel
theorem dX12_standing_63 : decode cX12_standing 63 = .ok (.getfield 163, 3) := by decide +kernel
theorem dX12_standing_66 : decode cX12_standing 66 = .ok (.iload 4, 2) := by decide +kernel
theorem dX12_standing_68 : decode cX12_standing 68 = .ok (.baload, 1) := by decide +kernel
theorem dX12_standing_69 : decode cX12_standing 69 = .ok (.ifCond .ne 22, 3) := by decide +kernel
theorem dX12_standing_72 : decode cX12_standing 72 = .ok (.aload_n 0, 1) := by decide +kernel
theorem dX12_standing_73 : decode cX12_standing 73 = .ok (.iload 4, 2) := by decide +kernel
theorem dX12_standing_75 : decode cX12_standing 75 = .ok (.aload_n 0, 1) := by decide +kernel
theorem dX12_standing_76 : decode cX12_standing 76 = .ok (.getfield 154, 3) := by decide +kernel
theorem dX12_standing_79 : decode cX12_standing 79 = .ok (.iload_n 2, 1) := by decide +kernel
theorem dX12_standing_80 : decode cX12_standing 80 = .ok (.iaload, 1) := by decide +kernel
theorem dX12_standing_81 : decode cX12_standing 81 = .ok (.invokevirtual 373, 3) := by decide +kernel
theorem dX12_standing_84 : decode cX12_standing 84 = .ok (.ifCond .eq 7, 3) := by decide +kernel
theorem dX12_standing_87 : decode cX12_standing 87 = .ok (.iconst 1, 1) := by decide +kernel
theorem dX12_standing_88 : decode cX12_standing 88 = .ok (.goto 4, 3) := by decide +kernel
theorem dX12_standing_91 : decode cX12_standing 91 = .ok (.iconst 0, 1) := by decide +kernel
theorem dX12_standing_92 : decode cX12_standing 92 = .ok (.istore_n 3, 1) := by decide +kernel
theorem dX12_standing_93 : decode cX12_standing 93 = .ok (.iinc 4 1, 3) := by decide +kernel
theorem dX12_standing_96 : decode cX12_standing 96 = .ok (.goto (-62), 3) := by decide +kernel
theorem dX12_standing_99 : decode cX12_standing 99 = .ok (.iload_n 3, 1) := by decide +kernel
theorem dX12_standing_100 : decode cX12_standing 100 = .ok (.ifCond .eq 9, 3) := by decide +kernel
theorem dX12_standing_103 : decode cX12_standing 103 = .ok (.iload_n 1, 1) := by decide +kernel
theorem dX12_standing_104 : decode cX12_standing 104 = .ok (.iconst 1, 1) := by decide +kernel
theorem dX12_standing_105 : decode cX12_standing 105 = .ok (.iload_n 2, 1) := by decide +kernel
theorem dX12_standing_106 : decode cX12_standing 106 = .ok (.ishl, 1) := by decide +kernel
theorem dX12_standing_107 : decode cX12_standing 107 = .ok (.ior, 1) := by decide +kernel
theorem dX12_standing_108 : decode cX12_standing 108 = .ok (.istore_n 1, 1) := by decide +kernel
theorem dX12_standing_109 : decode cX12_standing 109 = .ok (.iinc 2 1, 3) := by decide +kernel
theorem dX12_standing_112 : decode cX12_standing 112 = .ok (.goto (-108), 3) := by decide +kernel
theorem dX12_standing_115 : decode cX12_standing 115 = .ok (.iload_n 1, 1) := by decide +kernel
theorem dX12_standing_116 : decode cX12_standing 116 = .ok (.ireturn, 1) := by decide +kernel
theorem dX12_hold__0 : decode cX12_hold_ 0 = .ok (.aload_n 0, 1) := by decide +kernel
theorem dX12_hold__1 : decode cX12_hold_ 1 = .ok (.iload_n 1, 1) := by decide +kernel
theorem dX12_hold__2 : decode cX12_hold_ 2 = .ok (.invokevirtual 236, 3) := by decide +kernel
theorem dX12_hold__5 : decode cX12_hold_ 5 = .ok (.ifCond .eq 13, 3) := by decide +kernel
theorem dX12_hold__8 : decode cX12_hold_ 8 = .ok (.aload_n 0, 1) := by decide +kernel
theorem dX12_hold__9 : decode cX12_hold_ 9 = .ok (.iload_n 2, 1) := by decide +kernel
theorem dX12_hold__10 : decode cX12_hold_ 10 = .ok (.iconst 0, 1) := by decide +kernel
theorem dX12_hold__11 : decode cX12_hold_ 11 = .ok (.iconst 1, 1) := by decide +kernel
theorem dX12_hold__12 : decode cX12_hold_ 12 = .ok (.invokevirtual 218, 3) := by decide +kernel
theorem dX12_hold__15 : decode cX12_hold_ 15 = .ok (.ifCond .ne 6, 3) := by decide +kernel
theorem dX12_hold__18 : decode cX12_hold_ 18 = .ok (.bipush (-2), 2) := by decide +kernel
theorem dX12_hold__20 : decode cX12_hold_ 20 = .ok (.ireturn, 1) := by decide +kernel
theorem dX12_hold__21 : decode cX12_hold_ 21 = .ok (.aload_n 0, 1) := by decide +kernel
theorem dX12_hold__22 : decode cX12_hold_ 22 = .ok (.getfield 48, 3) := by decide +kernel
theorem dX12_hold__25 : decode cX12_hold_ 25 = .ok (.iload_n 1, 1) := by decide +kernel
theorem dX12_hold__26 : decode cX12_hold_ 26 = .ok (.baload, 1) := by decide +kernel
theorem dX12_hold__27 : decode cX12_hold_ 27 = .ok (.ifCond .eq 7, 3) := by decide +kernel
theorem dX12_hold__30 : decode cX12_hold_ 30 = .ok (.iconst 1, 1) := by decide +kernel
theorem dX12_hold__31 : decode cX12_hold_ 31 = .ok (.goto 4, 3) := by decide +kernel
theorem dX12_hold__34 : decode cX12_hold_ 34 = .ok (.iconst 0, 1) := by decide +kernel
theorem dX12_hold__35 : decode cX12_hold_ 35 = .ok (.istore_n 3, 1) := by decide +kernel
theorem dX12_hold__36 : decode cX12_hold_ 36 = .ok (.aload_n 0, 1) := by decide +kernel
theorem dX12_hold__37 : decode cX12_hold_ 37 = .ok (.getfield 48, 3) := by decide +kernel
theorem dX12_hold__40 : decode cX12_hold_ 40 = .ok (.iload_n 1, 1) := by decide +kernel
theorem dX12_hold__41 : decode cX12_hold_ 41 = .ok (.iload_n 2, 1) := by decide +kernel
theorem dX12_hold__42 : decode cX12_hold_ 42 = .ok (.iconst 1, 1) := by decide +kernel
theorem dX12_hold__43 : decode cX12_hold_ 43 = .ok (.if_icmp .ne 7, 3) := by decide +kernel
theorem dX12_hold__46 : decode cX12_hold_ 46 = .ok (.iconst 1, 1) := by decide +kernel
theorem dX12_hold__47 : decode cX12_hold_ 47 = .ok (.goto 4, 3) := by decide +kernel
theorem dX12_hold__50 : decode cX12_hold_ 50 = .ok (.iconst 0, 1) := by decide +kernel
theorem dX12_hold__51 : decode cX12_hold_ 51 = .ok (.bastore, 1) := by decide +kernel
theorem dX12_hold__52 : decode cX12_hold_ 52 = .ok (.iload_n 3, 1) := by decide +kernel
theorem dX12_hold__53 : decode cX12_hold_ 53 = .ok (.ireturn, 1) := by decide +kernel
theorem dX12_shooting_0 : decode cX12_shooting 0 = .ok (.iconst 1, 1) := by decide +kernel
theorem dX12_shooting_1 : decode cX12_shooting 1 = .ok (.iload_n 1, 1) := by decide +kernel
theorem dX12_shooting_2 : decode cX12_shooting 2 = .ok (.ishl, 1) := by decide +kernel
theorem dX12_shooting_3 : decode cX12_shooting 3 = .ok (.istore 5, 2) := by decide +kernel
theorem dX12_shooting_5 : decode cX12_shooting 5 = .ok (.iconst 1, 1) := by decide +kernel
theorem dX12_shooting_6 : decode cX12_shooting 6 = .ok (.istore 6, 2) := by decide +kernel
theorem dX12_shooting_8 : decode cX12_shooting 8 = .ok (.iload 6, 2) := by decide +kernel
theorem dX12_shooting_10 : decode cX12_shooting 10 = .ok (.iload_n 3, 1) := by decide +kernel
theorem dX12_shooting_11 : decode cX12_shooting 11 = .ok (.if_icmp .gt 207, 3) := by decide +kernel
theorem dX12_shooting_14 : decode cX12_shooting 14 = .ok (.iconst 0, 1) := by decide +kernel
theorem dX12_shooting_15 : decode cX12_shooting 15 = .ok (.istore 7, 2) := by decide +kernel
theorem dX12_shooting_17 : decode cX12_shooting 17 = .ok (.iconst 0, 1) := by decide +kernel
theorem dX12_shooting_18 : decode cX12_shooting 18 = .ok (.istore 8, 2) := by decide +kernel
theorem dX12_shooting_20 : decode cX12_shooting 20 = .ok (.iload 8, 2) := by decide +kernel
theorem dX12_shooting_22 : decode cX12_shooting 22 = .ok (.aload_n 0, 1) := by decide +kernel
theorem dX12_shooting_23 : decode cX12_shooting 23 = .ok (.getfield 23, 3) := by decide +kernel
theorem dX12_shooting_26 : decode cX12_shooting 26 = .ok (.if_icmp .ge 175, 3) := by decide +kernel
theorem dX12_shooting_29 : decode cX12_shooting 29 = .ok (.aload_n 0, 1) := by decide +kernel
theorem dX12_shooting_30 : decode cX12_shooting 30 = .ok (.getfield 29, 3) := by decide +kernel
theorem dX12_shooting_33 : decode cX12_shooting 33 = .ok (.iload 8, 2) := by decide +kernel
theorem dX12_shooting_35 : decode cX12_shooting 35 = .ok (.iaload, 1) := by decide +kernel
theorem dX12_shooting_36 : decode cX12_shooting 36 = .ok (.iconst 1, 1) := by decide +kernel
theorem dX12_shooting_37 : decode cX12_shooting 37 = .ok (.if_icmp .gt 158, 3) := by decide +kernel
theorem dX12_shooting_40 : decode cX12_shooting 40 = .ok (.aload_n 0, 1) := by decide +kernel
theorem dX12_shooting_41 : decode cX12_shooting 41 = .ok (.getfield 44, 3) := by decide +kernel
theorem dX12_shooting_44 : decode cX12_shooting 44 = .ok (.iload 8, 2) := by decide +kernel
theorem dX12_shooting_46 : decode cX12_shooting 46 = .ok (.baload, 1) := by decide +kernel
theorem dX12_shooting_47 : decode cX12_shooting 47 = .ok (.ifCond .ne 148, 3) := by decide +kernel
theorem dX12_shooting_50 : decode cX12_shooting 50 = .ok (.aload_n 0, 1) := by decide +kernel
theorem dX12_shooting_51 : decode cX12_shooting 51 = .ok (.getfield 48, 3) := by decide +kernel
theorem dX12_shooting_54 : decode cX12_shooting 54 = .ok (.iload 8, 2) := by decide +kernel
theorem dX12_shooting_56 : decode cX12_shooting 56 = .ok (.baload, 1) := by decide +kernel
theorem dX12_shooting_57 : decode cX12_shooting 57 = .ok (.ifCond .ne 138, 3) := by decide +kernel
theorem dX12_shooting_60 : decode cX12_shooting 60 = .ok (.iload 4, 2) := by decide +kernel
theorem dX12_shooting_62 : decode cX12_shooting 62 = .ok (.iload 8, 2) := by decide +kernel
theorem dX12_shooting_64 : decode cX12_shooting 64 = .ok (.ishr, 1) := by decide +kernel
theorem dX12_shooting_65 : decode cX12_shooting 65 = .ok (.iconst 1, 1) := by decide +kernel
theorem dX12_shooting_66 : decode cX12_shooting 66 = .ok (.iand, 1) := by decide +kernel
theorem dX12_shooting_67 : decode cX12_shooting 67 = .ok (.iconst 1, 1) := by decide +kernel
theorem dX12_shooting_68 : decode cX12_shooting 68 = .ok (.if_icmp .ne 6, 3) := by decide +kernel
theorem dX12_shooting_71 : decode cX12_shooting 71 = .ok (.goto 124, 3) := by decide +kernel
theorem dX12_shooting_74 : decode cX12_shooting 74 = .ok (.iconst 0, 1) := by decide +kernel
theorem dX12_shooting_75 : decode cX12_shooting 75 = .ok (.istore 9, 2) := by decide +kernel
theorem dX12_shooting_77 : decode cX12_shooting 77 = .ok (.iconst 0, 1) := by decide +kernel
theorem dX12_shooting_78 : decode cX12_shooting 78 = .ok (.istore 10, 2) := by decide +kernel
theorem dX12_shooting_80 : decode cX12_shooting 80 = .ok (.iload 10, 2) := by decide +kernel
theorem dX12_shooting_82 : decode cX12_shooting 82 = .ok (.aload_n 0, 1) := by decide +kernel
theorem dX12_shooting_83 : decode cX12_shooting 83 = .ok (.getfield 23, 3) := by decide +kernel
theorem dX12_shooting_86 : decode cX12_shooting 86 = .ok (.if_icmp .ge 79, 3) := by decide +kernel
theorem dX12_shooting_89 : decode cX12_shooting 89 = .ok (.iload 5, 2) := by decide +kernel
theorem dX12_shooting_91 : decode cX12_shooting 91 = .ok (.iload 10, 2) := by decide +kernel
theorem dX12_shooting_93 : decode cX12_shooting 93 = .ok (.ishr, 1) := by decide +kernel
theorem dX12_shooting_94 : decode cX12_shooting 94 = .ok (.iconst 1, 1) := by decide +kernel
theorem dX12_shooting_95 : decode cX12_shooting 95 = .ok (.iand, 1) := by decide +kernel
theorem dX12_shooting_96 : decode cX12_shooting 96 = .ok (.iconst 1, 1) := by decide +kernel
theorem dX12_shooting_97 : decode cX12_shooting 97 = .ok (.if_icmp .ne 62, 3) := by decide +kernel
theorem dX12_shooting_100 : decode cX12_shooting 100 = .ok (.aload_n 0, 1) := by decide +kernel
theorem dX12_shooting_101 : decode cX12_shooting 101 = .ok (.getfield 29, 3) := by decide +kernel
theorem dX12_shooting_104 : decode cX12_shooting 104 = .ok (.iload 10, 2) := by decide +kernel
theorem dX12_shooting_106 : decode cX12_shooting 106 = .ok (.iaload, 1) := by decide +kernel
theorem dX12_shooting_107 : decode cX12_shooting 107 = .ok (.iconst 1, 1) := by decide +kernel
theorem dX12_shooting_108 : decode cX12_shooting 108 = .ok (.aload_n 0, 1) := by decide +kernel
theorem dX12_shooting_109 : decode cX12_shooting 109 = .ok (.getfield 29, 3) := by decide +kernel
theorem dX12_shooting_112 : decode cX12_shooting 112 = .ok (.iload 8, 2) := by decide +kernel
theorem dX12_shooting_114 : decode cX12_shooting 114 = .ok (.iaload, 1) := by decide +kernel
theorem dX12_shooting_115 : decode cX12_shooting 115 = .ok (.isub, 1) := by decide +kernel
theorem dX12_shooting_116 : decode cX12_shooting 116 = .ok (.if_icmp .ne 43, 3) := by decide +kernel
theorem dX12_shooting_119 : decode cX12_shooting 119 = .ok (.aload_n 0, 1) := by decide +kernel
theorem dX12_shooting_120 : decode cX12_shooting 120 = .ok (.aload_n 0, 1) := by decide +kernel
theorem dX12_shooting_121 : decode cX12_shooting 121 = .ok (.iload 10, 2) := by decide +kernel
theorem dX12_shooting_123 : decode cX12_shooting 123 = .ok (.iload_n 2, 1) := by decide +kernel
theorem dX12_shooting_124 : decode cX12_shooting 124 = .ok (.iload 6, 2) := by decide +kernel
theorem dX12_shooting_126 : decode cX12_shooting 126 = .ok (.iadd, 1) := by decide +kernel
theorem dX12_shooting_127 : decode cX12_shooting 127 = .ok (.iconst 1, 1) := by decide +kernel
theorem dX12_shooting_128 : decode cX12_shooting 128 = .ok (.isub, 1) := by decide +kernel
theorem dX12_shooting_129 : decode cX12_shooting 129 = .ok (.invokevirtual 249, 3) := by decide +kernel
theorem dX12_shooting_132 : decode cX12_shooting 132 = .ok (.aload_n 0, 1) := by decide +kernel
theorem dX12_shooting_133 : decode cX12_shooting 133 = .ok (.iload 8, 2) := by decide +kernel
theorem dX12_shooting_135 : decode cX12_shooting 135 = .ok (.iload_n 2, 1) := by decide +kernel
theorem dX12_shooting_136 : decode cX12_shooting 136 = .ok (.iload 6, 2) := by decide +kernel
theorem dX12_shooting_138 : decode cX12_shooting 138 = .ok (.iadd, 1) := by decide +kernel
theorem dX12_shooting_139 : decode cX12_shooting 139 = .ok (.invokevirtual 249, 3) := by decide +kernel
theorem dX12_shooting_142 : decode cX12_shooting 142 = .ok (.invokevirtual 260, 3) := by decide +kernel
theorem dX12_shooting_145 : decode cX12_shooting 145 = .ok (.aload_n 0, 1) := by decide +kernel
theorem dX12_shooting_146 : decode cX12_shooting 146 = .ok (.iload 8, 2) := by decide +kernel
theorem dX12_shooting_148 : decode cX12_shooting 148 = .ok (.invokevirtual 243, 3) := by decide +kernel
theorem dX12_shooting_151 : decode cX12_shooting 151 = .ok (.iconst 4, 1) := by decide +kernel
theorem dX12_shooting_152 : decode cX12_shooting 152 = .ok (.iadd, 1) := by decide +kernel
theorem dX12_shooting_153 : decode cX12_shooting 153 = .ok (.if_icmp .gt 6, 3) := by decide +kernel
theorem dX12_shooting_156 : decode cX12_shooting 156 = .ok (.iinc 9 1, 3) := by decide +kernel
theorem dX12_shooting_159 : decode cX12_shooting 159 = .ok (.iinc 10 1, 3) := by decide +kernel
theorem dX12_shooting_162 : decode cX12_shooting 162 = .ok (.goto (-82), 3) := by decide +kernel
theorem dX12_shooting_165 : decode cX12_shooting 165 = .ok (.iload 9, 2) := by decide +kernel
theorem dX12_shooting_167 : decode cX12_shooting 167 = .ok (.ifCond .le 28, 3) := by decide +kernel
theorem dX12_shooting_170 : decode cX12_shooting 170 = .ok (.aload_n 0, 1) := by decide +kernel
theorem dX12_shooting_171 : decode cX12_shooting 171 = .ok (.iload 8, 2) := by decide +kernel
theorem dX12_shooting_173 : decode cX12_shooting 173 = .ok (.iload_n 2, 1) := by decide +kernel
theorem dX12_shooting_174 : decode cX12_shooting 174 = .ok (.iload 6, 2) := by decide +kernel
theorem dX12_shooting_176 : decode cX12_shooting 176 = .ok (.iadd, 1) := by decide +kernel
theorem dX12_shooting_177 : decode cX12_shooting 177 = .ok (.iconst 1, 1) := by decide +kernel
theorem dX12_shooting_178 : decode cX12_shooting 178 = .ok (.iload 9, 2) := by decide +kernel
theorem dX12_shooting_180 : decode cX12_shooting 180 = .ok (.invokevirtual 359, 3) := by decide +kernel
theorem dX12_shooting_183 : decode cX12_shooting 183 = .ok (.ifCond .eq 12, 3) := by decide +kernel
theorem dX12_shooting_186 : decode cX12_shooting 186 = .ok (.iload 7, 2) := by decide +kernel
theorem dX12_shooting_188 : decode cX12_shooting 188 = .ok (.iconst 1, 1) := by decide +kernel
theorem dX12_shooting_189 : decode cX12_shooting 189 = .ok (.iload 8, 2) := by decide +kernel
theorem dX12_shooting_191 : decode cX12_shooting 191 = .ok (.ishl, 1) := by decide +kernel
theorem dX12_shooting_192 : decode cX12_shooting 192 = .ok (.ior, 1) := by decide +kernel
theorem dX12_shooting_193 : decode cX12_shooting 193 = .ok (.istore 7, 2) := by decide +kernel
theorem dX12_shooting_195 : decode cX12_shooting 195 = .ok (.iinc 8 1, 3) := by decide +kernel
theorem dX12_shooting_198 : decode cX12_shooting 198 = .ok (.goto (-178), 3) := by decide +kernel
theorem dX12_shooting_201 : decode cX12_shooting 201 = .ok (.iload 7, 2) := by decide +kernel
theorem dX12_shooting_203 : decode cX12_shooting 203 = .ok (.istore 5, 2) := by decide +kernel
theorem dX12_shooting_205 : decode cX12_shooting 205 = .ok (.iload 5, 2) := by decide +kernel
theorem dX12_shooting_207 : decode cX12_shooting 207 = .ok (.ifCond .ne 5, 3) := by decide +kernel
theorem dX12_shooting_210 : decode cX12_shooting 210 = .ok (.iconst 0, 1) := by decide +kernel
theorem dX12_shooting_211 : decode cX12_shooting 211 = .ok (.ireturn, 1) := by decide +kernel
theorem dX12_shooting_212 : decode cX12_shooting 212 = .ok (.iinc 6 1, 3) := by decide +kernel
theorem dX12_shooting_215 : decode cX12_shooting 215 = .ok (.goto (-207), 3) := by decide +kernel
theorem dX12_shooting_218 : decode cX12_shooting 218 = .ok (.iload 5, 2) := by decide +kernel
theorem dX12_shooting_220 : decode cX12_shooting 220 = .ok (.ireturn, 1) := by decide +kernel
theorem dX12_canShoot_0 : decode cX12_canShoot 0 = .ok (.aload_n 0, 1) := by decide +kernel
theorem dX12_canShoot_1 : decode cX12_canShoot 1 = .ok (.iload_n 1, 1) := by decide +kernel
theorem dX12_canShoot_2 : decode cX12_canShoot 2 = .ok (.invokevirtual 236, 3) := by decide +kernel
theorem dX12_canShoot_5 : decode cX12_canShoot 5 = .ok (.ifCond .eq 25, 3) := by decide +kernel
theorem dX12_canShoot_8 : decode cX12_canShoot 8 = .ok (.aload_n 0, 1) := by decide +kernel
theorem dX12_canShoot_9 : decode cX12_canShoot 9 = .ok (.getfield 29, 3) := by decide +kernel
theorem dX12_canShoot_12 : decode cX12_canShoot 12 = .ok (.iload_n 1, 1) := by decide +kernel
theorem dX12_canShoot_13 : decode cX12_canShoot 13 = .ok (.iaload, 1) := by decide +kernel
theorem dX12_canShoot_14 : decode cX12_canShoot 14 = .ok (.iconst 2, 1) := by decide +kernel
theorem dX12_canShoot_15 : decode cX12_canShoot 15 = .ok (.if_icmp .ge 15, 3) := by decide +kernel
theorem dX12_canShoot_18 : decode cX12_canShoot 18 = .ok (.aload_n 0, 1) := by decide +kernel
theorem dX12_canShoot_19 : decode cX12_canShoot 19 = .ok (.iload_n 2, 1) := by decide +kernel
theorem dX12_canShoot_20 : decode cX12_canShoot 20 = .ok (.invokevirtual 246, 3) := by decide +kernel
theorem dX12_canShoot_23 : decode cX12_canShoot 23 = .ok (.ifCond .eq 7, 3) := by decide +kernel
theorem dX12_canShoot_26 : decode cX12_canShoot 26 = .ok (.iconst 1, 1) := by decide +kernel
theorem dX12_canShoot_27 : decode cX12_canShoot 27 = .ok (.goto 4, 3) := by decide +kernel
theorem dX12_canShoot_30 : decode cX12_canShoot 30 = .ok (.iconst 0, 1) := by decide +kernel
theorem dX12_canShoot_31 : decode cX12_canShoot 31 = .ok (.ireturn, 1) := by decide +kernel
theorem dX12_shots_0 : decode cX12_shots 0 = .ok (.aload_n 0, 1) := by decide +kernel
theorem dX12_shots_1 : decode cX12_shots 1 = .ok (.iload_n 1, 1) := by decide +kernel
theorem dX12_shots_2 : decode cX12_shots 2 = .ok (.iload_n 2, 1) := by decide +kernel
theorem dX12_shots_3 : decode cX12_shots 3 = .ok (.invokevirtual 382, 3) := by decide +kernel
theorem dX12_shots_6 : decode cX12_shots 6 = .ok (.ifCond .eq 25, 3) := by decide +kernel
theorem dX12_shots_9 : decode cX12_shots 9 = .ok (.aload_n 0, 1) := by decide +kernel
theorem dX12_shots_10 : decode cX12_shots 10 = .ok (.iload_n 3, 1) := by decide +kernel
theorem dX12_shots_11 : decode cX12_shots 11 = .ok (.iconst 0, 1) := by decide +kernel
theorem dX12_shots_12 : decode cX12_shots 12 = .ok (.bipush 24, 2) := by decide +kernel
theorem dX12_shots_14 : decode cX12_shots 14 = .ok (.invokevirtual 218, 3) := by decide +kernel
theorem dX12_shots_17 : decode cX12_shots 17 = .ok (.ifCond .eq 14, 3) := by decide +kernel
theorem dX12_shots_20 : decode cX12_shots 20 = .ok (.aload_n 0, 1) := by decide +kernel
theorem dX12_shots_21 : decode cX12_shots 21 = .ok (.iload_n 1, 1) := by decide +kernel
theorem dX12_shots_22 : decode cX12_shots 22 = .ok (.iload_n 2, 1) := by decide +kernel
theorem dX12_shots_23 : decode cX12_shots 23 = .ok (.iload_n 3, 1) := by decide +kernel
theorem dX12_shots_24 : decode cX12_shots 24 = .ok (.iconst 0, 1) := by decide +kernel
theorem dX12_shots_25 : decode cX12_shots 25 = .ok (.invokevirtual 385, 3) := by decide +kernel
theorem dX12_shots_28 : decode cX12_shots 28 = .ok (.goto 5, 3) := by decide +kernel
theorem dX12_shots_31 : decode cX12_shots 31 = .ok (.bipush (-2), 2) := by decide +kernel
theorem dX12_shots_33 : decode cX12_shots 33 = .ok (.ireturn, 1) := by decide +kernel
theorem dX12_ones_0 : decode cX12_ones 0 = .ok (.iconst 0, 1) := by decide +kernel
theorem dX12_ones_1 : decode cX12_ones 1 = .ok (.istore_n 2, 1) := by decide +kernel
theorem dX12_ones_2 : decode cX12_ones 2 = .ok (.iload_n 1, 1) := by decide +kernel
theorem dX12_ones_3 : decode cX12_ones 3 = .ok (.istore_n 3, 1) := by decide +kernel
theorem dX12_ones_4 : decode cX12_ones 4 = .ok (.iload_n 3, 1) := by decide +kernel
theorem dX12_ones_5 : decode cX12_ones 5 = .ok (.ifCond .eq 15, 3) := by decide +kernel
theorem dX12_ones_8 : decode cX12_ones 8 = .ok (.iinc 2 1, 3) := by decide +kernel
theorem dX12_ones_11 : decode cX12_ones 11 = .ok (.iload_n 3, 1) := by decide +kernel
theorem dX12_ones_12 : decode cX12_ones 12 = .ok (.iload_n 3, 1) := by decide +kernel
theorem dX12_ones_13 : decode cX12_ones 13 = .ok (.iconst 1, 1) := by decide +kernel
theorem dX12_ones_14 : decode cX12_ones 14 = .ok (.isub, 1) := by decide +kernel
theorem dX12_ones_15 : decode cX12_ones 15 = .ok (.iand, 1) := by decide +kernel
theorem dX12_ones_16 : decode cX12_ones 16 = .ok (.istore_n 3, 1) := by decide +kernel
theorem dX12_ones_17 : decode cX12_ones 17 = .ok (.goto (-13), 3) := by decide +kernel
theorem dX12_ones_20 : decode cX12_ones 20 = .ok (.iload_n 2, 1) := by decide +kernel
theorem dX12_ones_21 : decode cX12_ones 21 = .ok (.ireturn, 1) := by decide +kernel
theorem dX12_calm_0 : decode cX12_calm 0 = .ok (.aload_n 0, 1) := by decide +kernel
theorem dX12_calm_1 : decode cX12_calm 1 = .ok (.iload_n 1, 1) := by decide +kernel
theorem dX12_calm_2 : decode cX12_calm 2 = .ok (.iload_n 2, 1) := by decide +kernel
theorem dX12_calm_3 : decode cX12_calm 3 = .ok (.invokevirtual 382, 3) := by decide +kernel
theorem dX12_calm_6 : decode cX12_calm 6 = .ok (.ifCond .eq 42, 3) := by decide +kernel
theorem dX12_calm_9 : decode cX12_calm 9 = .ok (.aload_n 0, 1) := by decide +kernel
theorem dX12_calm_10 : decode cX12_calm 10 = .ok (.iload_n 3, 1) := by decide +kernel
theorem dX12_calm_11 : decode cX12_calm 11 = .ok (.iconst 0, 1) := by decide +kernel
theorem dX12_calm_12 : decode cX12_calm 12 = .ok (.iconst 1, 1) := by decide +kernel
theorem dX12_calm_13 : decode cX12_calm 13 = .ok (.aload_n 0, 1) := by decide +kernel
theorem dX12_calm_14 : decode cX12_calm 14 = .ok (.getfield 23, 3) := by decide +kernel
theorem dX12_calm_17 : decode cX12_calm 17 = .ok (.ishl, 1) := by decide +kernel
theorem dX12_calm_18 : decode cX12_calm 18 = .ok (.iconst 1, 1) := by decide +kernel
theorem dX12_calm_19 : decode cX12_calm 19 = .ok (.isub, 1) := by decide +kernel
theorem dX12_calm_20 : decode cX12_calm 20 = .ok (.invokevirtual 218, 3) := by decide +kernel
theorem dX12_calm_23 : decode cX12_calm 23 = .ok (.ifCond .eq 25, 3) := by decide +kernel
theorem dX12_calm_26 : decode cX12_calm 26 = .ok (.aload_n 0, 1) := by decide +kernel
theorem dX12_calm_27 : decode cX12_calm 27 = .ok (.iload_n 3, 1) := by decide +kernel
theorem dX12_calm_28 : decode cX12_calm 28 = .ok (.invokevirtual 388, 3) := by decide +kernel
theorem dX12_calm_31 : decode cX12_calm 31 = .ok (.bipush 6, 2) := by decide +kernel
theorem dX12_calm_33 : decode cX12_calm 33 = .ok (.if_icmp .gt 15, 3) := by decide +kernel
theorem dX12_calm_36 : decode cX12_calm 36 = .ok (.aload_n 0, 1) := by decide +kernel
theorem dX12_calm_37 : decode cX12_calm 37 = .ok (.iload 4, 2) := by decide +kernel
theorem dX12_calm_39 : decode cX12_calm 39 = .ok (.iconst 1, 1) := by decide +kernel
theorem dX12_calm_40 : decode cX12_calm 40 = .ok (.bipush 24, 2) := by decide +kernel
theorem dX12_calm_42 : decode cX12_calm 42 = .ok (.invokevirtual 218, 3) := by decide +kernel
theorem dX12_calm_45 : decode cX12_calm 45 = .ok (.ifCond .ne 6, 3) := by decide +kernel
theorem dX12_calm_48 : decode cX12_calm 48 = .ok (.bipush (-2), 2) := by decide +kernel
theorem dX12_calm_50 : decode cX12_calm 50 = .ok (.ireturn, 1) := by decide +kernel
theorem dX12_calm_51 : decode cX12_calm 51 = .ok (.iconst (-1), 1) := by decide +kernel
theorem dX12_calm_52 : decode cX12_calm 52 = .ok (.istore 5, 2) := by decide +kernel
theorem dX12_calm_54 : decode cX12_calm 54 = .ok (.iconst 0, 1) := by decide +kernel
theorem dX12_calm_55 : decode cX12_calm 55 = .ok (.istore 6, 2) := by decide +kernel
theorem dX12_calm_57 : decode cX12_calm 57 = .ok (.iload 6, 2) := by decide +kernel
theorem dX12_calm_59 : decode cX12_calm 59 = .ok (.iload_n 3, 1) := by decide +kernel
theorem dX12_calm_60 : decode cX12_calm 60 = .ok (.if_icmp .gt 58, 3) := by decide +kernel
theorem dX12_calm_63 : decode cX12_calm 63 = .ok (.iload 6, 2) := by decide +kernel
theorem dX12_calm_65 : decode cX12_calm 65 = .ok (.iload_n 3, 1) := by decide +kernel
theorem dX12_calm_66 : decode cX12_calm 66 = .ok (.iconst (-1), 1) := by decide +kernel
theorem dX12_calm_67 : decode cX12_calm 67 = .ok (.ixor, 1) := by decide +kernel
theorem dX12_calm_68 : decode cX12_calm 68 = .ok (.iand, 1) := by decide +kernel
theorem dX12_calm_69 : decode cX12_calm 69 = .ok (.ifCond .ne 43, 3) := by decide +kernel
theorem dX12_calm_72 : decode cX12_calm 72 = .ok (.iload 5, 2) := by decide +kernel
theorem dX12_calm_74 : decode cX12_calm 74 = .ok (.ifCond .lt 21, 3) := by decide +kernel
theorem dX12_calm_77 : decode cX12_calm 77 = .ok (.aload_n 0, 1) := by decide +kernel
theorem dX12_calm_78 : decode cX12_calm 78 = .ok (.iload 6, 2) := by decide +kernel
theorem dX12_calm_80 : decode cX12_calm 80 = .ok (.invokevirtual 388, 3) := by decide +kernel
theorem dX12_calm_83 : decode cX12_calm 83 = .ok (.aload_n 0, 1) := by decide +kernel
theorem dX12_calm_84 : decode cX12_calm 84 = .ok (.iload 5, 2) := by decide +kernel
theorem dX12_calm_86 : decode cX12_calm 86 = .ok (.invokevirtual 388, 3) := by decide +kernel
theorem dX12_calm_89 : decode cX12_calm 89 = .ok (.if_icmp .lt 6, 3) := by decide +kernel
theorem dX12_calm_92 : decode cX12_calm 92 = .ok (.goto 20, 3) := by decide +kernel
theorem dX12_calm_95 : decode cX12_calm 95 = .ok (.aload_n 0, 1) := by decide +kernel
theorem dX12_calm_96 : decode cX12_calm 96 = .ok (.iload_n 1, 1) := by decide +kernel
theorem dX12_calm_97 : decode cX12_calm 97 = .ok (.iload_n 2, 1) := by decide +kernel
theorem dX12_calm_98 : decode cX12_calm 98 = .ok (.iload 4, 2) := by decide +kernel
theorem dX12_calm_100 : decode cX12_calm 100 = .ok (.iload 6, 2) := by decide +kernel
theorem dX12_calm_102 : decode cX12_calm 102 = .ok (.invokevirtual 385, 3) := by decide +kernel
theorem dX12_calm_105 : decode cX12_calm 105 = .ok (.ifCond .ne 7, 3) := by decide +kernel
theorem dX12_calm_108 : decode cX12_calm 108 = .ok (.iload 6, 2) := by decide +kernel
theorem dX12_calm_110 : decode cX12_calm 110 = .ok (.istore 5, 2) := by decide +kernel
theorem dX12_calm_112 : decode cX12_calm 112 = .ok (.iinc 6 1, 3) := by decide +kernel
theorem dX12_calm_115 : decode cX12_calm 115 = .ok (.goto (-58), 3) := by decide +kernel
theorem dX12_calm_118 : decode cX12_calm 118 = .ok (.iload 5, 2) := by decide +kernel
theorem dX12_calm_120 : decode cX12_calm 120 = .ok (.ireturn, 1) := by decide +kernel
theorem dX12_list_0 : decode cX12_list 0 = .ok (.aload_n 0, 1) := by decide +kernel
theorem dX12_list_1 : decode cX12_list 1 = .ok (.iload_n 1, 1) := by decide +kernel
theorem dX12_list_2 : decode cX12_list 2 = .ok (.invokevirtual 222, 3) := by decide +kernel
theorem dX12_list_5 : decode cX12_list 5 = .ok (.ifCond .ne 6, 3) := by decide +kernel
theorem dX12_list_8 : decode cX12_list 8 = .ok (.bipush (-2), 2) := by decide +kernel
theorem dX12_list_10 : decode cX12_list 10 = .ok (.ireturn, 1) := by decide +kernel
theorem dX12_list_11 : decode cX12_list 11 = .ok (.aload_n 0, 1) := by decide +kernel
theorem dX12_list_12 : decode cX12_list 12 = .ok (.getfield 166, 3) := by decide +kernel
theorem dX12_list_15 : decode cX12_list 15 = .ok (.bipush 10, 2) := by decide +kernel
theorem dX12_list_17 : decode cX12_list 17 = .ok (.if_icmp .ne 6, 3) := by decide +kernel
theorem dX12_list_20 : decode cX12_list 20 = .ok (.bipush (-4), 2) := by decide +kernel
theorem dX12_list_22 : decode cX12_list 22 = .ok (.ireturn, 1) := by decide +kernel
theorem dX12_list_23 : decode cX12_list 23 = .ok (.aload_n 0, 1) := by decide +kernel
theorem dX12_list_24 : decode cX12_list 24 = .ok (.getfield 169, 3) := by decide +kernel
theorem dX12_list_27 : decode cX12_list 27 = .ok (.aload_n 0, 1) := by decide +kernel
theorem dX12_list_28 : decode cX12_list 28 = .ok (.getfield 166, 3) := by decide +kernel
theorem dX12_list_31 : decode cX12_list 31 = .ok (.iload_n 1, 1) := by decide +kernel
theorem dX12_list_32 : decode cX12_list 32 = .ok (.iastore, 1) := by decide +kernel
theorem dX12_list_33 : decode cX12_list 33 = .ok (.aload_n 0, 1) := by decide +kernel
theorem dX12_list_34 : decode cX12_list 34 = .ok (.dup, 1) := by decide +kernel
theorem dX12_list_35 : decode cX12_list 35 = .ok (.getfield 166, 3) := by decide +kernel
theorem dX12_list_38 : decode cX12_list 38 = .ok (.iconst 1, 1) := by decide +kernel
theorem dX12_list_39 : decode cX12_list 39 = .ok (.iadd, 1) := by decide +kernel
theorem dX12_list_40 : decode cX12_list 40 = .ok (.putfield 166, 3) := by decide +kernel
theorem dX12_list_43 : decode cX12_list 43 = .ok (.aload_n 0, 1) := by decide +kernel
theorem dX12_list_44 : decode cX12_list 44 = .ok (.getfield 166, 3) := by decide +kernel
theorem dX12_list_47 : decode cX12_list 47 = .ok (.ireturn, 1) := by decide +kernel
theorem dX12_bitsOf_0 : decode cX12_bitsOf 0 = .ok (.iconst 0, 1) := by decide +kernel
theorem dX12_bitsOf_1 : decode cX12_bitsOf 1 = .ok (.istore_n 3, 1) := by decide +kernel
theorem dX12_bitsOf_2 : decode cX12_bitsOf 2 = .ok (.lload_n 1, 1) := by decide +kernel
theorem dX12_bitsOf_3 : decode cX12_bitsOf 3 = .ok (.lstore 4, 2) := by decide +kernel
theorem dX12_bitsOf_5 : decode cX12_bitsOf 5 = .ok (.lload 4, 2) := by decide +kernel
theorem dX12_bitsOf_7 : decode cX12_bitsOf 7 = .ok (.lconst 0, 1) := by decide +kernel
theorem dX12_bitsOf_8 : decode cX12_bitsOf 8 = .ok (.lcmp, 1) := by decide +kernel
theorem dX12_bitsOf_9 : decode cX12_bitsOf 9 = .ok (.ifCond .eq 18, 3) := by decide +kernel
theorem dX12_bitsOf_12 : decode cX12_bitsOf 12 = .ok (.iinc 3 1, 3) := by decide +kernel
theorem dX12_bitsOf_15 : decode cX12_bitsOf 15 = .ok (.lload 4, 2) := by decide +kernel
theorem dX12_bitsOf_17 : decode cX12_bitsOf 17 = .ok (.lload 4, 2) := by decide +kernel
theorem dX12_bitsOf_19 : decode cX12_bitsOf 19 = .ok (.lconst 1, 1) := by decide +kernel
theorem dX12_bitsOf_20 : decode cX12_bitsOf 20 = .ok (.lsub, 1) := by decide +kernel
theorem dX12_bitsOf_21 : decode cX12_bitsOf 21 = .ok (.land, 1) := by decide +kernel
theorem dX12_bitsOf_22 : decode cX12_bitsOf 22 = .ok (.lstore 4, 2) := by decide +kernel
theorem dX12_bitsOf_24 : decode cX12_bitsOf 24 = .ok (.goto (-19), 3) := by decide +kernel
theorem dX12_bitsOf_27 : decode cX12_bitsOf 27 = .ok (.iload_n 3, 1) := by decide +kernel
theorem dX12_bitsOf_28 : decode cX12_bitsOf 28 = .ok (.ireturn, 1) := by decide +kernel
theorem dX12_coveredBy_0 : decode cX12_coveredBy 0 = .ok (.lconst 0, 1) := by decide +kernel
theorem dX12_coveredBy_1 : decode cX12_coveredBy 1 = .ok (.lstore_n 2, 1) := by decide +kernel
theorem dX12_coveredBy_2 : decode cX12_coveredBy 2 = .ok (.iconst 0, 1) := by decide +kernel
theorem dX12_coveredBy_3 : decode cX12_coveredBy 3 = .ok (.istore 4, 2) := by decide +kernel
theorem dX12_coveredBy_5 : decode cX12_coveredBy 5 = .ok (.iload 4, 2) := by decide +kernel
theorem dX12_coveredBy_7 : decode cX12_coveredBy 7 = .ok (.aload_n 0, 1) := by decide +kernel
theorem dX12_coveredBy_8 : decode cX12_coveredBy 8 = .ok (.getfield 166, 3) := by decide +kernel
theorem dX12_coveredBy_11 : decode cX12_coveredBy 11 = .ok (.if_icmp .ge 33, 3) := by decide +kernel
theorem dX12_coveredBy_14 : decode cX12_coveredBy 14 = .ok (.lload_n 2, 1) := by decide +kernel
theorem dX12_coveredBy_15 : decode cX12_coveredBy 15 = .ok (.iload_n 1, 1) := by decide +kernel
theorem dX12_coveredBy_16 : decode cX12_coveredBy 16 = .ok (.iload 4, 2) := by decide +kernel
theorem dX12_coveredBy_18 : decode cX12_coveredBy 18 = .ok (.ishr, 1) := by decide +kernel
theorem dX12_coveredBy_19 : decode cX12_coveredBy 19 = .ok (.iconst 1, 1) := by decide +kernel
theorem dX12_coveredBy_20 : decode cX12_coveredBy 20 = .ok (.iand, 1) := by decide +kernel
theorem dX12_coveredBy_21 : decode cX12_coveredBy 21 = .ok (.iconst 1, 1) := by decide +kernel
theorem dX12_coveredBy_22 : decode cX12_coveredBy 22 = .ok (.if_icmp .ne 13, 3) := by decide +kernel
theorem dX12_coveredBy_25 : decode cX12_coveredBy 25 = .ok (.aload_n 0, 1) := by decide +kernel
theorem dX12_coveredBy_26 : decode cX12_coveredBy 26 = .ok (.getfield 172, 3) := by decide +kernel
theorem dX12_coveredBy_29 : decode cX12_coveredBy 29 = .ok (.iload 4, 2) := by decide +kernel
theorem dX12_coveredBy_31 : decode cX12_coveredBy 31 = .ok (.laload, 1) := by decide +kernel
theorem dX12_coveredBy_32 : decode cX12_coveredBy 32 = .ok (.goto 4, 3) := by decide +kernel
theorem dX12_coveredBy_35 : decode cX12_coveredBy 35 = .ok (.lconst 0, 1) := by decide +kernel
