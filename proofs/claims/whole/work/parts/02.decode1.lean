theorem dX0_init_0 : decode cX0_init 0 = .ok (.aload_n 0, 1) := by decide +kernel
theorem dX0_init_1 : decode cX0_init 1 = .ok (.invokespecial 3, 3) := by decide +kernel
theorem dX0_init_4 : decode cX0_init 4 = .ok (.aload_n 0, 1) := by decide +kernel
theorem dX0_init_5 : decode cX0_init 5 = .ok (.bipush 12, 2) := by decide +kernel
theorem dX0_init_7 : decode cX0_init 7 = .ok (.newarray .int, 2) := by decide +kernel
theorem dX0_init_9 : decode cX0_init 9 = .ok (.putfield 11, 3) := by decide +kernel
theorem dX0_init_12 : decode cX0_init 12 = .ok (.aload_n 0, 1) := by decide +kernel
theorem dX0_init_13 : decode cX0_init 13 = .ok (.bipush 12, 2) := by decide +kernel
theorem dX0_init_15 : decode cX0_init 15 = .ok (.newarray .int, 2) := by decide +kernel
theorem dX0_init_17 : decode cX0_init 17 = .ok (.putfield 15, 3) := by decide +kernel
theorem dX0_init_20 : decode cX0_init 20 = .ok (.aload_n 0, 1) := by decide +kernel
theorem dX0_init_21 : decode cX0_init 21 = .ok (.bipush 12, 2) := by decide +kernel
theorem dX0_init_23 : decode cX0_init 23 = .ok (.newarray .int, 2) := by decide +kernel
theorem dX0_init_25 : decode cX0_init 25 = .ok (.putfield 18, 3) := by decide +kernel
theorem dX0_init_28 : decode cX0_init 28 = .ok (.aload_n 0, 1) := by decide +kernel
theorem dX0_init_29 : decode cX0_init 29 = .ok (.bipush 24, 2) := by decide +kernel
theorem dX0_init_31 : decode cX0_init 31 = .ok (.newarray .int, 2) := by decide +kernel
theorem dX0_init_33 : decode cX0_init 33 = .ok (.putfield 21, 3) := by decide +kernel
theorem dX0_init_36 : decode cX0_init 36 = .ok (.aload_n 0, 1) := by decide +kernel
theorem dX0_init_37 : decode cX0_init 37 = .ok (.bipush 24, 2) := by decide +kernel
theorem dX0_init_39 : decode cX0_init 39 = .ok (.newarray .int, 2) := by decide +kernel
theorem dX0_init_41 : decode cX0_init 41 = .ok (.putfield 24, 3) := by decide +kernel
theorem dX0_init_44 : decode cX0_init 44 = .ok (.aload_n 0, 1) := by decide +kernel
theorem dX0_init_45 : decode cX0_init 45 = .ok (.bipush 24, 2) := by decide +kernel
theorem dX0_init_47 : decode cX0_init 47 = .ok (.newarray .int, 2) := by decide +kernel
theorem dX0_init_49 : decode cX0_init 49 = .ok (.putfield 27, 3) := by decide +kernel
theorem dX0_init_52 : decode cX0_init 52 = .ok (.aload_n 0, 1) := by decide +kernel
theorem dX0_init_53 : decode cX0_init 53 = .ok (.bipush 24, 2) := by decide +kernel
theorem dX0_init_55 : decode cX0_init 55 = .ok (.newarray .boolean, 2) := by decide +kernel
theorem dX0_init_57 : decode cX0_init 57 = .ok (.putfield 30, 3) := by decide +kernel
theorem dX0_init_60 : decode cX0_init 60 = .ok (.aload_n 0, 1) := by decide +kernel
theorem dX0_init_61 : decode cX0_init 61 = .ok (.bipush 10, 2) := by decide +kernel
theorem dX0_init_63 : decode cX0_init 63 = .ok (.newarray .int, 2) := by decide +kernel
theorem dX0_init_65 : decode cX0_init 65 = .ok (.putfield 34, 3) := by decide +kernel
theorem dX0_init_68 : decode cX0_init 68 = .ok (.aload_n 0, 1) := by decide +kernel
theorem dX0_init_69 : decode cX0_init 69 = .ok (.bipush 10, 2) := by decide +kernel
theorem dX0_init_71 : decode cX0_init 71 = .ok (.newarray .int, 2) := by decide +kernel
theorem dX0_init_73 : decode cX0_init 73 = .ok (.putfield 37, 3) := by decide +kernel
theorem dX0_init_76 : decode cX0_init 76 = .ok (.aload_n 0, 1) := by decide +kernel
theorem dX0_init_77 : decode cX0_init 77 = .ok (.bipush 10, 2) := by decide +kernel
theorem dX0_init_79 : decode cX0_init 79 = .ok (.newarray .int, 2) := by decide +kernel
theorem dX0_init_81 : decode cX0_init 81 = .ok (.putfield 40, 3) := by decide +kernel
theorem dX0_init_84 : decode cX0_init 84 = .ok (.aload_n 0, 1) := by decide +kernel
theorem dX0_init_85 : decode cX0_init 85 = .ok (.aload_n 1, 1) := by decide +kernel
theorem dX0_init_86 : decode cX0_init 86 = .ok (.putfield 43, 3) := by decide +kernel
theorem dX0_init_89 : decode cX0_init 89 = .ok (.return_, 1) := by decide +kernel
theorem dX0_addDoing_0 : decode cX0_addDoing 0 = .ok (.aload_n 0, 1) := by decide +kernel
theorem dX0_addDoing_1 : decode cX0_addDoing 1 = .ok (.getfield 47, 3) := by decide +kernel
theorem dX0_addDoing_4 : decode cX0_addDoing 4 = .ok (.bipush 12, 2) := by decide +kernel
theorem dX0_addDoing_6 : decode cX0_addDoing 6 = .ok (.if_icmp .lt 6, 3) := by decide +kernel
theorem dX0_addDoing_9 : decode cX0_addDoing 9 = .ok (.bipush (-4), 2) := by decide +kernel
theorem dX0_addDoing_11 : decode cX0_addDoing 11 = .ok (.ireturn, 1) := by decide +kernel
theorem dX0_addDoing_12 : decode cX0_addDoing 12 = .ok (.aload_n 0, 1) := by decide +kernel
theorem dX0_addDoing_13 : decode cX0_addDoing 13 = .ok (.getfield 11, 3) := by decide +kernel
theorem dX0_addDoing_16 : decode cX0_addDoing 16 = .ok (.aload_n 0, 1) := by decide +kernel
theorem dX0_addDoing_17 : decode cX0_addDoing 17 = .ok (.getfield 47, 3) := by decide +kernel
theorem dX0_addDoing_20 : decode cX0_addDoing 20 = .ok (.iload_n 1, 1) := by decide +kernel
theorem dX0_addDoing_21 : decode cX0_addDoing 21 = .ok (.iastore, 1) := by decide +kernel
theorem dX0_addDoing_22 : decode cX0_addDoing 22 = .ok (.aload_n 0, 1) := by decide +kernel
theorem dX0_addDoing_23 : decode cX0_addDoing 23 = .ok (.getfield 15, 3) := by decide +kernel
theorem dX0_addDoing_26 : decode cX0_addDoing 26 = .ok (.aload_n 0, 1) := by decide +kernel
theorem dX0_addDoing_27 : decode cX0_addDoing 27 = .ok (.getfield 47, 3) := by decide +kernel
theorem dX0_addDoing_30 : decode cX0_addDoing 30 = .ok (.iload_n 2, 1) := by decide +kernel
theorem dX0_addDoing_31 : decode cX0_addDoing 31 = .ok (.iastore, 1) := by decide +kernel
theorem dX0_addDoing_32 : decode cX0_addDoing 32 = .ok (.aload_n 0, 1) := by decide +kernel
theorem dX0_addDoing_33 : decode cX0_addDoing 33 = .ok (.getfield 18, 3) := by decide +kernel
theorem dX0_addDoing_36 : decode cX0_addDoing 36 = .ok (.aload_n 0, 1) := by decide +kernel
theorem dX0_addDoing_37 : decode cX0_addDoing 37 = .ok (.getfield 47, 3) := by decide +kernel
theorem dX0_addDoing_40 : decode cX0_addDoing 40 = .ok (.iload_n 3, 1) := by decide +kernel
theorem dX0_addDoing_41 : decode cX0_addDoing 41 = .ok (.iastore, 1) := by decide +kernel
theorem dX0_addDoing_42 : decode cX0_addDoing 42 = .ok (.aload_n 0, 1) := by decide +kernel
theorem dX0_addDoing_43 : decode cX0_addDoing 43 = .ok (.dup, 1) := by decide +kernel
theorem dX0_addDoing_44 : decode cX0_addDoing 44 = .ok (.getfield 47, 3) := by decide +kernel
theorem dX0_addDoing_47 : decode cX0_addDoing 47 = .ok (.dup_x1, 1) := by decide +kernel
theorem dX0_addDoing_48 : decode cX0_addDoing 48 = .ok (.iconst 1, 1) := by decide +kernel
theorem dX0_addDoing_49 : decode cX0_addDoing 49 = .ok (.iadd, 1) := by decide +kernel
theorem dX0_addDoing_50 : decode cX0_addDoing 50 = .ok (.putfield 47, 3) := by decide +kernel
theorem dX0_addDoing_53 : decode cX0_addDoing 53 = .ok (.ireturn, 1) := by decide +kernel
theorem dX0_addReport_0 : decode cX0_addReport 0 = .ok (.aload_n 0, 1) := by decide +kernel
theorem dX0_addReport_1 : decode cX0_addReport 1 = .ok (.getfield 51, 3) := by decide +kernel
theorem dX0_addReport_4 : decode cX0_addReport 4 = .ok (.bipush 24, 2) := by decide +kernel
theorem dX0_addReport_6 : decode cX0_addReport 6 = .ok (.if_icmp .lt 6, 3) := by decide +kernel
theorem dX0_addReport_9 : decode cX0_addReport 9 = .ok (.bipush (-4), 2) := by decide +kernel
theorem dX0_addReport_11 : decode cX0_addReport 11 = .ok (.ireturn, 1) := by decide +kernel
theorem dX0_addReport_12 : decode cX0_addReport 12 = .ok (.aload_n 0, 1) := by decide +kernel
theorem dX0_addReport_13 : decode cX0_addReport 13 = .ok (.getfield 21, 3) := by decide +kernel
theorem dX0_addReport_16 : decode cX0_addReport 16 = .ok (.aload_n 0, 1) := by decide +kernel
theorem dX0_addReport_17 : decode cX0_addReport 17 = .ok (.getfield 51, 3) := by decide +kernel
theorem dX0_addReport_20 : decode cX0_addReport 20 = .ok (.iload_n 1, 1) := by decide +kernel
theorem dX0_addReport_21 : decode cX0_addReport 21 = .ok (.iastore, 1) := by decide +kernel
theorem dX0_addReport_22 : decode cX0_addReport 22 = .ok (.aload_n 0, 1) := by decide +kernel
theorem dX0_addReport_23 : decode cX0_addReport 23 = .ok (.getfield 24, 3) := by decide +kernel
theorem dX0_addReport_26 : decode cX0_addReport 26 = .ok (.aload_n 0, 1) := by decide +kernel
theorem dX0_addReport_27 : decode cX0_addReport 27 = .ok (.getfield 51, 3) := by decide +kernel
theorem dX0_addReport_30 : decode cX0_addReport 30 = .ok (.iload_n 2, 1) := by decide +kernel
theorem dX0_addReport_31 : decode cX0_addReport 31 = .ok (.iastore, 1) := by decide +kernel
theorem dX0_addReport_32 : decode cX0_addReport 32 = .ok (.aload_n 0, 1) := by decide +kernel
theorem dX0_addReport_33 : decode cX0_addReport 33 = .ok (.getfield 27, 3) := by decide +kernel
theorem dX0_addReport_36 : decode cX0_addReport 36 = .ok (.aload_n 0, 1) := by decide +kernel
theorem dX0_addReport_37 : decode cX0_addReport 37 = .ok (.getfield 51, 3) := by decide +kernel
theorem dX0_addReport_40 : decode cX0_addReport 40 = .ok (.iload_n 3, 1) := by decide +kernel
theorem dX0_addReport_41 : decode cX0_addReport 41 = .ok (.iastore, 1) := by decide +kernel
theorem dX0_addReport_42 : decode cX0_addReport 42 = .ok (.aload_n 0, 1) := by decide +kernel
theorem dX0_addReport_43 : decode cX0_addReport 43 = .ok (.getfield 30, 3) := by decide +kernel
theorem dX0_addReport_46 : decode cX0_addReport 46 = .ok (.aload_n 0, 1) := by decide +kernel
theorem dX0_addReport_47 : decode cX0_addReport 47 = .ok (.getfield 51, 3) := by decide +kernel
theorem dX0_addReport_50 : decode cX0_addReport 50 = .ok (.iload 4, 2) := by decide +kernel
theorem dX0_addReport_52 : decode cX0_addReport 52 = .ok (.bastore, 1) := by decide +kernel
theorem dX0_addReport_53 : decode cX0_addReport 53 = .ok (.aload_n 0, 1) := by decide +kernel
theorem dX0_addReport_54 : decode cX0_addReport 54 = .ok (.dup, 1) := by decide +kernel
theorem dX0_addReport_55 : decode cX0_addReport 55 = .ok (.getfield 51, 3) := by decide +kernel
theorem dX0_addReport_58 : decode cX0_addReport 58 = .ok (.dup_x1, 1) := by decide +kernel
theorem dX0_addReport_59 : decode cX0_addReport 59 = .ok (.iconst 1, 1) := by decide +kernel
theorem dX0_addReport_60 : decode cX0_addReport 60 = .ok (.iadd, 1) := by decide +kernel
theorem dX0_addReport_61 : decode cX0_addReport 61 = .ok (.putfield 51, 3) := by decide +kernel
theorem dX0_addReport_64 : decode cX0_addReport 64 = .ok (.ireturn, 1) := by decide +kernel
theorem dX0_addFinding_0 : decode cX0_addFinding 0 = .ok (.aload_n 0, 1) := by decide +kernel
theorem dX0_addFinding_1 : decode cX0_addFinding 1 = .ok (.getfield 54, 3) := by decide +kernel
theorem dX0_addFinding_4 : decode cX0_addFinding 4 = .ok (.bipush 10, 2) := by decide +kernel
theorem dX0_addFinding_6 : decode cX0_addFinding 6 = .ok (.if_icmp .lt 6, 3) := by decide +kernel
theorem dX0_addFinding_9 : decode cX0_addFinding 9 = .ok (.bipush (-4), 2) := by decide +kernel
theorem dX0_addFinding_11 : decode cX0_addFinding 11 = .ok (.ireturn, 1) := by decide +kernel
theorem dX0_addFinding_12 : decode cX0_addFinding 12 = .ok (.aload_n 0, 1) := by decide +kernel
theorem dX0_addFinding_13 : decode cX0_addFinding 13 = .ok (.getfield 34, 3) := by decide +kernel
theorem dX0_addFinding_16 : decode cX0_addFinding 16 = .ok (.aload_n 0, 1) := by decide +kernel
theorem dX0_addFinding_17 : decode cX0_addFinding 17 = .ok (.getfield 54, 3) := by decide +kernel
theorem dX0_addFinding_20 : decode cX0_addFinding 20 = .ok (.iload_n 1, 1) := by decide +kernel
theorem dX0_addFinding_21 : decode cX0_addFinding 21 = .ok (.iastore, 1) := by decide +kernel
theorem dX0_addFinding_22 : decode cX0_addFinding 22 = .ok (.aload_n 0, 1) := by decide +kernel
theorem dX0_addFinding_23 : decode cX0_addFinding 23 = .ok (.getfield 37, 3) := by decide +kernel
theorem dX0_addFinding_26 : decode cX0_addFinding 26 = .ok (.aload_n 0, 1) := by decide +kernel
theorem dX0_addFinding_27 : decode cX0_addFinding 27 = .ok (.getfield 54, 3) := by decide +kernel
theorem dX0_addFinding_30 : decode cX0_addFinding 30 = .ok (.iload_n 2, 1) := by decide +kernel
theorem dX0_addFinding_31 : decode cX0_addFinding 31 = .ok (.iastore, 1) := by decide +kernel
theorem dX0_addFinding_32 : decode cX0_addFinding 32 = .ok (.aload_n 0, 1) := by decide +kernel
theorem dX0_addFinding_33 : decode cX0_addFinding 33 = .ok (.getfield 40, 3) := by decide +kernel
theorem dX0_addFinding_36 : decode cX0_addFinding 36 = .ok (.aload_n 0, 1) := by decide +kernel
theorem dX0_addFinding_37 : decode cX0_addFinding 37 = .ok (.getfield 54, 3) := by decide +kernel
theorem dX0_addFinding_40 : decode cX0_addFinding 40 = .ok (.iload_n 3, 1) := by decide +kernel
theorem dX0_addFinding_41 : decode cX0_addFinding 41 = .ok (.iastore, 1) := by decide +kernel
theorem dX0_addFinding_42 : decode cX0_addFinding 42 = .ok (.aload_n 0, 1) := by decide +kernel
theorem dX0_addFinding_43 : decode cX0_addFinding 43 = .ok (.dup, 1) := by decide +kernel
theorem dX0_addFinding_44 : decode cX0_addFinding 44 = .ok (.getfield 54, 3) := by decide +kernel
theorem dX0_addFinding_47 : decode cX0_addFinding 47 = .ok (.dup_x1, 1) := by decide +kernel
theorem dX0_addFinding_48 : decode cX0_addFinding 48 = .ok (.iconst 1, 1) := by decide +kernel
theorem dX0_addFinding_49 : decode cX0_addFinding 49 = .ok (.iadd, 1) := by decide +kernel
theorem dX0_addFinding_50 : decode cX0_addFinding 50 = .ok (.putfield 54, 3) := by decide +kernel
theorem dX0_addFinding_53 : decode cX0_addFinding 53 = .ok (.ireturn, 1) := by decide +kernel
theorem dX0_takeReportBack_0 : decode cX0_takeReportBack 0 = .ok (.aload_n 0, 1) := by decide +kernel
theorem dX0_takeReportBack_1 : decode cX0_takeReportBack 1 = .ok (.getfield 57, 3) := by decide +kernel
theorem dX0_takeReportBack_4 : decode cX0_takeReportBack 4 = .ok (.iload_n 1, 1) := by decide +kernel
theorem dX0_takeReportBack_5 : decode cX0_takeReportBack 5 = .ok (.invokestatic 60, 3) := by decide +kernel
theorem dX0_takeReportBack_8 : decode cX0_takeReportBack 8 = .ok (.ifCond .eq 6, 3) := by decide +kernel
theorem dX0_takeReportBack_11 : decode cX0_takeReportBack 11 = .ok (.bipush (-3), 2) := by decide +kernel
theorem dX0_takeReportBack_13 : decode cX0_takeReportBack 13 = .ok (.ireturn, 1) := by decide +kernel
theorem dX0_takeReportBack_14 : decode cX0_takeReportBack 14 = .ok (.aload_n 0, 1) := by decide +kernel
theorem dX0_takeReportBack_15 : decode cX0_takeReportBack 15 = .ok (.dup, 1) := by decide +kernel
theorem dX0_takeReportBack_16 : decode cX0_takeReportBack 16 = .ok (.getfield 57, 3) := by decide +kernel
theorem dX0_takeReportBack_19 : decode cX0_takeReportBack 19 = .ok (.iconst 1, 1) := by decide +kernel
theorem dX0_takeReportBack_20 : decode cX0_takeReportBack 20 = .ok (.iload_n 1, 1) := by decide +kernel
theorem dX0_takeReportBack_21 : decode cX0_takeReportBack 21 = .ok (.ishl, 1) := by decide +kernel
theorem dX0_takeReportBack_22 : decode cX0_takeReportBack 22 = .ok (.ior, 1) := by decide +kernel
theorem dX0_takeReportBack_23 : decode cX0_takeReportBack 23 = .ok (.putfield 57, 3) := by decide +kernel
theorem dX0_takeReportBack_26 : decode cX0_takeReportBack 26 = .ok (.aload_n 0, 1) := by decide +kernel
theorem dX0_takeReportBack_27 : decode cX0_takeReportBack 27 = .ok (.getfield 51, 3) := by decide +kernel
theorem dX0_takeReportBack_30 : decode cX0_takeReportBack 30 = .ok (.aload_n 0, 1) := by decide +kernel
theorem dX0_takeReportBack_31 : decode cX0_takeReportBack 31 = .ok (.getfield 57, 3) := by decide +kernel
theorem dX0_takeReportBack_34 : decode cX0_takeReportBack 34 = .ok (.invokestatic 64, 3) := by decide +kernel
theorem dX0_takeReportBack_37 : decode cX0_takeReportBack 37 = .ok (.isub, 1) := by decide +kernel
theorem dX0_takeReportBack_38 : decode cX0_takeReportBack 38 = .ok (.ireturn, 1) := by decide +kernel
theorem dX0_isLet_0 : decode cX0_isLet 0 = .ok (.aload_n 0, 1) := by decide +kernel
theorem dX0_isLet_1 : decode cX0_isLet 1 = .ok (.iload_n 1, 1) := by decide +kernel
theorem dX0_isLet_2 : decode cX0_isLet 2 = .ok (.aload_n 0, 1) := by decide +kernel
theorem dX0_isLet_3 : decode cX0_isLet 3 = .ok (.getfield 21, 3) := by decide +kernel
theorem dX0_isLet_6 : decode cX0_isLet 6 = .ok (.iload_n 2, 1) := by decide +kernel
theorem dX0_isLet_7 : decode cX0_isLet 7 = .ok (.iaload, 1) := by decide +kernel
theorem dX0_isLet_8 : decode cX0_isLet 8 = .ok (.aload_n 0, 1) := by decide +kernel
theorem dX0_isLet_9 : decode cX0_isLet 9 = .ok (.getfield 24, 3) := by decide +kernel
theorem dX0_isLet_12 : decode cX0_isLet 12 = .ok (.iload_n 2, 1) := by decide +kernel
theorem dX0_isLet_13 : decode cX0_isLet 13 = .ok (.iaload, 1) := by decide +kernel
theorem dX0_isLet_14 : decode cX0_isLet 14 = .ok (.aload_n 0, 1) := by decide +kernel
theorem dX0_isLet_15 : decode cX0_isLet 15 = .ok (.getfield 27, 3) := by decide +kernel
theorem dX0_isLet_18 : decode cX0_isLet 18 = .ok (.iload_n 2, 1) := by decide +kernel
theorem dX0_isLet_19 : decode cX0_isLet 19 = .ok (.iaload, 1) := by decide +kernel
theorem dX0_isLet_20 : decode cX0_isLet 20 = .ok (.invokevirtual 70, 3) := by decide +kernel
theorem dX0_isLet_23 : decode cX0_isLet 23 = .ok (.istore_n 3, 1) := by decide +kernel
theorem dX0_isLet_24 : decode cX0_isLet 24 = .ok (.iload_n 3, 1) := by decide +kernel
theorem dX0_isLet_25 : decode cX0_isLet 25 = .ok (.aload_n 0, 1) := by decide +kernel
theorem dX0_isLet_26 : decode cX0_isLet 26 = .ok (.getfield 30, 3) := by decide +kernel
theorem dX0_isLet_29 : decode cX0_isLet 29 = .ok (.iload_n 2, 1) := by decide +kernel
theorem dX0_isLet_30 : decode cX0_isLet 30 = .ok (.baload, 1) := by decide +kernel
theorem dX0_isLet_31 : decode cX0_isLet 31 = .ok (.if_icmp .ne 7, 3) := by decide +kernel
theorem dX0_isLet_34 : decode cX0_isLet 34 = .ok (.iconst 1, 1) := by decide +kernel
theorem dX0_isLet_35 : decode cX0_isLet 35 = .ok (.goto 4, 3) := by decide +kernel
theorem dX0_isLet_38 : decode cX0_isLet 38 = .ok (.iconst 0, 1) := by decide +kernel
theorem dX0_isLet_39 : decode cX0_isLet 39 = .ok (.ireturn, 1) := by decide +kernel
theorem dX0_allLeft_0 : decode cX0_allLeft 0 = .ok (.iconst 0, 1) := by decide +kernel
theorem dX0_allLeft_1 : decode cX0_allLeft 1 = .ok (.istore_n 1, 1) := by decide +kernel
theorem dX0_allLeft_2 : decode cX0_allLeft 2 = .ok (.iconst 0, 1) := by decide +kernel
theorem dX0_allLeft_3 : decode cX0_allLeft 3 = .ok (.istore_n 2, 1) := by decide +kernel
theorem dX0_allLeft_4 : decode cX0_allLeft 4 = .ok (.iload_n 2, 1) := by decide +kernel
theorem dX0_allLeft_5 : decode cX0_allLeft 5 = .ok (.aload_n 0, 1) := by decide +kernel
theorem dX0_allLeft_6 : decode cX0_allLeft 6 = .ok (.getfield 47, 3) := by decide +kernel
theorem dX0_allLeft_9 : decode cX0_allLeft 9 = .ok (.if_icmp .ge 28, 3) := by decide +kernel
theorem dX0_allLeft_12 : decode cX0_allLeft 12 = .ok (.iload_n 1, 1) := by decide +kernel
theorem dX0_allLeft_13 : decode cX0_allLeft 13 = .ok (.aload_n 0, 1) := by decide +kernel
theorem dX0_allLeft_14 : decode cX0_allLeft 14 = .ok (.iload_n 2, 1) := by decide +kernel
theorem dX0_allLeft_15 : decode cX0_allLeft 15 = .ok (.aload_n 0, 1) := by decide +kernel
theorem dX0_allLeft_16 : decode cX0_allLeft 16 = .ok (.getfield 57, 3) := by decide +kernel
theorem dX0_allLeft_19 : decode cX0_allLeft 19 = .ok (.iconst (-1), 1) := by decide +kernel
theorem dX0_allLeft_20 : decode cX0_allLeft 20 = .ok (.ixor, 1) := by decide +kernel
theorem dX0_allLeft_21 : decode cX0_allLeft 21 = .ok (.invokevirtual 74, 3) := by decide +kernel
theorem dX0_allLeft_24 : decode cX0_allLeft 24 = .ok (.invokestatic 77, 3) := by decide +kernel
theorem dX0_allLeft_27 : decode cX0_allLeft 27 = .ok (.iload_n 2, 1) := by decide +kernel
theorem dX0_allLeft_28 : decode cX0_allLeft 28 = .ok (.ishl, 1) := by decide +kernel
theorem dX0_allLeft_29 : decode cX0_allLeft 29 = .ok (.ior, 1) := by decide +kernel
theorem dX0_allLeft_30 : decode cX0_allLeft 30 = .ok (.istore_n 1, 1) := by decide +kernel
theorem dX0_allLeft_31 : decode cX0_allLeft 31 = .ok (.iinc 2 1, 3) := by decide +kernel
theorem dX0_allLeft_34 : decode cX0_allLeft 34 = .ok (.goto (-30), 3) := by decide +kernel
theorem dX0_allLeft_37 : decode cX0_allLeft 37 = .ok (.iload_n 1, 1) := by decide +kernel
theorem dX0_allLeft_38 : decode cX0_allLeft 38 = .ok (.ireturn, 1) := by decide +kernel
theorem dX0_worstOf_0 : decode cX0_worstOf 0 = .ok (.iconst 0, 1) := by decide +kernel
theorem dX0_worstOf_1 : decode cX0_worstOf 1 = .ok (.istore 5, 2) := by decide +kernel
theorem dX0_worstOf_3 : decode cX0_worstOf 3 = .ok (.iconst 0, 1) := by decide +kernel
theorem dX0_worstOf_4 : decode cX0_worstOf 4 = .ok (.istore 6, 2) := by decide +kernel
theorem dX0_worstOf_6 : decode cX0_worstOf 6 = .ok (.iload 6, 2) := by decide +kernel
theorem dX0_worstOf_8 : decode cX0_worstOf 8 = .ok (.aload_n 0, 1) := by decide +kernel
theorem dX0_worstOf_9 : decode cX0_worstOf 9 = .ok (.getfield 47, 3) := by decide +kernel
theorem dX0_worstOf_12 : decode cX0_worstOf 12 = .ok (.if_icmp .ge 34, 3) := by decide +kernel
theorem dX0_worstOf_15 : decode cX0_worstOf 15 = .ok (.iload 4, 2) := by decide +kernel
theorem dX0_worstOf_17 : decode cX0_worstOf 17 = .ok (.iload 6, 2) := by decide +kernel
theorem dX0_worstOf_19 : decode cX0_worstOf 19 = .ok (.invokestatic 60, 3) := by decide +kernel
theorem dX0_worstOf_22 : decode cX0_worstOf 22 = .ok (.ifCond .eq 18, 3) := by decide +kernel
theorem dX0_worstOf_25 : decode cX0_worstOf 25 = .ok (.aload_n 0, 1) := by decide +kernel
theorem dX0_worstOf_26 : decode cX0_worstOf 26 = .ok (.iload 6, 2) := by decide +kernel
theorem dX0_worstOf_28 : decode cX0_worstOf 28 = .ok (.iload_n 1, 1) := by decide +kernel
theorem dX0_worstOf_29 : decode cX0_worstOf 29 = .ok (.iload_n 2, 1) := by decide +kernel
theorem dX0_worstOf_30 : decode cX0_worstOf 30 = .ok (.iload_n 3, 1) := by decide +kernel
theorem dX0_worstOf_31 : decode cX0_worstOf 31 = .ok (.invokevirtual 70, 3) := by decide +kernel
theorem dX0_worstOf_34 : decode cX0_worstOf 34 = .ok (.ifCond .eq 6, 3) := by decide +kernel
theorem dX0_worstOf_37 : decode cX0_worstOf 37 = .ok (.iinc 5 1, 3) := by decide +kernel
theorem dX0_worstOf_40 : decode cX0_worstOf 40 = .ok (.iinc 6 1, 3) := by decide +kernel
theorem dX0_worstOf_43 : decode cX0_worstOf 43 = .ok (.goto (-37), 3) := by decide +kernel
theorem dX0_worstOf_46 : decode cX0_worstOf 46 = .ok (.iload 5, 2) := by decide +kernel
theorem dX0_worstOf_48 : decode cX0_worstOf 48 = .ok (.iload 4, 2) := by decide +kernel
theorem dX0_worstOf_50 : decode cX0_worstOf 50 = .ok (.invokestatic 64, 3) := by decide +kernel
theorem dX0_worstOf_53 : decode cX0_worstOf 53 = .ok (.iload 5, 2) := by decide +kernel
theorem dX0_worstOf_55 : decode cX0_worstOf 55 = .ok (.isub, 1) := by decide +kernel
theorem dX0_worstOf_56 : decode cX0_worstOf 56 = .ok (.invokestatic 81, 3) := by decide +kernel
theorem dX0_worstOf_59 : decode cX0_worstOf 59 = .ok (.ireturn, 1) := by decide +kernel
theorem dX0_bestLook_0 : decode cX0_bestLook 0 = .ok (.iconst (-1), 1) := by decide +kernel
theorem dX0_bestLook_1 : decode cX0_bestLook 1 = .ok (.istore_n 3, 1) := by decide +kernel
theorem dX0_bestLook_2 : decode cX0_bestLook 2 = .ok (.bipush 13, 2) := by decide +kernel
theorem dX0_bestLook_4 : decode cX0_bestLook 4 = .ok (.istore 4, 2) := by decide +kernel
theorem dX0_bestLook_6 : decode cX0_bestLook 6 = .ok (.iconst 0, 1) := by decide +kernel
theorem dX0_bestLook_7 : decode cX0_bestLook 7 = .ok (.istore 5, 2) := by decide +kernel
theorem dX0_bestLook_9 : decode cX0_bestLook 9 = .ok (.iload 5, 2) := by decide +kernel
theorem dX0_bestLook_11 : decode cX0_bestLook 11 = .ok (.aload_n 0, 1) := by decide +kernel
theorem dX0_bestLook_12 : decode cX0_bestLook 12 = .ok (.getfield 43, 3) := by decide +kernel
theorem dX0_bestLook_15 : decode cX0_bestLook 15 = .ok (.getfield 87, 3) := by decide +kernel
theorem dX0_bestLook_18 : decode cX0_bestLook 18 = .ok (.if_icmp .ge 71, 3) := by decide +kernel
theorem dX0_bestLook_21 : decode cX0_bestLook 21 = .ok (.iconst 0, 1) := by decide +kernel
theorem dX0_bestLook_22 : decode cX0_bestLook 22 = .ok (.istore 6, 2) := by decide +kernel
theorem dX0_bestLook_24 : decode cX0_bestLook 24 = .ok (.iload 6, 2) := by decide +kernel
theorem dX0_bestLook_26 : decode cX0_bestLook 26 = .ok (.iconst 1, 1) := by decide +kernel
theorem dX0_bestLook_27 : decode cX0_bestLook 27 = .ok (.if_icmp .gt 56, 3) := by decide +kernel
theorem dX0_bestLook_30 : decode cX0_bestLook 30 = .ok (.aload_n 0, 1) := by decide +kernel
theorem dX0_bestLook_31 : decode cX0_bestLook 31 = .ok (.getfield 43, 3) := by decide +kernel
theorem dX0_bestLook_34 : decode cX0_bestLook 34 = .ok (.getfield 92, 3) := by decide +kernel
theorem dX0_bestLook_37 : decode cX0_bestLook 37 = .ok (.iload 5, 2) := by decide +kernel
theorem dX0_bestLook_39 : decode cX0_bestLook 39 = .ok (.aaload, 1) := by decide +kernel
theorem dX0_bestLook_40 : decode cX0_bestLook 40 = .ok (.getfield 96, 3) := by decide +kernel
theorem dX0_bestLook_43 : decode cX0_bestLook 43 = .ok (.ifCond .ne 40, 3) := by decide +kernel
theorem dX0_bestLook_46 : decode cX0_bestLook 46 = .ok (.aload_n 0, 1) := by decide +kernel
theorem dX0_bestLook_47 : decode cX0_bestLook 47 = .ok (.iload 5, 2) := by decide +kernel
theorem dX0_bestLook_49 : decode cX0_bestLook 49 = .ok (.iload_n 1, 1) := by decide +kernel
theorem dX0_bestLook_50 : decode cX0_bestLook 50 = .ok (.iload 6, 2) := by decide +kernel
theorem dX0_bestLook_52 : decode cX0_bestLook 52 = .ok (.iload_n 2, 1) := by decide +kernel
theorem dX0_bestLook_53 : decode cX0_bestLook 53 = .ok (.invokevirtual 102, 3) := by decide +kernel
theorem dX0_bestLook_56 : decode cX0_bestLook 56 = .ok (.istore 7, 2) := by decide +kernel
theorem dX0_bestLook_58 : decode cX0_bestLook 58 = .ok (.iload 7, 2) := by decide +kernel
theorem dX0_bestLook_60 : decode cX0_bestLook 60 = .ok (.iload 4, 2) := by decide +kernel
theorem dX0_bestLook_62 : decode cX0_bestLook 62 = .ok (.if_icmp .ge 15, 3) := by decide +kernel
theorem dX0_bestLook_65 : decode cX0_bestLook 65 = .ok (.iload 7, 2) := by decide +kernel
theorem dX0_bestLook_67 : decode cX0_bestLook 67 = .ok (.istore 4, 2) := by decide +kernel
theorem dX0_bestLook_69 : decode cX0_bestLook 69 = .ok (.iconst 2, 1) := by decide +kernel
theorem dX0_bestLook_70 : decode cX0_bestLook 70 = .ok (.iload 5, 2) := by decide +kernel
theorem dX0_bestLook_72 : decode cX0_bestLook 72 = .ok (.imul, 1) := by decide +kernel
theorem dX0_bestLook_73 : decode cX0_bestLook 73 = .ok (.iload 6, 2) := by decide +kernel
theorem dX0_bestLook_75 : decode cX0_bestLook 75 = .ok (.iadd, 1) := by decide +kernel
theorem dX0_bestLook_76 : decode cX0_bestLook 76 = .ok (.istore_n 3, 1) := by decide +kernel
theorem dX0_bestLook_77 : decode cX0_bestLook 77 = .ok (.iinc 6 1, 3) := by decide +kernel
theorem dX0_bestLook_80 : decode cX0_bestLook 80 = .ok (.goto (-56), 3) := by decide +kernel
theorem dX0_bestLook_83 : decode cX0_bestLook 83 = .ok (.iinc 5 1, 3) := by decide +kernel
theorem dX0_bestLook_86 : decode cX0_bestLook 86 = .ok (.goto (-77), 3) := by decide +kernel
theorem dX0_bestLook_89 : decode cX0_bestLook 89 = .ok (.iload_n 3, 1) := by decide +kernel
theorem dX0_bestLook_90 : decode cX0_bestLook 90 = .ok (.ireturn, 1) := by decide +kernel
theorem dX0_allStanding_0 : decode cX0_allStanding 0 = .ok (.iconst 0, 1) := by decide +kernel
theorem dX0_allStanding_1 : decode cX0_allStanding 1 = .ok (.istore_n 1, 1) := by decide +kernel
theorem dX0_allStanding_2 : decode cX0_allStanding 2 = .ok (.iconst 0, 1) := by decide +kernel
theorem dX0_allStanding_3 : decode cX0_allStanding 3 = .ok (.istore_n 2, 1) := by decide +kernel
theorem dX0_allStanding_4 : decode cX0_allStanding 4 = .ok (.iload_n 2, 1) := by decide +kernel
theorem dX0_allStanding_5 : decode cX0_allStanding 5 = .ok (.aload_n 0, 1) := by decide +kernel
theorem dX0_allStanding_6 : decode cX0_allStanding 6 = .ok (.getfield 54, 3) := by decide +kernel
theorem dX0_allStanding_9 : decode cX0_allStanding 9 = .ok (.if_icmp .ge 71, 3) := by decide +kernel
theorem dX0_allStanding_12 : decode cX0_allStanding 12 = .ok (.aload_n 0, 1) := by decide +kernel
theorem dX0_allStanding_13 : decode cX0_allStanding 13 = .ok (.getfield 40, 3) := by decide +kernel
theorem dX0_allStanding_16 : decode cX0_allStanding 16 = .ok (.iload_n 2, 1) := by decide +kernel
theorem dX0_allStanding_17 : decode cX0_allStanding 17 = .ok (.iaload, 1) := by decide +kernel
theorem dX0_allStanding_18 : decode cX0_allStanding 18 = .ok (.iload_n 1, 1) := by decide +kernel
theorem dX0_allStanding_19 : decode cX0_allStanding 19 = .ok (.iconst (-1), 1) := by decide +kernel
theorem dX0_allStanding_20 : decode cX0_allStanding 20 = .ok (.ixor, 1) := by decide +kernel
theorem dX0_allStanding_21 : decode cX0_allStanding 21 = .ok (.iand, 1) := by decide +kernel
theorem dX0_allStanding_22 : decode cX0_allStanding 22 = .ok (.ifCond .ne 21, 3) := by decide +kernel
theorem dX0_allStanding_25 : decode cX0_allStanding 25 = .ok (.aload_n 0, 1) := by decide +kernel
theorem dX0_allStanding_26 : decode cX0_allStanding 26 = .ok (.getfield 37, 3) := by decide +kernel
theorem dX0_allStanding_29 : decode cX0_allStanding 29 = .ok (.iload_n 2, 1) := by decide +kernel
theorem dX0_allStanding_30 : decode cX0_allStanding 30 = .ok (.iaload, 1) := by decide +kernel
theorem dX0_allStanding_31 : decode cX0_allStanding 31 = .ok (.aload_n 0, 1) := by decide +kernel
theorem dX0_allStanding_32 : decode cX0_allStanding 32 = .ok (.getfield 57, 3) := by decide +kernel
theorem dX0_allStanding_35 : decode cX0_allStanding 35 = .ok (.iand, 1) := by decide +kernel
theorem dX0_allStanding_36 : decode cX0_allStanding 36 = .ok (.ifCond .ne 7, 3) := by decide +kernel
theorem dX0_allStanding_39 : decode cX0_allStanding 39 = .ok (.iconst 1, 1) := by decide +kernel
theorem dX0_allStanding_40 : decode cX0_allStanding 40 = .ok (.goto 4, 3) := by decide +kernel
theorem dX0_allStanding_43 : decode cX0_allStanding 43 = .ok (.iconst 0, 1) := by decide +kernel
theorem dX0_allStanding_44 : decode cX0_allStanding 44 = .ok (.istore_n 3, 1) := by decide +kernel
theorem dX0_allStanding_45 : decode cX0_allStanding 45 = .ok (.iload_n 3, 1) := by decide +kernel
theorem dX0_allStanding_46 : decode cX0_allStanding 46 = .ok (.ifCond .eq 28, 3) := by decide +kernel
theorem dX0_allStanding_49 : decode cX0_allStanding 49 = .ok (.aload_n 0, 1) := by decide +kernel
theorem dX0_allStanding_50 : decode cX0_allStanding 50 = .ok (.aload_n 0, 1) := by decide +kernel
theorem dX0_allStanding_51 : decode cX0_allStanding 51 = .ok (.getfield 34, 3) := by decide +kernel
theorem dX0_allStanding_54 : decode cX0_allStanding 54 = .ok (.iload_n 2, 1) := by decide +kernel
theorem dX0_allStanding_55 : decode cX0_allStanding 55 = .ok (.iaload, 1) := by decide +kernel
theorem dX0_allStanding_56 : decode cX0_allStanding 56 = .ok (.aload_n 0, 1) := by decide +kernel
theorem dX0_allStanding_57 : decode cX0_allStanding 57 = .ok (.getfield 37, 3) := by decide +kernel
theorem dX0_allStanding_60 : decode cX0_allStanding 60 = .ok (.iload_n 2, 1) := by decide +kernel
theorem dX0_allStanding_61 : decode cX0_allStanding 61 = .ok (.iaload, 1) := by decide +kernel
theorem dX0_allStanding_62 : decode cX0_allStanding 62 = .ok (.invokevirtual 74, 3) := by decide +kernel
theorem dX0_allStanding_65 : decode cX0_allStanding 65 = .ok (.ifCond .eq 9, 3) := by decide +kernel
theorem dX0_allStanding_68 : decode cX0_allStanding 68 = .ok (.iload_n 1, 1) := by decide +kernel
theorem dX0_allStanding_69 : decode cX0_allStanding 69 = .ok (.iconst 1, 1) := by decide +kernel
theorem dX0_allStanding_70 : decode cX0_allStanding 70 = .ok (.iload_n 2, 1) := by decide +kernel
theorem dX0_allStanding_71 : decode cX0_allStanding 71 = .ok (.ishl, 1) := by decide +kernel
theorem dX0_allStanding_72 : decode cX0_allStanding 72 = .ok (.ior, 1) := by decide +kernel
theorem dX0_allStanding_73 : decode cX0_allStanding 73 = .ok (.istore_n 1, 1) := by decide +kernel
theorem dX0_allStanding_74 : decode cX0_allStanding 74 = .ok (.iinc 2 1, 3) := by decide +kernel
theorem dX0_allStanding_77 : decode cX0_allStanding 77 = .ok (.goto (-73), 3) := by decide +kernel
theorem dX0_allStanding_80 : decode cX0_allStanding 80 = .ok (.iload_n 1, 1) := by decide +kernel
theorem dX0_allStanding_81 : decode cX0_allStanding 81 = .ok (.ireturn, 1) := by decide +kernel
theorem dX0_isLetByAll_0 : decode cX0_isLetByAll 0 = .ok (.iconst 0, 1) := by decide +kernel
theorem dX0_isLetByAll_1 : decode cX0_isLetByAll 1 = .ok (.istore_n 3, 1) := by decide +kernel
theorem dX0_isLetByAll_2 : decode cX0_isLetByAll 2 = .ok (.iload_n 3, 1) := by decide +kernel
theorem dX0_isLetByAll_3 : decode cX0_isLetByAll 3 = .ok (.aload_n 0, 1) := by decide +kernel
theorem dX0_isLetByAll_4 : decode cX0_isLetByAll 4 = .ok (.getfield 51, 3) := by decide +kernel
theorem dX0_isLetByAll_7 : decode cX0_isLetByAll 7 = .ok (.if_icmp .ge 28, 3) := by decide +kernel
theorem dX0_isLetByAll_10 : decode cX0_isLetByAll 10 = .ok (.iload_n 2, 1) := by decide +kernel
theorem dX0_isLetByAll_11 : decode cX0_isLetByAll 11 = .ok (.iload_n 3, 1) := by decide +kernel
theorem dX0_isLetByAll_12 : decode cX0_isLetByAll 12 = .ok (.invokestatic 60, 3) := by decide +kernel
theorem dX0_isLetByAll_15 : decode cX0_isLetByAll 15 = .ok (.ifCond .eq 14, 3) := by decide +kernel
theorem dX0_isLetByAll_18 : decode cX0_isLetByAll 18 = .ok (.aload_n 0, 1) := by decide +kernel
theorem dX0_isLetByAll_19 : decode cX0_isLetByAll 19 = .ok (.iload_n 1, 1) := by decide +kernel
theorem dX0_isLetByAll_20 : decode cX0_isLetByAll 20 = .ok (.iload_n 3, 1) := by decide +kernel
theorem dX0_isLetByAll_21 : decode cX0_isLetByAll 21 = .ok (.invokevirtual 106, 3) := by decide +kernel
theorem dX0_isLetByAll_24 : decode cX0_isLetByAll 24 = .ok (.ifCond .ne 5, 3) := by decide +kernel
theorem dX0_isLetByAll_27 : decode cX0_isLetByAll 27 = .ok (.iconst 0, 1) := by decide +kernel
theorem dX0_isLetByAll_28 : decode cX0_isLetByAll 28 = .ok (.ireturn, 1) := by decide +kernel
theorem dX0_isLetByAll_29 : decode cX0_isLetByAll 29 = .ok (.iinc 3 1, 3) := by decide +kernel
theorem dX0_isLetByAll_32 : decode cX0_isLetByAll 32 = .ok (.goto (-30), 3) := by decide +kernel
theorem dX0_isLetByAll_35 : decode cX0_isLetByAll 35 = .ok (.iconst 1, 1) := by decide +kernel
theorem dX0_isLetByAll_36 : decode cX0_isLetByAll 36 = .ok (.ireturn, 1) := by decide +kernel
theorem dX0_isNoticed_0 : decode cX0_isNoticed 0 = .ok (.aload_n 0, 1) := by decide +kernel
theorem dX0_isNoticed_1 : decode cX0_isNoticed 1 = .ok (.getfield 18, 3) := by decide +kernel
theorem dX0_isNoticed_4 : decode cX0_isNoticed 4 = .ok (.iload_n 1, 1) := by decide +kernel
theorem dX0_isNoticed_5 : decode cX0_isNoticed 5 = .ok (.iaload, 1) := by decide +kernel
theorem dX0_isNoticed_6 : decode cX0_isNoticed 6 = .ok (.iload_n 3, 1) := by decide +kernel
theorem dX0_isNoticed_7 : decode cX0_isNoticed 7 = .ok (.if_icmp .ne 18, 3) := by decide +kernel
theorem dX0_isNoticed_10 : decode cX0_isNoticed 10 = .ok (.aload_n 0, 1) := by decide +kernel
theorem dX0_isNoticed_11 : decode cX0_isNoticed 11 = .ok (.getfield 43, 3) := by decide +kernel
theorem dX0_isNoticed_14 : decode cX0_isNoticed 14 = .ok (.getfield 92, 3) := by decide +kernel
theorem dX0_isNoticed_17 : decode cX0_isNoticed 17 = .ok (.iload_n 2, 1) := by decide +kernel
theorem dX0_isNoticed_18 : decode cX0_isNoticed 18 = .ok (.aaload, 1) := by decide +kernel
theorem dX0_isNoticed_19 : decode cX0_isNoticed 19 = .ok (.getfield 96, 3) := by decide +kernel
theorem dX0_isNoticed_22 : decode cX0_isNoticed 22 = .ok (.ifCond .eq 5, 3) := by decide +kernel
theorem dX0_isNoticed_25 : decode cX0_isNoticed 25 = .ok (.iconst 0, 1) := by decide +kernel
theorem dX0_isNoticed_26 : decode cX0_isNoticed 26 = .ok (.ireturn, 1) := by decide +kernel
theorem dX0_isNoticed_27 : decode cX0_isNoticed 27 = .ok (.iload 4, 2) := by decide +kernel
theorem dX0_isNoticed_29 : decode cX0_isNoticed 29 = .ok (.ifCond .ne 29, 3) := by decide +kernel
theorem dX0_isNoticed_32 : decode cX0_isNoticed 32 = .ok (.aload_n 0, 1) := by decide +kernel
theorem dX0_isNoticed_33 : decode cX0_isNoticed 33 = .ok (.getfield 43, 3) := by decide +kernel
theorem dX0_isNoticed_36 : decode cX0_isNoticed 36 = .ok (.iload_n 2, 1) := by decide +kernel
theorem dX0_isNoticed_37 : decode cX0_isNoticed 37 = .ok (.iload_n 3, 1) := by decide +kernel
theorem dX0_isNoticed_38 : decode cX0_isNoticed 38 = .ok (.aload_n 0, 1) := by decide +kernel
theorem dX0_isNoticed_39 : decode cX0_isNoticed 39 = .ok (.getfield 15, 3) := by decide +kernel
theorem dX0_isNoticed_42 : decode cX0_isNoticed 42 = .ok (.iload_n 1, 1) := by decide +kernel
theorem dX0_isNoticed_43 : decode cX0_isNoticed 43 = .ok (.iaload, 1) := by decide +kernel
theorem dX0_isNoticed_44 : decode cX0_isNoticed 44 = .ok (.getstatic 109, 3) := by decide +kernel
theorem dX0_isNoticed_47 : decode cX0_isNoticed 47 = .ok (.aload_n 0, 1) := by decide +kernel
theorem dX0_isNoticed_48 : decode cX0_isNoticed 48 = .ok (.getfield 11, 3) := by decide +kernel
theorem dX0_isNoticed_51 : decode cX0_isNoticed 51 = .ok (.iload_n 1, 1) := by decide +kernel
theorem dX0_isNoticed_52 : decode cX0_isNoticed 52 = .ok (.iaload, 1) := by decide +kernel
theorem dX0_isNoticed_53 : decode cX0_isNoticed 53 = .ok (.iaload, 1) := by decide +kernel
theorem dX0_isNoticed_54 : decode cX0_isNoticed 54 = .ok (.invokevirtual 112, 3) := by decide +kernel
theorem dX0_isNoticed_57 : decode cX0_isNoticed 57 = .ok (.ireturn, 1) := by decide +kernel
theorem dX0_isNoticed_58 : decode cX0_isNoticed 58 = .ok (.aload_n 0, 1) := by decide +kernel
theorem dX0_isNoticed_59 : decode cX0_isNoticed 59 = .ok (.getfield 11, 3) := by decide +kernel
theorem dX0_isNoticed_62 : decode cX0_isNoticed 62 = .ok (.iload_n 1, 1) := by decide +kernel
theorem dX0_isNoticed_63 : decode cX0_isNoticed 63 = .ok (.iaload, 1) := by decide +kernel
theorem dX0_isNoticed_64 : decode cX0_isNoticed 64 = .ok (.iconst 1, 1) := by decide +kernel
theorem dX0_isNoticed_65 : decode cX0_isNoticed 65 = .ok (.if_icmp .gt 25, 3) := by decide +kernel
theorem dX0_isNoticed_68 : decode cX0_isNoticed 68 = .ok (.aload_n 0, 1) := by decide +kernel
theorem dX0_isNoticed_69 : decode cX0_isNoticed 69 = .ok (.getfield 43, 3) := by decide +kernel
theorem dX0_isNoticed_72 : decode cX0_isNoticed 72 = .ok (.iload_n 2, 1) := by decide +kernel
theorem dX0_isNoticed_73 : decode cX0_isNoticed 73 = .ok (.aload_n 0, 1) := by decide +kernel
theorem dX0_isNoticed_74 : decode cX0_isNoticed 74 = .ok (.getfield 15, 3) := by decide +kernel
theorem dX0_isNoticed_77 : decode cX0_isNoticed 77 = .ok (.iload_n 1, 1) := by decide +kernel
theorem dX0_isNoticed_78 : decode cX0_isNoticed 78 = .ok (.iaload, 1) := by decide +kernel
theorem dX0_isNoticed_79 : decode cX0_isNoticed 79 = .ok (.iload_n 3, 1) := by decide +kernel
theorem dX0_isNoticed_80 : decode cX0_isNoticed 80 = .ok (.invokevirtual 115, 3) := by decide +kernel
theorem dX0_isNoticed_83 : decode cX0_isNoticed 83 = .ok (.ifCond .eq 7, 3) := by decide +kernel
theorem dX0_isNoticed_86 : decode cX0_isNoticed 86 = .ok (.iconst 1, 1) := by decide +kernel
theorem dX0_isNoticed_87 : decode cX0_isNoticed 87 = .ok (.goto 4, 3) := by decide +kernel
theorem dX0_isNoticed_90 : decode cX0_isNoticed 90 = .ok (.iconst 0, 1) := by decide +kernel
theorem dX0_isNoticed_91 : decode cX0_isNoticed 91 = .ok (.ireturn, 1) := by decide +kernel
theorem dX1_init_0 : decode cX1_init 0 = .ok (.aload_n 0, 1) := by decide +kernel
theorem dX1_init_1 : decode cX1_init 1 = .ok (.invokespecial 3, 3) := by decide +kernel
theorem dX1_init_4 : decode cX1_init 4 = .ok (.aload_n 0, 1) := by decide +kernel
theorem dX1_init_5 : decode cX1_init 5 = .ok (.bipush 6, 2) := by decide +kernel
theorem dX1_init_7 : decode cX1_init 7 = .ok (.newarray .int, 2) := by decide +kernel
theorem dX1_init_9 : decode cX1_init 9 = .ok (.putfield 11, 3) := by decide +kernel
theorem dX1_init_12 : decode cX1_init 12 = .ok (.aload_n 0, 1) := by decide +kernel
theorem dX1_init_13 : decode cX1_init 13 = .ok (.aload_n 1, 1) := by decide +kernel
theorem dX1_init_14 : decode cX1_init 14 = .ok (.putfield 17, 3) := by decide +kernel
theorem dX1_init_17 : decode cX1_init 17 = .ok (.aload_n 0, 1) := by decide +kernel
theorem dX1_init_18 : decode cX1_init 18 = .ok (.aload_n 2, 1) := by decide +kernel
theorem dX1_init_19 : decode cX1_init 19 = .ok (.putfield 21, 3) := by decide +kernel
theorem dX1_init_22 : decode cX1_init 22 = .ok (.aload_n 0, 1) := by decide +kernel
theorem dX1_init_23 : decode cX1_init 23 = .ok (.aload_n 3, 1) := by decide +kernel
theorem dX1_init_24 : decode cX1_init 24 = .ok (.putfield 25, 3) := by decide +kernel
theorem dX1_init_27 : decode cX1_init 27 = .ok (.return_, 1) := by decide +kernel
theorem dX1_valueOf_0 : decode cX1_valueOf 0 = .ok (.aload_n 0, 1) := by decide +kernel
theorem dX1_valueOf_1 : decode cX1_valueOf 1 = .ok (.getfield 21, 3) := by decide +kernel
theorem dX1_valueOf_4 : decode cX1_valueOf 4 = .ok (.getfield 29, 3) := by decide +kernel
theorem dX1_valueOf_7 : decode cX1_valueOf 7 = .ok (.iload_n 1, 1) := by decide +kernel
theorem dX1_valueOf_8 : decode cX1_valueOf 8 = .ok (.aaload, 1) := by decide +kernel
theorem dX1_valueOf_9 : decode cX1_valueOf 9 = .ok (.astore 5, 2) := by decide +kernel
theorem dX1_valueOf_11 : decode cX1_valueOf 11 = .ok (.aload 5, 2) := by decide +kernel
theorem dX1_valueOf_13 : decode cX1_valueOf 13 = .ok (.iload_n 2, 1) := by decide +kernel
theorem dX1_valueOf_14 : decode cX1_valueOf 14 = .ok (.invokevirtual 35, 3) := by decide +kernel
theorem dX1_valueOf_17 : decode cX1_valueOf 17 = .ok (.istore 6, 2) := by decide +kernel
theorem dX1_valueOf_19 : decode cX1_valueOf 19 = .ok (.aload_n 0, 1) := by decide +kernel
theorem dX1_valueOf_20 : decode cX1_valueOf 20 = .ok (.iconst 3, 1) := by decide +kernel
theorem dX1_valueOf_21 : decode cX1_valueOf 21 = .ok (.aload 5, 2) := by decide +kernel
theorem dX1_valueOf_23 : decode cX1_valueOf 23 = .ok (.getfield 41, 3) := by decide +kernel
theorem dX1_valueOf_26 : decode cX1_valueOf 26 = .ok (.invokevirtual 45, 3) := by decide +kernel
theorem dX1_valueOf_29 : decode cX1_valueOf 29 = .ok (.aload_n 0, 1) := by decide +kernel
theorem dX1_valueOf_30 : decode cX1_valueOf 30 = .ok (.iconst 4, 1) := by decide +kernel
theorem dX1_valueOf_31 : decode cX1_valueOf 31 = .ok (.aload_n 0, 1) := by decide +kernel
theorem dX1_valueOf_32 : decode cX1_valueOf 32 = .ok (.aload 5, 2) := by decide +kernel
theorem dX1_valueOf_34 : decode cX1_valueOf 34 = .ok (.iload 6, 2) := by decide +kernel
theorem dX1_valueOf_36 : decode cX1_valueOf 36 = .ok (.invokevirtual 49, 3) := by decide +kernel
theorem dX1_valueOf_39 : decode cX1_valueOf 39 = .ok (.invokevirtual 45, 3) := by decide +kernel
theorem dX1_valueOf_42 : decode cX1_valueOf 42 = .ok (.aload_n 0, 1) := by decide +kernel
theorem dX1_valueOf_43 : decode cX1_valueOf 43 = .ok (.iconst 5, 1) := by decide +kernel
theorem dX1_valueOf_44 : decode cX1_valueOf 44 = .ok (.aload_n 0, 1) := by decide +kernel
theorem dX1_valueOf_45 : decode cX1_valueOf 45 = .ok (.getfield 17, 3) := by decide +kernel
theorem dX1_valueOf_48 : decode cX1_valueOf 48 = .ok (.iload 6, 2) := by decide +kernel
theorem dX1_valueOf_50 : decode cX1_valueOf 50 = .ok (.invokevirtual 53, 3) := by decide +kernel
theorem dX1_valueOf_53 : decode cX1_valueOf 53 = .ok (.invokestatic 59, 3) := by decide +kernel
theorem dX1_valueOf_56 : decode cX1_valueOf 56 = .ok (.invokevirtual 45, 3) := by decide +kernel
theorem dX1_valueOf_59 : decode cX1_valueOf 59 = .ok (.aload_n 0, 1) := by decide +kernel
theorem dX1_valueOf_60 : decode cX1_valueOf 60 = .ok (.bipush 6, 2) := by decide +kernel
theorem dX1_valueOf_62 : decode cX1_valueOf 62 = .ok (.iload_n 2, 1) := by decide +kernel
theorem dX1_valueOf_63 : decode cX1_valueOf 63 = .ok (.invokevirtual 45, 3) := by decide +kernel
theorem dX1_valueOf_66 : decode cX1_valueOf 66 = .ok (.aload_n 0, 1) := by decide +kernel
theorem dX1_valueOf_67 : decode cX1_valueOf 67 = .ok (.bipush 7, 2) := by decide +kernel
theorem dX1_valueOf_69 : decode cX1_valueOf 69 = .ok (.aload 5, 2) := by decide +kernel
theorem dX1_valueOf_71 : decode cX1_valueOf 71 = .ok (.getfield 63, 3) := by decide +kernel
theorem dX1_valueOf_74 : decode cX1_valueOf 74 = .ok (.invokevirtual 45, 3) := by decide +kernel
theorem dX1_valueOf_77 : decode cX1_valueOf 77 = .ok (.aload_n 0, 1) := by decide +kernel
theorem dX1_valueOf_78 : decode cX1_valueOf 78 = .ok (.bipush 8, 2) := by decide +kernel
theorem dX1_valueOf_80 : decode cX1_valueOf 80 = .ok (.iload_n 3, 1) := by decide +kernel
theorem dX1_valueOf_81 : decode cX1_valueOf 81 = .ok (.ifCond .ne 7, 3) := by decide +kernel
theorem dX1_valueOf_84 : decode cX1_valueOf 84 = .ok (.iconst 0, 1) := by decide +kernel
theorem dX1_valueOf_85 : decode cX1_valueOf 85 = .ok (.goto 5, 3) := by decide +kernel
theorem dX1_valueOf_88 : decode cX1_valueOf 88 = .ok (.iload 4, 2) := by decide +kernel
theorem dX1_valueOf_90 : decode cX1_valueOf 90 = .ok (.invokevirtual 45, 3) := by decide +kernel
theorem dX1_valueOf_93 : decode cX1_valueOf 93 = .ok (.iload_n 3, 1) := by decide +kernel
theorem dX1_valueOf_94 : decode cX1_valueOf 94 = .ok (.ifCond .eq 12, 3) := by decide +kernel
theorem dX1_valueOf_97 : decode cX1_valueOf 97 = .ok (.aload 5, 2) := by decide +kernel
theorem dX1_valueOf_99 : decode cX1_valueOf 99 = .ok (.getfield 66, 3) := by decide +kernel
theorem dX1_valueOf_102 : decode cX1_valueOf 102 = .ok (.iconst 2, 1) := by decide +kernel
theorem dX1_valueOf_103 : decode cX1_valueOf 103 = .ok (.if_icmp .ne 7, 3) := by decide +kernel
theorem dX1_valueOf_106 : decode cX1_valueOf 106 = .ok (.iconst 1, 1) := by decide +kernel
theorem dX1_valueOf_107 : decode cX1_valueOf 107 = .ok (.goto 4, 3) := by decide +kernel
theorem dX1_valueOf_110 : decode cX1_valueOf 110 = .ok (.iconst 0, 1) := by decide +kernel
theorem dX1_valueOf_111 : decode cX1_valueOf 111 = .ok (.istore 7, 2) := by decide +kernel
theorem dX1_valueOf_113 : decode cX1_valueOf 113 = .ok (.aload_n 0, 1) := by decide +kernel
theorem dX1_valueOf_114 : decode cX1_valueOf 114 = .ok (.getfield 25, 3) := by decide +kernel
theorem dX1_valueOf_117 : decode cX1_valueOf 117 = .ok (.aload_n 0, 1) := by decide +kernel
theorem dX1_valueOf_118 : decode cX1_valueOf 118 = .ok (.getfield 25, 3) := by decide +kernel
theorem dX1_valueOf_121 : decode cX1_valueOf 121 = .ok (.getfield 69, 3) := by decide +kernel
theorem dX1_valueOf_124 : decode cX1_valueOf 124 = .ok (.iload 7, 2) := by decide +kernel
theorem dX1_valueOf_126 : decode cX1_valueOf 126 = .ok (.ifCond .eq 7, 3) := by decide +kernel
theorem dX1_valueOf_129 : decode cX1_valueOf 129 = .ok (.iconst 2, 1) := by decide +kernel
theorem dX1_valueOf_130 : decode cX1_valueOf 130 = .ok (.goto 8, 3) := by decide +kernel
theorem dX1_valueOf_133 : decode cX1_valueOf 133 = .ok (.aload 5, 2) := by decide +kernel
theorem dX1_valueOf_135 : decode cX1_valueOf 135 = .ok (.getfield 66, 3) := by decide +kernel
theorem dX1_valueOf_138 : decode cX1_valueOf 138 = .ok (.iaload, 1) := by decide +kernel
theorem dX1_valueOf_139 : decode cX1_valueOf 139 = .ok (.iload_n 3, 1) := by decide +kernel
theorem dX1_valueOf_140 : decode cX1_valueOf 140 = .ok (.aload_n 0, 1) := by decide +kernel
theorem dX1_valueOf_141 : decode cX1_valueOf 141 = .ok (.getfield 11, 3) := by decide +kernel
theorem dX1_valueOf_144 : decode cX1_valueOf 144 = .ok (.invokevirtual 74, 3) := by decide +kernel
theorem dX1_valueOf_147 : decode cX1_valueOf 147 = .ok (.ireturn, 1) := by decide +kernel
theorem dX1_allBreaches_0 : decode cX1_allBreaches 0 = .ok (.iconst 0, 1) := by decide +kernel
theorem dX1_allBreaches_1 : decode cX1_allBreaches 1 = .ok (.istore_n 2, 1) := by decide +kernel
theorem dX1_allBreaches_2 : decode cX1_allBreaches 2 = .ok (.iconst 0, 1) := by decide +kernel
theorem dX1_allBreaches_3 : decode cX1_allBreaches 3 = .ok (.istore_n 3, 1) := by decide +kernel
theorem dX1_allBreaches_4 : decode cX1_allBreaches 4 = .ok (.iload_n 3, 1) := by decide +kernel
theorem dX1_allBreaches_5 : decode cX1_allBreaches 5 = .ok (.aload_n 0, 1) := by decide +kernel
theorem dX1_allBreaches_6 : decode cX1_allBreaches 6 = .ok (.getfield 21, 3) := by decide +kernel
theorem dX1_allBreaches_9 : decode cX1_allBreaches 9 = .ok (.getfield 78, 3) := by decide +kernel
theorem dX1_allBreaches_12 : decode cX1_allBreaches 12 = .ok (.if_icmp .ge 52, 3) := by decide +kernel
theorem dX1_allBreaches_15 : decode cX1_allBreaches 15 = .ok (.aload_n 0, 1) := by decide +kernel
theorem dX1_allBreaches_16 : decode cX1_allBreaches 16 = .ok (.getfield 21, 3) := by decide +kernel
theorem dX1_allBreaches_19 : decode cX1_allBreaches 19 = .ok (.getfield 29, 3) := by decide +kernel
theorem dX1_allBreaches_22 : decode cX1_allBreaches 22 = .ok (.iload_n 3, 1) := by decide +kernel
theorem dX1_allBreaches_23 : decode cX1_allBreaches 23 = .ok (.aaload, 1) := by decide +kernel
theorem dX1_allBreaches_24 : decode cX1_allBreaches 24 = .ok (.getfield 81, 3) := by decide +kernel
theorem dX1_allBreaches_27 : decode cX1_allBreaches 27 = .ok (.ifCond .ne 18, 3) := by decide +kernel
theorem dX1_allBreaches_30 : decode cX1_allBreaches 30 = .ok (.aload_n 0, 1) := by decide +kernel
theorem dX1_allBreaches_31 : decode cX1_allBreaches 31 = .ok (.iload_n 3, 1) := by decide +kernel
theorem dX1_allBreaches_32 : decode cX1_allBreaches 32 = .ok (.iload_n 1, 1) := by decide +kernel
theorem dX1_allBreaches_33 : decode cX1_allBreaches 33 = .ok (.iconst 0, 1) := by decide +kernel
theorem dX1_allBreaches_34 : decode cX1_allBreaches 34 = .ok (.iconst 0, 1) := by decide +kernel
theorem dX1_allBreaches_35 : decode cX1_allBreaches 35 = .ok (.invokevirtual 85, 3) := by decide +kernel
theorem dX1_allBreaches_38 : decode cX1_allBreaches 38 = .ok (.ifCond .eq 7, 3) := by decide +kernel
theorem dX1_allBreaches_41 : decode cX1_allBreaches 41 = .ok (.iconst 1, 1) := by decide +kernel
theorem dX1_allBreaches_42 : decode cX1_allBreaches 42 = .ok (.goto 4, 3) := by decide +kernel
theorem dX1_allBreaches_45 : decode cX1_allBreaches 45 = .ok (.iconst 0, 1) := by decide +kernel
theorem dX1_allBreaches_46 : decode cX1_allBreaches 46 = .ok (.istore 4, 2) := by decide +kernel
theorem dX1_allBreaches_48 : decode cX1_allBreaches 48 = .ok (.iload_n 2, 1) := by decide +kernel
theorem dX1_allBreaches_49 : decode cX1_allBreaches 49 = .ok (.iload 4, 2) := by decide +kernel
theorem dX1_allBreaches_51 : decode cX1_allBreaches 51 = .ok (.invokestatic 59, 3) := by decide +kernel
theorem dX1_allBreaches_54 : decode cX1_allBreaches 54 = .ok (.iload_n 3, 1) := by decide +kernel
theorem dX1_allBreaches_55 : decode cX1_allBreaches 55 = .ok (.ishl, 1) := by decide +kernel
theorem dX1_allBreaches_56 : decode cX1_allBreaches 56 = .ok (.ior, 1) := by decide +kernel
theorem dX1_allBreaches_57 : decode cX1_allBreaches 57 = .ok (.istore_n 2, 1) := by decide +kernel
theorem dX1_allBreaches_58 : decode cX1_allBreaches 58 = .ok (.iinc 3 1, 3) := by decide +kernel
theorem dX1_allBreaches_61 : decode cX1_allBreaches 61 = .ok (.goto (-57), 3) := by decide +kernel
theorem dX1_allBreaches_64 : decode cX1_allBreaches 64 = .ok (.iload_n 2, 1) := by decide +kernel
theorem dX1_allBreaches_65 : decode cX1_allBreaches 65 = .ok (.ireturn, 1) := by decide +kernel
theorem dX1_knownBreaches_0 : decode cX1_knownBreaches 0 = .ok (.aload_n 0, 1) := by decide +kernel
theorem dX1_knownBreaches_1 : decode cX1_knownBreaches 1 = .ok (.iload_n 2, 1) := by decide +kernel
theorem dX1_knownBreaches_2 : decode cX1_knownBreaches 2 = .ok (.invokevirtual 88, 3) := by decide +kernel
theorem dX1_knownBreaches_5 : decode cX1_knownBreaches 5 = .ok (.istore_n 3, 1) := by decide +kernel
theorem dX1_knownBreaches_6 : decode cX1_knownBreaches 6 = .ok (.aload_n 0, 1) := by decide +kernel
theorem dX1_knownBreaches_7 : decode cX1_knownBreaches 7 = .ok (.getfield 21, 3) := by decide +kernel
theorem dX1_knownBreaches_10 : decode cX1_knownBreaches 10 = .ok (.iload_n 1, 1) := by decide +kernel
theorem dX1_knownBreaches_11 : decode cX1_knownBreaches 11 = .ok (.iload_n 2, 1) := by decide +kernel
theorem dX1_knownBreaches_12 : decode cX1_knownBreaches 12 = .ok (.invokevirtual 91, 3) := by decide +kernel
theorem dX1_knownBreaches_15 : decode cX1_knownBreaches 15 = .ok (.lstore 4, 2) := by decide +kernel
theorem dX1_knownBreaches_17 : decode cX1_knownBreaches 17 = .ok (.iconst 0, 1) := by decide +kernel
theorem dX1_knownBreaches_18 : decode cX1_knownBreaches 18 = .ok (.istore 6, 2) := by decide +kernel
theorem dX1_knownBreaches_20 : decode cX1_knownBreaches 20 = .ok (.iconst 0, 1) := by decide +kernel
theorem dX1_knownBreaches_21 : decode cX1_knownBreaches 21 = .ok (.istore 7, 2) := by decide +kernel
theorem dX1_knownBreaches_23 : decode cX1_knownBreaches 23 = .ok (.iload 7, 2) := by decide +kernel
theorem dX1_knownBreaches_25 : decode cX1_knownBreaches 25 = .ok (.aload_n 0, 1) := by decide +kernel
theorem dX1_knownBreaches_26 : decode cX1_knownBreaches 26 = .ok (.getfield 21, 3) := by decide +kernel
theorem dX1_knownBreaches_29 : decode cX1_knownBreaches 29 = .ok (.getfield 78, 3) := by decide +kernel
theorem dX1_knownBreaches_32 : decode cX1_knownBreaches 32 = .ok (.if_icmp .ge 76, 3) := by decide +kernel
theorem dX1_knownBreaches_35 : decode cX1_knownBreaches 35 = .ok (.aload_n 0, 1) := by decide +kernel
theorem dX1_knownBreaches_36 : decode cX1_knownBreaches 36 = .ok (.getfield 21, 3) := by decide +kernel
theorem dX1_knownBreaches_39 : decode cX1_knownBreaches 39 = .ok (.getfield 29, 3) := by decide +kernel
theorem dX1_knownBreaches_42 : decode cX1_knownBreaches 42 = .ok (.iload 7, 2) := by decide +kernel
theorem dX1_knownBreaches_44 : decode cX1_knownBreaches 44 = .ok (.aaload, 1) := by decide +kernel
theorem dX1_knownBreaches_45 : decode cX1_knownBreaches 45 = .ok (.astore 8, 2) := by decide +kernel
theorem dX1_knownBreaches_47 : decode cX1_knownBreaches 47 = .ok (.lload 4, 2) := by decide +kernel
theorem dX1_knownBreaches_49 : decode cX1_knownBreaches 49 = .ok (.aload 8, 2) := by decide +kernel
theorem dX1_knownBreaches_51 : decode cX1_knownBreaches 51 = .ok (.iload_n 2, 1) := by decide +kernel
theorem dX1_knownBreaches_52 : decode cX1_knownBreaches 52 = .ok (.invokevirtual 35, 3) := by decide +kernel
theorem dX1_knownBreaches_55 : decode cX1_knownBreaches 55 = .ok (.lshr, 1) := by decide +kernel
theorem dX1_knownBreaches_56 : decode cX1_knownBreaches 56 = .ok (.lconst 1, 1) := by decide +kernel
theorem dX1_knownBreaches_57 : decode cX1_knownBreaches 57 = .ok (.land, 1) := by decide +kernel
theorem dX1_knownBreaches_58 : decode cX1_knownBreaches 58 = .ok (.lconst 0, 1) := by decide +kernel
theorem dX1_knownBreaches_59 : decode cX1_knownBreaches 59 = .ok (.lcmp, 1) := by decide +kernel
theorem dX1_knownBreaches_60 : decode cX1_knownBreaches 60 = .ok (.ifCond .eq 7, 3) := by decide +kernel
theorem dX1_knownBreaches_63 : decode cX1_knownBreaches 63 = .ok (.iconst 1, 1) := by decide +kernel
theorem dX1_knownBreaches_64 : decode cX1_knownBreaches 64 = .ok (.goto 4, 3) := by decide +kernel
theorem dX1_knownBreaches_67 : decode cX1_knownBreaches 67 = .ok (.iconst 0, 1) := by decide +kernel
theorem dX1_knownBreaches_68 : decode cX1_knownBreaches 68 = .ok (.istore 9, 2) := by decide +kernel
theorem dX1_knownBreaches_70 : decode cX1_knownBreaches 70 = .ok (.iload_n 3, 1) := by decide +kernel
theorem dX1_knownBreaches_71 : decode cX1_knownBreaches 71 = .ok (.iload 7, 2) := by decide +kernel
theorem dX1_knownBreaches_73 : decode cX1_knownBreaches 73 = .ok (.invokestatic 95, 3) := by decide +kernel
theorem dX1_knownBreaches_76 : decode cX1_knownBreaches 76 = .ok (.ifCond .eq 26, 3) := by decide +kernel
theorem dX1_knownBreaches_79 : decode cX1_knownBreaches 79 = .ok (.aload 8, 2) := by decide +kernel
theorem dX1_knownBreaches_81 : decode cX1_knownBreaches 81 = .ok (.getfield 66, 3) := by decide +kernel
theorem dX1_knownBreaches_84 : decode cX1_knownBreaches 84 = .ok (.iload_n 1, 1) := by decide +kernel
theorem dX1_knownBreaches_85 : decode cX1_knownBreaches 85 = .ok (.if_icmp .eq 17, 3) := by decide +kernel
theorem dX1_knownBreaches_88 : decode cX1_knownBreaches 88 = .ok (.iload 9, 2) := by decide +kernel
theorem dX1_knownBreaches_90 : decode cX1_knownBreaches 90 = .ok (.ifCond .eq 12, 3) := by decide +kernel
theorem dX1_knownBreaches_93 : decode cX1_knownBreaches 93 = .ok (.iload 6, 2) := by decide +kernel
theorem dX1_knownBreaches_95 : decode cX1_knownBreaches 95 = .ok (.iconst 1, 1) := by decide +kernel
theorem dX1_knownBreaches_96 : decode cX1_knownBreaches 96 = .ok (.iload 7, 2) := by decide +kernel
theorem dX1_knownBreaches_98 : decode cX1_knownBreaches 98 = .ok (.ishl, 1) := by decide +kernel
theorem dX1_knownBreaches_99 : decode cX1_knownBreaches 99 = .ok (.ior, 1) := by decide +kernel
theorem dX1_knownBreaches_100 : decode cX1_knownBreaches 100 = .ok (.istore 6, 2) := by decide +kernel
theorem dX1_knownBreaches_102 : decode cX1_knownBreaches 102 = .ok (.iinc 7 1, 3) := by decide +kernel
theorem dX1_knownBreaches_105 : decode cX1_knownBreaches 105 = .ok (.goto (-82), 3) := by decide +kernel
theorem dX1_knownBreaches_108 : decode cX1_knownBreaches 108 = .ok (.iload 6, 2) := by decide +kernel
theorem dX1_knownBreaches_110 : decode cX1_knownBreaches 110 = .ok (.ireturn, 1) := by decide +kernel
theorem dX1_allAstray_0 : decode cX1_allAstray 0 = .ok (.iconst 0, 1) := by decide +kernel
theorem dX1_allAstray_1 : decode cX1_allAstray 1 = .ok (.istore_n 2, 1) := by decide +kernel
theorem dX1_allAstray_2 : decode cX1_allAstray 2 = .ok (.iconst 0, 1) := by decide +kernel
theorem dX1_allAstray_3 : decode cX1_allAstray 3 = .ok (.istore_n 3, 1) := by decide +kernel
theorem dX1_allAstray_4 : decode cX1_allAstray 4 = .ok (.iload_n 3, 1) := by decide +kernel
theorem dX1_allAstray_5 : decode cX1_allAstray 5 = .ok (.aload_n 0, 1) := by decide +kernel
theorem dX1_allAstray_6 : decode cX1_allAstray 6 = .ok (.getfield 21, 3) := by decide +kernel
theorem dX1_allAstray_9 : decode cX1_allAstray 9 = .ok (.getfield 78, 3) := by decide +kernel
theorem dX1_allAstray_12 : decode cX1_allAstray 12 = .ok (.if_icmp .ge 49, 3) := by decide +kernel
theorem dX1_allAstray_15 : decode cX1_allAstray 15 = .ok (.aload_n 0, 1) := by decide +kernel
theorem dX1_allAstray_16 : decode cX1_allAstray 16 = .ok (.getfield 21, 3) := by decide +kernel
theorem dX1_allAstray_19 : decode cX1_allAstray 19 = .ok (.getfield 29, 3) := by decide +kernel
theorem dX1_allAstray_22 : decode cX1_allAstray 22 = .ok (.iload_n 3, 1) := by decide +kernel
theorem dX1_allAstray_23 : decode cX1_allAstray 23 = .ok (.aaload, 1) := by decide +kernel
theorem dX1_allAstray_24 : decode cX1_allAstray 24 = .ok (.astore 4, 2) := by decide +kernel
theorem dX1_allAstray_26 : decode cX1_allAstray 26 = .ok (.aload 4, 2) := by decide +kernel
theorem dX1_allAstray_28 : decode cX1_allAstray 28 = .ok (.getfield 81, 3) := by decide +kernel
theorem dX1_allAstray_31 : decode cX1_allAstray 31 = .ok (.ifCond .ne 24, 3) := by decide +kernel
theorem dX1_allAstray_34 : decode cX1_allAstray 34 = .ok (.aload_n 0, 1) := by decide +kernel
theorem dX1_allAstray_35 : decode cX1_allAstray 35 = .ok (.aload 4, 2) := by decide +kernel
theorem dX1_allAstray_37 : decode cX1_allAstray 37 = .ok (.aload 4, 2) := by decide +kernel
theorem dX1_allAstray_39 : decode cX1_allAstray 39 = .ok (.iload_n 1, 1) := by decide +kernel
theorem dX1_allAstray_40 : decode cX1_allAstray 40 = .ok (.invokevirtual 35, 3) := by decide +kernel
theorem dX1_allAstray_43 : decode cX1_allAstray 43 = .ok (.invokevirtual 99, 3) := by decide +kernel
theorem dX1_allAstray_46 : decode cX1_allAstray 46 = .ok (.ifCond .eq 9, 3) := by decide +kernel
theorem dX1_allAstray_49 : decode cX1_allAstray 49 = .ok (.iload_n 2, 1) := by decide +kernel
theorem dX1_allAstray_50 : decode cX1_allAstray 50 = .ok (.iconst 1, 1) := by decide +kernel
theorem dX1_allAstray_51 : decode cX1_allAstray 51 = .ok (.iload_n 3, 1) := by decide +kernel
theorem dX1_allAstray_52 : decode cX1_allAstray 52 = .ok (.ishl, 1) := by decide +kernel
theorem dX1_allAstray_53 : decode cX1_allAstray 53 = .ok (.ior, 1) := by decide +kernel
theorem dX1_allAstray_54 : decode cX1_allAstray 54 = .ok (.istore_n 2, 1) := by decide +kernel
theorem dX1_allAstray_55 : decode cX1_allAstray 55 = .ok (.iinc 3 1, 3) := by decide +kernel
theorem dX1_allAstray_58 : decode cX1_allAstray 58 = .ok (.goto (-54), 3) := by decide +kernel
theorem dX1_allAstray_61 : decode cX1_allAstray 61 = .ok (.iload_n 2, 1) := by decide +kernel
theorem dX1_allAstray_62 : decode cX1_allAstray 62 = .ok (.ireturn, 1) := by decide +kernel
theorem dX1_tellName_0 : decode cX1_tellName 0 = .ok (.aload_n 0, 1) := by decide +kernel
theorem dX1_tellName_1 : decode cX1_tellName 1 = .ok (.getfield 11, 3) := by decide +kernel
theorem dX1_tellName_4 : decode cX1_tellName 4 = .ok (.iload_n 1, 1) := by decide +kernel
theorem dX1_tellName_5 : decode cX1_tellName 5 = .ok (.iconst 3, 1) := by decide +kernel
theorem dX1_tellName_6 : decode cX1_tellName 6 = .ok (.isub, 1) := by decide +kernel
theorem dX1_tellName_7 : decode cX1_tellName 7 = .ok (.iload_n 2, 1) := by decide +kernel
theorem dX1_tellName_8 : decode cX1_tellName 8 = .ok (.iastore, 1) := by decide +kernel
theorem dX1_tellName_9 : decode cX1_tellName 9 = .ok (.return_, 1) := by decide +kernel
theorem dX1_signedFar_0 : decode cX1_signedFar 0 = .ok (.aload_n 0, 1) := by decide +kernel
theorem dX1_signedFar_1 : decode cX1_signedFar 1 = .ok (.getfield 17, 3) := by decide +kernel
theorem dX1_signedFar_4 : decode cX1_signedFar 4 = .ok (.iload_n 2, 1) := by decide +kernel
theorem dX1_signedFar_5 : decode cX1_signedFar 5 = .ok (.invokevirtual 103, 3) := by decide +kernel
theorem dX1_signedFar_8 : decode cX1_signedFar 8 = .ok (.istore_n 3, 1) := by decide +kernel
theorem dX1_signedFar_9 : decode cX1_signedFar 9 = .ok (.aload_n 0, 1) := by decide +kernel
theorem dX1_signedFar_10 : decode cX1_signedFar 10 = .ok (.aload_n 1, 1) := by decide +kernel
theorem dX1_signedFar_11 : decode cX1_signedFar 11 = .ok (.iload_n 2, 1) := by decide +kernel
theorem dX1_signedFar_12 : decode cX1_signedFar 12 = .ok (.invokevirtual 99, 3) := by decide +kernel
theorem dX1_signedFar_15 : decode cX1_signedFar 15 = .ok (.ifCond .eq 9, 3) := by decide +kernel
theorem dX1_signedFar_18 : decode cX1_signedFar 18 = .ok (.iconst (-1), 1) := by decide +kernel
theorem dX1_signedFar_19 : decode cX1_signedFar 19 = .ok (.iload_n 3, 1) := by decide +kernel
theorem dX1_signedFar_20 : decode cX1_signedFar 20 = .ok (.isub, 1) := by decide +kernel
theorem dX1_signedFar_21 : decode cX1_signedFar 21 = .ok (.goto 4, 3) := by decide +kernel
theorem dX1_signedFar_24 : decode cX1_signedFar 24 = .ok (.iload_n 3, 1) := by decide +kernel
theorem dX1_signedFar_25 : decode cX1_signedFar 25 = .ok (.ireturn, 1) := by decide +kernel
theorem dX1_isOnOtherSide_0 : decode cX1_isOnOtherSide 0 = .ok (.aload_n 1, 1) := by decide +kernel
theorem dX1_isOnOtherSide_1 : decode cX1_isOnOtherSide 1 = .ok (.getfield 66, 3) := by decide +kernel
theorem dX1_isOnOtherSide_4 : decode cX1_isOnOtherSide 4 = .ok (.invokestatic 106, 3) := by decide +kernel
theorem dX1_isOnOtherSide_7 : decode cX1_isOnOtherSide 7 = .ok (.ifCond .eq 22, 3) := by decide +kernel
theorem dX1_isOnOtherSide_10 : decode cX1_isOnOtherSide 10 = .ok (.aload_n 0, 1) := by decide +kernel
theorem dX1_isOnOtherSide_11 : decode cX1_isOnOtherSide 11 = .ok (.getfield 17, 3) := by decide +kernel
theorem dX1_isOnOtherSide_14 : decode cX1_isOnOtherSide 14 = .ok (.iload_n 2, 1) := by decide +kernel
theorem dX1_isOnOtherSide_15 : decode cX1_isOnOtherSide 15 = .ok (.invokevirtual 109, 3) := by decide +kernel
theorem dX1_isOnOtherSide_18 : decode cX1_isOnOtherSide 18 = .ok (.aload_n 1, 1) := by decide +kernel
theorem dX1_isOnOtherSide_19 : decode cX1_isOnOtherSide 19 = .ok (.getfield 66, 3) := by decide +kernel
theorem dX1_isOnOtherSide_22 : decode cX1_isOnOtherSide 22 = .ok (.if_icmp .eq 7, 3) := by decide +kernel
theorem dX1_isOnOtherSide_25 : decode cX1_isOnOtherSide 25 = .ok (.iconst 1, 1) := by decide +kernel
theorem dX1_isOnOtherSide_26 : decode cX1_isOnOtherSide 26 = .ok (.goto 4, 3) := by decide +kernel
theorem dX1_isOnOtherSide_29 : decode cX1_isOnOtherSide 29 = .ok (.iconst 0, 1) := by decide +kernel
theorem dX1_isOnOtherSide_30 : decode cX1_isOnOtherSide 30 = .ok (.ireturn, 1) := by decide +kernel
theorem dX2_init_0 : decode cX2_init 0 = .ok (.aload_n 0, 1) := by decide +kernel
theorem dX2_init_1 : decode cX2_init 1 = .ok (.invokespecial 3, 3) := by decide +kernel
theorem dX2_init_4 : decode cX2_init 4 = .ok (.aload_n 0, 1) := by decide +kernel
theorem dX2_init_5 : decode cX2_init 5 = .ok (.bipush 6, 2) := by decide +kernel
theorem dX2_init_7 : decode cX2_init 7 = .ok (.newarray .int, 2) := by decide +kernel
theorem dX2_init_9 : decode cX2_init 9 = .ok (.putfield 11, 3) := by decide +kernel
theorem dX2_init_12 : decode cX2_init 12 = .ok (.return_, 1) := by decide +kernel
theorem dX2_isUnder_0 : decode cX2_isUnder 0 = .ok (.iload_n 0, 1) := by decide +kernel
theorem dX2_isUnder_1 : decode cX2_isUnder 1 = .ok (.istore_n 2, 1) := by decide +kernel
theorem dX2_isUnder_2 : decode cX2_isUnder 2 = .ok (.iconst 0, 1) := by decide +kernel
theorem dX2_isUnder_3 : decode cX2_isUnder 3 = .ok (.istore_n 3, 1) := by decide +kernel
theorem dX2_isUnder_4 : decode cX2_isUnder 4 = .ok (.iload_n 3, 1) := by decide +kernel
theorem dX2_isUnder_5 : decode cX2_isUnder 5 = .ok (.getstatic 15, 3) := by decide +kernel
theorem dX2_isUnder_8 : decode cX2_isUnder 8 = .ok (.arraylength, 1) := by decide +kernel
theorem dX2_isUnder_9 : decode cX2_isUnder 9 = .ok (.if_icmp .ge 29, 3) := by decide +kernel
theorem dX2_isUnder_12 : decode cX2_isUnder 12 = .ok (.iload_n 2, 1) := by decide +kernel
theorem dX2_isUnder_13 : decode cX2_isUnder 13 = .ok (.invokestatic 18, 3) := by decide +kernel
theorem dX2_isUnder_16 : decode cX2_isUnder 16 = .ok (.ifCond .eq 22, 3) := by decide +kernel
theorem dX2_isUnder_19 : decode cX2_isUnder 19 = .ok (.iload_n 2, 1) := by decide +kernel
theorem dX2_isUnder_20 : decode cX2_isUnder 20 = .ok (.iload_n 1, 1) := by decide +kernel
theorem dX2_isUnder_21 : decode cX2_isUnder 21 = .ok (.if_icmp .ne 5, 3) := by decide +kernel
theorem dX2_isUnder_24 : decode cX2_isUnder 24 = .ok (.iconst 1, 1) := by decide +kernel
theorem dX2_isUnder_25 : decode cX2_isUnder 25 = .ok (.ireturn, 1) := by decide +kernel
theorem dX2_isUnder_26 : decode cX2_isUnder 26 = .ok (.getstatic 15, 3) := by decide +kernel
theorem dX2_isUnder_29 : decode cX2_isUnder 29 = .ok (.iload_n 2, 1) := by decide +kernel
theorem dX2_isUnder_30 : decode cX2_isUnder 30 = .ok (.iaload, 1) := by decide +kernel
theorem dX2_isUnder_31 : decode cX2_isUnder 31 = .ok (.istore_n 2, 1) := by decide +kernel
theorem dX2_isUnder_32 : decode cX2_isUnder 32 = .ok (.iinc 3 1, 3) := by decide +kernel
theorem dX2_isUnder_35 : decode cX2_isUnder 35 = .ok (.goto (-31), 3) := by decide +kernel
theorem dX2_isUnder_38 : decode cX2_isUnder 38 = .ok (.iconst 0, 1) := by decide +kernel
theorem dX2_isUnder_39 : decode cX2_isUnder 39 = .ok (.ireturn, 1) := by decide +kernel
theorem dX2_sightOf_0 : decode cX2_sightOf 0 = .ok (.iload_n 1, 1) := by decide +kernel
theorem dX2_sightOf_1 : decode cX2_sightOf 1 = .ok (.iconst 5, 1) := by decide +kernel
theorem dX2_sightOf_2 : decode cX2_sightOf 2 = .ok (.if_icmp .lt 7, 3) := by decide +kernel
theorem dX2_sightOf_5 : decode cX2_sightOf 5 = .ok (.iconst 4, 1) := by decide +kernel
theorem dX2_sightOf_6 : decode cX2_sightOf 6 = .ok (.goto 4, 3) := by decide +kernel
theorem dX2_sightOf_9 : decode cX2_sightOf 9 = .ok (.iconst 3, 1) := by decide +kernel
theorem dX2_sightOf_10 : decode cX2_sightOf 10 = .ok (.istore_n 3, 1) := by decide +kernel
theorem dX2_sightOf_11 : decode cX2_sightOf 11 = .ok (.iload_n 2, 1) := by decide +kernel
theorem dX2_sightOf_12 : decode cX2_sightOf 12 = .ok (.ifCond .eq 9, 3) := by decide +kernel
theorem dX2_sightOf_15 : decode cX2_sightOf 15 = .ok (.iload_n 3, 1) := by decide +kernel
theorem dX2_sightOf_16 : decode cX2_sightOf 16 = .ok (.iconst 1, 1) := by decide +kernel
theorem dX2_sightOf_17 : decode cX2_sightOf 17 = .ok (.isub, 1) := by decide +kernel
theorem dX2_sightOf_18 : decode cX2_sightOf 18 = .ok (.goto 4, 3) := by decide +kernel
theorem dX2_sightOf_21 : decode cX2_sightOf 21 = .ok (.iload_n 3, 1) := by decide +kernel
theorem dX2_sightOf_22 : decode cX2_sightOf 22 = .ok (.istore 4, 2) := by decide +kernel
theorem dX2_sightOf_24 : decode cX2_sightOf 24 = .ok (.iload_n 0, 1) := by decide +kernel
theorem dX2_sightOf_25 : decode cX2_sightOf 25 = .ok (.tableswitch 58 1 5 #[35, 58, 38, 43, 56], 35) := by decide +kernel
theorem dX2_sightOf_60 : decode cX2_sightOf 60 = .ok (.iload 4, 2) := by decide +kernel
theorem dX2_sightOf_62 : decode cX2_sightOf 62 = .ok (.ireturn, 1) := by decide +kernel
theorem dX2_sightOf_63 : decode cX2_sightOf 63 = .ok (.iload 4, 2) := by decide +kernel
theorem dX2_sightOf_65 : decode cX2_sightOf 65 = .ok (.iconst 1, 1) := by decide +kernel
theorem dX2_sightOf_66 : decode cX2_sightOf 66 = .ok (.isub, 1) := by decide +kernel
theorem dX2_sightOf_67 : decode cX2_sightOf 67 = .ok (.ireturn, 1) := by decide +kernel
theorem dX2_sightOf_68 : decode cX2_sightOf 68 = .ok (.iload_n 2, 1) := by decide +kernel
theorem dX2_sightOf_69 : decode cX2_sightOf 69 = .ok (.ifCond .eq 7, 3) := by decide +kernel
theorem dX2_sightOf_72 : decode cX2_sightOf 72 = .ok (.iload_n 3, 1) := by decide +kernel
theorem dX2_sightOf_73 : decode cX2_sightOf 73 = .ok (.goto 7, 3) := by decide +kernel
theorem dX2_sightOf_76 : decode cX2_sightOf 76 = .ok (.iload 4, 2) := by decide +kernel
theorem dX2_sightOf_78 : decode cX2_sightOf 78 = .ok (.iconst 1, 1) := by decide +kernel
theorem dX2_sightOf_79 : decode cX2_sightOf 79 = .ok (.isub, 1) := by decide +kernel
theorem dX2_sightOf_80 : decode cX2_sightOf 80 = .ok (.ireturn, 1) := by decide +kernel
theorem dX2_sightOf_81 : decode cX2_sightOf 81 = .ok (.iconst 1, 1) := by decide +kernel
theorem dX2_sightOf_82 : decode cX2_sightOf 82 = .ok (.ireturn, 1) := by decide +kernel
theorem dX2_sightOf_83 : decode cX2_sightOf 83 = .ok (.iconst 0, 1) := by decide +kernel
theorem dX2_sightOf_84 : decode cX2_sightOf 84 = .ok (.ireturn, 1) := by decide +kernel
theorem dX2_become_0 : decode cX2_become 0 = .ok (.aload_n 0, 1) := by decide +kernel
theorem dX2_become_1 : decode cX2_become 1 = .ok (.iload_n 1, 1) := by decide +kernel
theorem dX2_become_2 : decode cX2_become 2 = .ok (.putfield 22, 3) := by decide +kernel
theorem dX2_become_5 : decode cX2_become 5 = .ok (.aload_n 0, 1) := by decide +kernel
theorem dX2_become_6 : decode cX2_become 6 = .ok (.iload_n 2, 1) := by decide +kernel
theorem dX2_become_7 : decode cX2_become 7 = .ok (.putfield 26, 3) := by decide +kernel
theorem dX2_become_10 : decode cX2_become 10 = .ok (.aload_n 0, 1) := by decide +kernel
theorem dX2_become_11 : decode cX2_become 11 = .ok (.iload_n 3, 1) := by decide +kernel
theorem dX2_become_12 : decode cX2_become 12 = .ok (.putfield 29, 3) := by decide +kernel
theorem dX2_become_15 : decode cX2_become 15 = .ok (.aload_n 0, 1) := by decide +kernel
theorem dX2_become_16 : decode cX2_become 16 = .ok (.iload 4, 2) := by decide +kernel
theorem dX2_become_18 : decode cX2_become 18 = .ok (.putfield 32, 3) := by decide +kernel
theorem dX2_become_21 : decode cX2_become 21 = .ok (.aload_n 0, 1) := by decide +kernel
theorem dX2_become_22 : decode cX2_become 22 = .ok (.iload_n 1, 1) := by decide +kernel
theorem dX2_become_23 : decode cX2_become 23 = .ok (.invokestatic 18, 3) := by decide +kernel
theorem dX2_become_26 : decode cX2_become 26 = .ok (.ifCond .eq 11, 3) := by decide +kernel
theorem dX2_become_29 : decode cX2_become 29 = .ok (.getstatic 35, 3) := by decide +kernel
theorem dX2_become_32 : decode cX2_become 32 = .ok (.iload_n 1, 1) := by decide +kernel
theorem dX2_become_33 : decode cX2_become 33 = .ok (.iaload, 1) := by decide +kernel
theorem dX2_become_34 : decode cX2_become 34 = .ok (.goto 4, 3) := by decide +kernel
theorem dX2_become_37 : decode cX2_become 37 = .ok (.iconst 0, 1) := by decide +kernel
theorem dX2_become_38 : decode cX2_become 38 = .ok (.putfield 38, 3) := by decide +kernel
theorem dX2_become_41 : decode cX2_become 41 = .ok (.return_, 1) := by decide +kernel
theorem dX2_walkBy_0 : decode cX2_walkBy 0 = .ok (.aload_n 0, 1) := by decide +kernel
theorem dX2_walkBy_1 : decode cX2_walkBy 1 = .ok (.getfield 41, 3) := by decide +kernel
theorem dX2_walkBy_4 : decode cX2_walkBy 4 = .ok (.bipush 6, 2) := by decide +kernel
theorem dX2_walkBy_6 : decode cX2_walkBy 6 = .ok (.if_icmp .lt 6, 3) := by decide +kernel
theorem dX2_walkBy_9 : decode cX2_walkBy 9 = .ok (.bipush (-4), 2) := by decide +kernel
theorem dX2_walkBy_11 : decode cX2_walkBy 11 = .ok (.ireturn, 1) := by decide +kernel
theorem dX2_walkBy_12 : decode cX2_walkBy 12 = .ok (.aload_n 0, 1) := by decide +kernel
theorem dX2_walkBy_13 : decode cX2_walkBy 13 = .ok (.getfield 11, 3) := by decide +kernel
theorem dX2_walkBy_16 : decode cX2_walkBy 16 = .ok (.aload_n 0, 1) := by decide +kernel
theorem dX2_walkBy_17 : decode cX2_walkBy 17 = .ok (.dup, 1) := by decide +kernel
theorem dX2_walkBy_18 : decode cX2_walkBy 18 = .ok (.getfield 41, 3) := by decide +kernel
theorem dX2_walkBy_21 : decode cX2_walkBy 21 = .ok (.dup_x1, 1) := by decide +kernel
theorem dX2_walkBy_22 : decode cX2_walkBy 22 = .ok (.iconst 1, 1) := by decide +kernel
theorem dX2_walkBy_23 : decode cX2_walkBy 23 = .ok (.iadd, 1) := by decide +kernel
theorem dX2_walkBy_24 : decode cX2_walkBy 24 = .ok (.putfield 41, 3) := by decide +kernel
theorem dX2_walkBy_27 : decode cX2_walkBy 27 = .ok (.iload_n 1, 1) := by decide +kernel
theorem dX2_walkBy_28 : decode cX2_walkBy 28 = .ok (.iastore, 1) := by decide +kernel
theorem dX2_walkBy_29 : decode cX2_walkBy 29 = .ok (.aload_n 0, 1) := by decide +kernel
theorem dX2_walkBy_30 : decode cX2_walkBy 30 = .ok (.getfield 41, 3) := by decide +kernel
theorem dX2_walkBy_33 : decode cX2_walkBy 33 = .ok (.ireturn, 1) := by decide +kernel
theorem dX2_cellIn_0 : decode cX2_cellIn 0 = .ok (.aload_n 0, 1) := by decide +kernel
theorem dX2_cellIn_1 : decode cX2_cellIn 1 = .ok (.getfield 41, 3) := by decide +kernel
theorem dX2_cellIn_4 : decode cX2_cellIn 4 = .ok (.ifCond .le 17, 3) := by decide +kernel
theorem dX2_cellIn_7 : decode cX2_cellIn 7 = .ok (.aload_n 0, 1) := by decide +kernel
theorem dX2_cellIn_8 : decode cX2_cellIn 8 = .ok (.getfield 11, 3) := by decide +kernel
theorem dX2_cellIn_11 : decode cX2_cellIn 11 = .ok (.iload_n 1, 1) := by decide +kernel
theorem dX2_cellIn_12 : decode cX2_cellIn 12 = .ok (.aload_n 0, 1) := by decide +kernel
theorem dX2_cellIn_13 : decode cX2_cellIn 13 = .ok (.getfield 41, 3) := by decide +kernel
theorem dX2_cellIn_16 : decode cX2_cellIn 16 = .ok (.irem, 1) := by decide +kernel
theorem dX2_cellIn_17 : decode cX2_cellIn 17 = .ok (.iaload, 1) := by decide +kernel
theorem dX2_cellIn_18 : decode cX2_cellIn 18 = .ok (.goto 7, 3) := by decide +kernel
theorem dX2_cellIn_21 : decode cX2_cellIn 21 = .ok (.aload_n 0, 1) := by decide +kernel
theorem dX2_cellIn_22 : decode cX2_cellIn 22 = .ok (.getfield 29, 3) := by decide +kernel
theorem dX2_cellIn_25 : decode cX2_cellIn 25 = .ok (.ireturn, 1) := by decide +kernel
theorem dX3_init_0 : decode cX3_init 0 = .ok (.aload_n 0, 1) := by decide +kernel
theorem dX3_init_1 : decode cX3_init 1 = .ok (.invokespecial 3, 3) := by decide +kernel
theorem dX3_init_4 : decode cX3_init 4 = .ok (.aload_n 0, 1) := by decide +kernel
theorem dX3_init_5 : decode cX3_init 5 = .ok (.bipush 16, 2) := by decide +kernel
theorem dX3_init_7 : decode cX3_init 7 = .ok (.anewarray 11, 3) := by decide +kernel
theorem dX3_init_10 : decode cX3_init 10 = .ok (.putfield 13, 3) := by decide +kernel
theorem dX3_init_13 : decode cX3_init 13 = .ok (.aload_n 0, 1) := by decide +kernel
theorem dX3_init_14 : decode cX3_init 14 = .ok (.aload_n 1, 1) := by decide +kernel
theorem dX3_init_15 : decode cX3_init 15 = .ok (.putfield 17, 3) := by decide +kernel
theorem dX3_init_18 : decode cX3_init 18 = .ok (.iconst 0, 1) := by decide +kernel
theorem dX3_init_19 : decode cX3_init 19 = .ok (.istore_n 2, 1) := by decide +kernel
theorem dX3_init_20 : decode cX3_init 20 = .ok (.iload_n 2, 1) := by decide +kernel
theorem dX3_init_21 : decode cX3_init 21 = .ok (.bipush 16, 2) := by decide +kernel
theorem dX3_init_23 : decode cX3_init 23 = .ok (.if_icmp .ge 22, 3) := by decide +kernel
theorem dX3_init_26 : decode cX3_init 26 = .ok (.aload_n 0, 1) := by decide +kernel
theorem dX3_init_27 : decode cX3_init 27 = .ok (.getfield 13, 3) := by decide +kernel
theorem dX3_init_30 : decode cX3_init 30 = .ok (.iload_n 2, 1) := by decide +kernel
theorem dX3_init_31 : decode cX3_init 31 = .ok (.new 11, 3) := by decide +kernel
theorem dX3_init_34 : decode cX3_init 34 = .ok (.dup, 1) := by decide +kernel
theorem dX3_init_35 : decode cX3_init 35 = .ok (.invokespecial 21, 3) := by decide +kernel
theorem dX3_init_38 : decode cX3_init 38 = .ok (.aastore, 1) := by decide +kernel
theorem dX3_init_39 : decode cX3_init 39 = .ok (.iinc 2 1, 3) := by decide +kernel
theorem dX3_init_42 : decode cX3_init 42 = .ok (.goto (-22), 3) := by decide +kernel
theorem dX3_init_45 : decode cX3_init 45 = .ok (.return_, 1) := by decide +kernel
theorem dX3_add_0 : decode cX3_add 0 = .ok (.aload_n 0, 1) := by decide +kernel
theorem dX3_add_1 : decode cX3_add 1 = .ok (.getfield 22, 3) := by decide +kernel
theorem dX3_add_4 : decode cX3_add 4 = .ok (.bipush 16, 2) := by decide +kernel
theorem dX3_add_6 : decode cX3_add 6 = .ok (.if_icmp .lt 6, 3) := by decide +kernel
theorem dX3_add_9 : decode cX3_add 9 = .ok (.bipush (-4), 2) := by decide +kernel
theorem dX3_add_11 : decode cX3_add 11 = .ok (.ireturn, 1) := by decide +kernel
theorem dX3_add_12 : decode cX3_add 12 = .ok (.aload_n 0, 1) := by decide +kernel
theorem dX3_add_13 : decode cX3_add 13 = .ok (.getfield 13, 3) := by decide +kernel
theorem dX3_add_16 : decode cX3_add 16 = .ok (.aload_n 0, 1) := by decide +kernel
theorem dX3_add_17 : decode cX3_add 17 = .ok (.getfield 22, 3) := by decide +kernel
theorem dX3_add_20 : decode cX3_add 20 = .ok (.aaload, 1) := by decide +kernel
theorem dX3_add_21 : decode cX3_add 21 = .ok (.iload_n 1, 1) := by decide +kernel
theorem dX3_add_22 : decode cX3_add 22 = .ok (.iload_n 2, 1) := by decide +kernel
theorem dX3_add_23 : decode cX3_add 23 = .ok (.iload_n 3, 1) := by decide +kernel
theorem dX3_add_24 : decode cX3_add 24 = .ok (.iload 4, 2) := by decide +kernel
theorem dX3_add_26 : decode cX3_add 26 = .ok (.invokevirtual 26, 3) := by decide +kernel
theorem dX3_add_29 : decode cX3_add 29 = .ok (.aload_n 0, 1) := by decide +kernel
theorem dX3_add_30 : decode cX3_add 30 = .ok (.dup, 1) := by decide +kernel
theorem dX3_add_31 : decode cX3_add 31 = .ok (.getfield 22, 3) := by decide +kernel
theorem dX3_add_34 : decode cX3_add 34 = .ok (.dup_x1, 1) := by decide +kernel
theorem dX3_add_35 : decode cX3_add 35 = .ok (.iconst 1, 1) := by decide +kernel
theorem dX3_add_36 : decode cX3_add 36 = .ok (.iadd, 1) := by decide +kernel
theorem dX3_add_37 : decode cX3_add 37 = .ok (.putfield 22, 3) := by decide +kernel
theorem dX3_add_40 : decode cX3_add 40 = .ok (.ireturn, 1) := by decide +kernel
theorem dX3_has_0 : decode cX3_has 0 = .ok (.iload_n 1, 1) := by decide +kernel
theorem dX3_has_1 : decode cX3_has 1 = .ok (.iconst 0, 1) := by decide +kernel
theorem dX3_has_2 : decode cX3_has 2 = .ok (.aload_n 0, 1) := by decide +kernel
theorem dX3_has_3 : decode cX3_has 3 = .ok (.getfield 22, 3) := by decide +kernel
theorem dX3_has_6 : decode cX3_has 6 = .ok (.iconst 1, 1) := by decide +kernel
theorem dX3_has_7 : decode cX3_has 7 = .ok (.isub, 1) := by decide +kernel
theorem dX3_has_8 : decode cX3_has 8 = .ok (.invokestatic 30, 3) := by decide +kernel
theorem dX3_has_11 : decode cX3_has 11 = .ok (.ireturn, 1) := by decide +kernel
theorem dX3_isOfArmy_0 : decode cX3_isOfArmy 0 = .ok (.aload_n 0, 1) := by decide +kernel
theorem dX3_isOfArmy_1 : decode cX3_isOfArmy 1 = .ok (.iload_n 1, 1) := by decide +kernel
theorem dX3_isOfArmy_2 : decode cX3_isOfArmy 2 = .ok (.invokevirtual 34, 3) := by decide +kernel
theorem dX3_isOfArmy_5 : decode cX3_isOfArmy 5 = .ok (.ifCond .eq 22, 3) := by decide +kernel
theorem dX3_isOfArmy_8 : decode cX3_isOfArmy 8 = .ok (.aload_n 0, 1) := by decide +kernel
theorem dX3_isOfArmy_9 : decode cX3_isOfArmy 9 = .ok (.getfield 13, 3) := by decide +kernel
theorem dX3_isOfArmy_12 : decode cX3_isOfArmy 12 = .ok (.iload_n 1, 1) := by decide +kernel
theorem dX3_isOfArmy_13 : decode cX3_isOfArmy 13 = .ok (.aaload, 1) := by decide +kernel
theorem dX3_isOfArmy_14 : decode cX3_isOfArmy 14 = .ok (.getfield 38, 3) := by decide +kernel
theorem dX3_isOfArmy_17 : decode cX3_isOfArmy 17 = .ok (.invokestatic 41, 3) := by decide +kernel
theorem dX3_isOfArmy_20 : decode cX3_isOfArmy 20 = .ok (.ifCond .eq 7, 3) := by decide +kernel
theorem dX3_isOfArmy_23 : decode cX3_isOfArmy 23 = .ok (.iconst 1, 1) := by decide +kernel
theorem dX3_isOfArmy_24 : decode cX3_isOfArmy 24 = .ok (.goto 4, 3) := by decide +kernel
theorem dX3_isOfArmy_27 : decode cX3_isOfArmy 27 = .ok (.iconst 0, 1) := by decide +kernel
theorem dX3_isOfArmy_28 : decode cX3_isOfArmy 28 = .ok (.ireturn, 1) := by decide +kernel
theorem dX3_allHeld_0 : decode cX3_allHeld 0 = .ok (.iconst 0, 1) := by decide +kernel
theorem dX3_allHeld_1 : decode cX3_allHeld 1 = .ok (.istore_n 1, 1) := by decide +kernel
theorem dX3_allHeld_2 : decode cX3_allHeld 2 = .ok (.iconst 0, 1) := by decide +kernel
theorem dX3_allHeld_3 : decode cX3_allHeld 3 = .ok (.istore_n 2, 1) := by decide +kernel
theorem dX3_allHeld_4 : decode cX3_allHeld 4 = .ok (.iload_n 2, 1) := by decide +kernel
theorem dX3_allHeld_5 : decode cX3_allHeld 5 = .ok (.aload_n 0, 1) := by decide +kernel
theorem dX3_allHeld_6 : decode cX3_allHeld 6 = .ok (.getfield 22, 3) := by decide +kernel
theorem dX3_allHeld_9 : decode cX3_allHeld 9 = .ok (.if_icmp .ge 26, 3) := by decide +kernel
theorem dX3_allHeld_12 : decode cX3_allHeld 12 = .ok (.iload_n 1, 1) := by decide +kernel
theorem dX3_allHeld_13 : decode cX3_allHeld 13 = .ok (.aload_n 0, 1) := by decide +kernel
theorem dX3_allHeld_14 : decode cX3_allHeld 14 = .ok (.getfield 13, 3) := by decide +kernel
theorem dX3_allHeld_17 : decode cX3_allHeld 17 = .ok (.iload_n 2, 1) := by decide +kernel
theorem dX3_allHeld_18 : decode cX3_allHeld 18 = .ok (.aaload, 1) := by decide +kernel
theorem dX3_allHeld_19 : decode cX3_allHeld 19 = .ok (.getfield 44, 3) := by decide +kernel
theorem dX3_allHeld_22 : decode cX3_allHeld 22 = .ok (.invokestatic 48, 3) := by decide +kernel
theorem dX3_allHeld_25 : decode cX3_allHeld 25 = .ok (.iload_n 2, 1) := by decide +kernel
theorem dX3_allHeld_26 : decode cX3_allHeld 26 = .ok (.ishl, 1) := by decide +kernel
theorem dX3_allHeld_27 : decode cX3_allHeld 27 = .ok (.ior, 1) := by decide +kernel
theorem dX3_allHeld_28 : decode cX3_allHeld 28 = .ok (.istore_n 1, 1) := by decide +kernel
theorem dX3_allHeld_29 : decode cX3_allHeld 29 = .ok (.iinc 2 1, 3) := by decide +kernel
theorem dX3_allHeld_32 : decode cX3_allHeld 32 = .ok (.goto (-28), 3) := by decide +kernel
theorem dX3_allHeld_35 : decode cX3_allHeld 35 = .ok (.iload_n 1, 1) := by decide +kernel
theorem dX3_allHeld_36 : decode cX3_allHeld 36 = .ok (.ireturn, 1) := by decide +kernel
theorem dX3_sightIn_0 : decode cX3_sightIn 0 = .ok (.aload_n 0, 1) := by decide +kernel
theorem dX3_sightIn_1 : decode cX3_sightIn 1 = .ok (.getfield 17, 3) := by decide +kernel
theorem dX3_sightIn_4 : decode cX3_sightIn 4 = .ok (.aload_n 0, 1) := by decide +kernel
theorem dX3_sightIn_5 : decode cX3_sightIn 5 = .ok (.getfield 13, 3) := by decide +kernel
theorem dX3_sightIn_8 : decode cX3_sightIn 8 = .ok (.iload_n 1, 1) := by decide +kernel
theorem dX3_sightIn_9 : decode cX3_sightIn 9 = .ok (.aaload, 1) := by decide +kernel
theorem dX3_sightIn_10 : decode cX3_sightIn 10 = .ok (.iload_n 2, 1) := by decide +kernel
theorem dX3_sightIn_11 : decode cX3_sightIn 11 = .ok (.invokevirtual 52, 3) := by decide +kernel
theorem dX3_sightIn_14 : decode cX3_sightIn 14 = .ok (.aload_n 0, 1) := by decide +kernel
theorem dX3_sightIn_15 : decode cX3_sightIn 15 = .ok (.getfield 13, 3) := by decide +kernel
theorem dX3_sightIn_18 : decode cX3_sightIn 18 = .ok (.iload_n 1, 1) := by decide +kernel
theorem dX3_sightIn_19 : decode cX3_sightIn 19 = .ok (.aaload, 1) := by decide +kernel
theorem dX3_sightIn_20 : decode cX3_sightIn 20 = .ok (.getfield 56, 3) := by decide +kernel
theorem dX3_sightIn_23 : decode cX3_sightIn 23 = .ok (.iload_n 2, 1) := by decide +kernel
theorem dX3_sightIn_24 : decode cX3_sightIn 24 = .ok (.invokevirtual 59, 3) := by decide +kernel
theorem dX3_sightIn_27 : decode cX3_sightIn 27 = .ok (.ireturn, 1) := by decide +kernel
theorem dX3_canSee_0 : decode cX3_canSee 0 = .ok (.aload_n 0, 1) := by decide +kernel
theorem dX3_canSee_1 : decode cX3_canSee 1 = .ok (.getfield 13, 3) := by decide +kernel
theorem dX3_canSee_4 : decode cX3_canSee 4 = .ok (.iload_n 1, 1) := by decide +kernel
theorem dX3_canSee_5 : decode cX3_canSee 5 = .ok (.aaload, 1) := by decide +kernel
theorem dX3_canSee_6 : decode cX3_canSee 6 = .ok (.iload_n 3, 1) := by decide +kernel
theorem dX3_canSee_7 : decode cX3_canSee 7 = .ok (.invokevirtual 52, 3) := by decide +kernel
theorem dX3_canSee_10 : decode cX3_canSee 10 = .ok (.istore 4, 2) := by decide +kernel
theorem dX3_canSee_12 : decode cX3_canSee 12 = .ok (.aload_n 0, 1) := by decide +kernel
theorem dX3_canSee_13 : decode cX3_canSee 13 = .ok (.getfield 17, 3) := by decide +kernel
theorem dX3_canSee_16 : decode cX3_canSee 16 = .ok (.iload 4, 2) := by decide +kernel
theorem dX3_canSee_18 : decode cX3_canSee 18 = .ok (.iload_n 2, 1) := by decide +kernel
theorem dX3_canSee_19 : decode cX3_canSee 19 = .ok (.aload_n 0, 1) := by decide +kernel
theorem dX3_canSee_20 : decode cX3_canSee 20 = .ok (.getfield 17, 3) := by decide +kernel
theorem dX3_canSee_23 : decode cX3_canSee 23 = .ok (.iload 4, 2) := by decide +kernel
theorem dX3_canSee_25 : decode cX3_canSee 25 = .ok (.aload_n 0, 1) := by decide +kernel
theorem dX3_canSee_26 : decode cX3_canSee 26 = .ok (.getfield 13, 3) := by decide +kernel
theorem dX3_canSee_29 : decode cX3_canSee 29 = .ok (.iload_n 1, 1) := by decide +kernel
theorem dX3_canSee_30 : decode cX3_canSee 30 = .ok (.aaload, 1) := by decide +kernel
theorem dX3_canSee_31 : decode cX3_canSee 31 = .ok (.getfield 56, 3) := by decide +kernel
theorem dX3_canSee_34 : decode cX3_canSee 34 = .ok (.iload_n 3, 1) := by decide +kernel
theorem dX3_canSee_35 : decode cX3_canSee 35 = .ok (.invokevirtual 59, 3) := by decide +kernel
theorem dX3_canSee_38 : decode cX3_canSee 38 = .ok (.invokevirtual 65, 3) := by decide +kernel
theorem dX3_canSee_41 : decode cX3_canSee 41 = .ok (.ireturn, 1) := by decide +kernel
theorem dX3_seenBy_0 : decode cX3_seenBy 0 = .ok (.aload_n 0, 1) := by decide +kernel
theorem dX3_seenBy_1 : decode cX3_seenBy 1 = .ok (.getfield 13, 3) := by decide +kernel
theorem dX3_seenBy_4 : decode cX3_seenBy 4 = .ok (.iload_n 1, 1) := by decide +kernel
theorem dX3_seenBy_5 : decode cX3_seenBy 5 = .ok (.aaload, 1) := by decide +kernel
theorem dX3_seenBy_6 : decode cX3_seenBy 6 = .ok (.getfield 68, 3) := by decide +kernel
theorem dX3_seenBy_9 : decode cX3_seenBy 9 = .ok (.ifCond .eq 5, 3) := by decide +kernel
theorem dX3_seenBy_12 : decode cX3_seenBy 12 = .ok (.lconst 0, 1) := by decide +kernel
theorem dX3_seenBy_13 : decode cX3_seenBy 13 = .ok (.lreturn, 1) := by decide +kernel
theorem dX3_seenBy_14 : decode cX3_seenBy 14 = .ok (.aload_n 0, 1) := by decide +kernel
theorem dX3_seenBy_15 : decode cX3_seenBy 15 = .ok (.getfield 17, 3) := by decide +kernel
theorem dX3_seenBy_18 : decode cX3_seenBy 18 = .ok (.aload_n 0, 1) := by decide +kernel
theorem dX3_seenBy_19 : decode cX3_seenBy 19 = .ok (.getfield 13, 3) := by decide +kernel
theorem dX3_seenBy_22 : decode cX3_seenBy 22 = .ok (.iload_n 1, 1) := by decide +kernel
theorem dX3_seenBy_23 : decode cX3_seenBy 23 = .ok (.aaload, 1) := by decide +kernel
theorem dX3_seenBy_24 : decode cX3_seenBy 24 = .ok (.iload_n 2, 1) := by decide +kernel
theorem dX3_seenBy_25 : decode cX3_seenBy 25 = .ok (.invokevirtual 52, 3) := by decide +kernel
theorem dX3_seenBy_28 : decode cX3_seenBy 28 = .ok (.aload_n 0, 1) := by decide +kernel
theorem dX3_seenBy_29 : decode cX3_seenBy 29 = .ok (.iload_n 1, 1) := by decide +kernel
theorem dX3_seenBy_30 : decode cX3_seenBy 30 = .ok (.iload_n 2, 1) := by decide +kernel
theorem dX3_seenBy_31 : decode cX3_seenBy 31 = .ok (.invokevirtual 71, 3) := by decide +kernel
theorem dX3_seenBy_34 : decode cX3_seenBy 34 = .ok (.invokevirtual 75, 3) := by decide +kernel
theorem dX3_seenBy_37 : decode cX3_seenBy 37 = .ok (.lreturn, 1) := by decide +kernel
theorem dX3_seenBySide_0 : decode cX3_seenBySide 0 = .ok (.lconst 0, 1) := by decide +kernel
theorem dX3_seenBySide_1 : decode cX3_seenBySide 1 = .ok (.lstore_n 3, 1) := by decide +kernel
theorem dX3_seenBySide_2 : decode cX3_seenBySide 2 = .ok (.iconst 0, 1) := by decide +kernel
theorem dX3_seenBySide_3 : decode cX3_seenBySide 3 = .ok (.istore 5, 2) := by decide +kernel
theorem dX3_seenBySide_5 : decode cX3_seenBySide 5 = .ok (.iload 5, 2) := by decide +kernel
theorem dX3_seenBySide_7 : decode cX3_seenBySide 7 = .ok (.aload_n 0, 1) := by decide +kernel
theorem dX3_seenBySide_8 : decode cX3_seenBySide 8 = .ok (.getfield 22, 3) := by decide +kernel
theorem dX3_seenBySide_11 : decode cX3_seenBySide 11 = .ok (.if_icmp .ge 33, 3) := by decide +kernel
theorem dX3_seenBySide_14 : decode cX3_seenBySide 14 = .ok (.aload_n 0, 1) := by decide +kernel
theorem dX3_seenBySide_15 : decode cX3_seenBySide 15 = .ok (.getfield 13, 3) := by decide +kernel
theorem dX3_seenBySide_18 : decode cX3_seenBySide 18 = .ok (.iload 5, 2) := by decide +kernel
theorem dX3_seenBySide_20 : decode cX3_seenBySide 20 = .ok (.aaload, 1) := by decide +kernel
theorem dX3_seenBySide_21 : decode cX3_seenBySide 21 = .ok (.getfield 38, 3) := by decide +kernel
theorem dX3_seenBySide_24 : decode cX3_seenBySide 24 = .ok (.iload_n 1, 1) := by decide +kernel
theorem dX3_seenBySide_25 : decode cX3_seenBySide 25 = .ok (.if_icmp .ne 13, 3) := by decide +kernel
theorem dX3_seenBySide_28 : decode cX3_seenBySide 28 = .ok (.lload_n 3, 1) := by decide +kernel
theorem dX3_seenBySide_29 : decode cX3_seenBySide 29 = .ok (.aload_n 0, 1) := by decide +kernel
theorem dX3_seenBySide_30 : decode cX3_seenBySide 30 = .ok (.iload 5, 2) := by decide +kernel
theorem dX3_seenBySide_32 : decode cX3_seenBySide 32 = .ok (.iload_n 2, 1) := by decide +kernel
theorem dX3_seenBySide_33 : decode cX3_seenBySide 33 = .ok (.invokevirtual 79, 3) := by decide +kernel
theorem dX3_seenBySide_36 : decode cX3_seenBySide 36 = .ok (.lor, 1) := by decide +kernel
theorem dX3_seenBySide_37 : decode cX3_seenBySide 37 = .ok (.lstore_n 3, 1) := by decide +kernel
theorem dX3_seenBySide_38 : decode cX3_seenBySide 38 = .ok (.iinc 5 1, 3) := by decide +kernel
theorem dX3_seenBySide_41 : decode cX3_seenBySide 41 = .ok (.goto (-36), 3) := by decide +kernel
theorem dX3_seenBySide_44 : decode cX3_seenBySide 44 = .ok (.lload_n 3, 1) := by decide +kernel
theorem dX3_seenBySide_45 : decode cX3_seenBySide 45 = .ok (.lreturn, 1) := by decide +kernel
theorem dX3_canHear_0 : decode cX3_canHear 0 = .ok (.aload_n 0, 1) := by decide +kernel
theorem dX3_canHear_1 : decode cX3_canHear 1 = .ok (.getfield 13, 3) := by decide +kernel
theorem dX3_canHear_4 : decode cX3_canHear 4 = .ok (.iload_n 1, 1) := by decide +kernel
theorem dX3_canHear_5 : decode cX3_canHear 5 = .ok (.aaload, 1) := by decide +kernel
theorem dX3_canHear_6 : decode cX3_canHear 6 = .ok (.iload_n 2, 1) := by decide +kernel
theorem dX3_canHear_7 : decode cX3_canHear 7 = .ok (.invokevirtual 52, 3) := by decide +kernel
theorem dX3_canHear_10 : decode cX3_canHear 10 = .ok (.iload_n 3, 1) := by decide +kernel
theorem dX3_canHear_11 : decode cX3_canHear 11 = .ok (.invokestatic 82, 3) := by decide +kernel
theorem dX3_canHear_14 : decode cX3_canHear 14 = .ok (.aload_n 0, 1) := by decide +kernel
theorem dX3_canHear_15 : decode cX3_canHear 15 = .ok (.getfield 13, 3) := by decide +kernel
theorem dX3_canHear_18 : decode cX3_canHear 18 = .ok (.iload_n 1, 1) := by decide +kernel
theorem dX3_canHear_19 : decode cX3_canHear 19 = .ok (.aaload, 1) := by decide +kernel
theorem dX3_canHear_20 : decode cX3_canHear 20 = .ok (.getfield 85, 3) := by decide +kernel
theorem dX3_canHear_23 : decode cX3_canHear 23 = .ok (.iload 4, 2) := by decide +kernel
theorem dX3_canHear_25 : decode cX3_canHear 25 = .ok (.iadd, 1) := by decide +kernel
theorem dX3_canHear_26 : decode cX3_canHear 26 = .ok (.if_icmp .gt 7, 3) := by decide +kernel
theorem dX3_canHear_29 : decode cX3_canHear 29 = .ok (.iconst 1, 1) := by decide +kernel
theorem dX3_canHear_30 : decode cX3_canHear 30 = .ok (.goto 4, 3) := by decide +kernel
theorem dX3_canHear_33 : decode cX3_canHear 33 = .ok (.iconst 0, 1) := by decide +kernel
theorem dX3_canHear_34 : decode cX3_canHear 34 = .ok (.ireturn, 1) := by decide +kernel
theorem dX4_init_0 : decode cX4_init 0 = .ok (.aload_n 0, 1) := by decide +kernel
theorem dX4_init_1 : decode cX4_init 1 = .ok (.invokespecial 3, 3) := by decide +kernel
theorem dX4_init_4 : decode cX4_init 4 = .ok (.aload_n 0, 1) := by decide +kernel
theorem dX4_init_5 : decode cX4_init 5 = .ok (.bipush 20, 2) := by decide +kernel
theorem dX4_init_7 : decode cX4_init 7 = .ok (.newarray .int, 2) := by decide +kernel
theorem dX4_init_9 : decode cX4_init 9 = .ok (.putfield 11, 3) := by decide +kernel
theorem dX4_init_12 : decode cX4_init 12 = .ok (.aload_n 0, 1) := by decide +kernel
theorem dX4_init_13 : decode cX4_init 13 = .ok (.iconst 2, 1) := by decide +kernel
theorem dX4_init_14 : decode cX4_init 14 = .ok (.newarray .long, 2) := by decide +kernel
theorem dX4_init_16 : decode cX4_init 16 = .ok (.putfield 15, 3) := by decide +kernel
theorem dX4_init_19 : decode cX4_init 19 = .ok (.aload_n 0, 1) := by decide +kernel
theorem dX4_init_20 : decode cX4_init 20 = .ok (.bipush 12, 2) := by decide +kernel
theorem dX4_init_22 : decode cX4_init 22 = .ok (.newarray .int, 2) := by decide +kernel
theorem dX4_init_24 : decode cX4_init 24 = .ok (.putfield 19, 3) := by decide +kernel
theorem dX4_init_27 : decode cX4_init 27 = .ok (.aload_n 0, 1) := by decide +kernel
theorem dX4_init_28 : decode cX4_init 28 = .ok (.bipush 12, 2) := by decide +kernel
theorem dX4_init_30 : decode cX4_init 30 = .ok (.newarray .int, 2) := by decide +kernel
theorem dX4_init_32 : decode cX4_init 32 = .ok (.putfield 22, 3) := by decide +kernel
theorem dX4_init_35 : decode cX4_init 35 = .ok (.aload_n 0, 1) := by decide +kernel
theorem dX4_init_36 : decode cX4_init 36 = .ok (.bipush 12, 2) := by decide +kernel
theorem dX4_init_38 : decode cX4_init 38 = .ok (.newarray .int, 2) := by decide +kernel
theorem dX4_init_40 : decode cX4_init 40 = .ok (.putfield 25, 3) := by decide +kernel
theorem dX4_init_43 : decode cX4_init 43 = .ok (.aload_n 0, 1) := by decide +kernel
theorem dX4_init_44 : decode cX4_init 44 = .ok (.bipush 12, 2) := by decide +kernel
theorem dX4_init_46 : decode cX4_init 46 = .ok (.newarray .int, 2) := by decide +kernel
theorem dX4_init_48 : decode cX4_init 48 = .ok (.putfield 28, 3) := by decide +kernel
theorem dX4_init_51 : decode cX4_init 51 = .ok (.aload_n 0, 1) := by decide +kernel
theorem dX4_init_52 : decode cX4_init 52 = .ok (.bipush 12, 2) := by decide +kernel
theorem dX4_init_54 : decode cX4_init 54 = .ok (.newarray .int, 2) := by decide +kernel
theorem dX4_init_56 : decode cX4_init 56 = .ok (.putfield 31, 3) := by decide +kernel
theorem dX4_init_59 : decode cX4_init 59 = .ok (.aload_n 0, 1) := by decide +kernel
theorem dX4_init_60 : decode cX4_init 60 = .ok (.bipush 20, 2) := by decide +kernel
theorem dX4_init_62 : decode cX4_init 62 = .ok (.newarray .int, 2) := by decide +kernel
theorem dX4_init_64 : decode cX4_init 64 = .ok (.putfield 34, 3) := by decide +kernel
theorem dX4_init_67 : decode cX4_init 67 = .ok (.aload_n 0, 1) := by decide +kernel
theorem dX4_init_68 : decode cX4_init 68 = .ok (.bipush 20, 2) := by decide +kernel
theorem dX4_init_70 : decode cX4_init 70 = .ok (.newarray .int, 2) := by decide +kernel
theorem dX4_init_72 : decode cX4_init 72 = .ok (.putfield 37, 3) := by decide +kernel
theorem dX4_init_75 : decode cX4_init 75 = .ok (.aload_n 0, 1) := by decide +kernel
theorem dX4_init_76 : decode cX4_init 76 = .ok (.bipush 20, 2) := by decide +kernel
theorem dX4_init_78 : decode cX4_init 78 = .ok (.newarray .int, 2) := by decide +kernel
theorem dX4_init_80 : decode cX4_init 80 = .ok (.putfield 40, 3) := by decide +kernel
theorem dX4_init_83 : decode cX4_init 83 = .ok (.return_, 1) := by decide +kernel
theorem dX4_addPermit_0 : decode cX4_addPermit 0 = .ok (.aload_n 0, 1) := by decide +kernel
theorem dX4_addPermit_1 : decode cX4_addPermit 1 = .ok (.getfield 43, 3) := by decide +kernel
theorem dX4_addPermit_4 : decode cX4_addPermit 4 = .ok (.bipush 12, 2) := by decide +kernel
theorem dX4_addPermit_6 : decode cX4_addPermit 6 = .ok (.if_icmp .lt 6, 3) := by decide +kernel
theorem dX4_addPermit_9 : decode cX4_addPermit 9 = .ok (.bipush (-4), 2) := by decide +kernel
theorem dX4_addPermit_11 : decode cX4_addPermit 11 = .ok (.ireturn, 1) := by decide +kernel
theorem dX4_addPermit_12 : decode cX4_addPermit 12 = .ok (.aload_n 0, 1) := by decide +kernel
theorem dX4_addPermit_13 : decode cX4_addPermit 13 = .ok (.getfield 19, 3) := by decide +kernel
theorem dX4_addPermit_16 : decode cX4_addPermit 16 = .ok (.aload_n 0, 1) := by decide +kernel
theorem dX4_addPermit_17 : decode cX4_addPermit 17 = .ok (.getfield 43, 3) := by decide +kernel
theorem dX4_addPermit_20 : decode cX4_addPermit 20 = .ok (.iload_n 1, 1) := by decide +kernel
theorem dX4_addPermit_21 : decode cX4_addPermit 21 = .ok (.iastore, 1) := by decide +kernel
theorem dX4_addPermit_22 : decode cX4_addPermit 22 = .ok (.aload_n 0, 1) := by decide +kernel
theorem dX4_addPermit_23 : decode cX4_addPermit 23 = .ok (.getfield 22, 3) := by decide +kernel
theorem dX4_addPermit_26 : decode cX4_addPermit 26 = .ok (.aload_n 0, 1) := by decide +kernel
theorem dX4_addPermit_27 : decode cX4_addPermit 27 = .ok (.getfield 43, 3) := by decide +kernel
theorem dX4_addPermit_30 : decode cX4_addPermit 30 = .ok (.iload_n 2, 1) := by decide +kernel
theorem dX4_addPermit_31 : decode cX4_addPermit 31 = .ok (.iastore, 1) := by decide +kernel
theorem dX4_addPermit_32 : decode cX4_addPermit 32 = .ok (.aload_n 0, 1) := by decide +kernel
theorem dX4_addPermit_33 : decode cX4_addPermit 33 = .ok (.getfield 25, 3) := by decide +kernel
theorem dX4_addPermit_36 : decode cX4_addPermit 36 = .ok (.aload_n 0, 1) := by decide +kernel
theorem dX4_addPermit_37 : decode cX4_addPermit 37 = .ok (.getfield 43, 3) := by decide +kernel
theorem dX4_addPermit_40 : decode cX4_addPermit 40 = .ok (.iload_n 3, 1) := by decide +kernel
theorem dX4_addPermit_41 : decode cX4_addPermit 41 = .ok (.iastore, 1) := by decide +kernel
theorem dX4_addPermit_42 : decode cX4_addPermit 42 = .ok (.aload_n 0, 1) := by decide +kernel
theorem dX4_addPermit_43 : decode cX4_addPermit 43 = .ok (.getfield 28, 3) := by decide +kernel
theorem dX4_addPermit_46 : decode cX4_addPermit 46 = .ok (.aload_n 0, 1) := by decide +kernel
theorem dX4_addPermit_47 : decode cX4_addPermit 47 = .ok (.getfield 43, 3) := by decide +kernel
theorem dX4_addPermit_50 : decode cX4_addPermit 50 = .ok (.iload 4, 2) := by decide +kernel
theorem dX4_addPermit_52 : decode cX4_addPermit 52 = .ok (.iastore, 1) := by decide +kernel
theorem dX4_addPermit_53 : decode cX4_addPermit 53 = .ok (.aload_n 0, 1) := by decide +kernel
theorem dX4_addPermit_54 : decode cX4_addPermit 54 = .ok (.getfield 31, 3) := by decide +kernel
theorem dX4_addPermit_57 : decode cX4_addPermit 57 = .ok (.aload_n 0, 1) := by decide +kernel
theorem dX4_addPermit_58 : decode cX4_addPermit 58 = .ok (.getfield 43, 3) := by decide +kernel
theorem dX4_addPermit_61 : decode cX4_addPermit 61 = .ok (.iload 5, 2) := by decide +kernel
theorem dX4_addPermit_63 : decode cX4_addPermit 63 = .ok (.iastore, 1) := by decide +kernel
theorem dX4_addPermit_64 : decode cX4_addPermit 64 = .ok (.aload_n 0, 1) := by decide +kernel
theorem dX4_addPermit_65 : decode cX4_addPermit 65 = .ok (.dup, 1) := by decide +kernel
theorem dX4_addPermit_66 : decode cX4_addPermit 66 = .ok (.getfield 43, 3) := by decide +kernel
theorem dX4_addPermit_69 : decode cX4_addPermit 69 = .ok (.dup_x1, 1) := by decide +kernel
theorem dX4_addPermit_70 : decode cX4_addPermit 70 = .ok (.iconst 1, 1) := by decide +kernel
theorem dX4_addPermit_71 : decode cX4_addPermit 71 = .ok (.iadd, 1) := by decide +kernel
theorem dX4_addPermit_72 : decode cX4_addPermit 72 = .ok (.putfield 43, 3) := by decide +kernel
theorem dX4_addPermit_75 : decode cX4_addPermit 75 = .ok (.ireturn, 1) := by decide +kernel
theorem dX4_leastPermit_0 : decode cX4_leastPermit 0 = .ok (.iconst 0, 1) := by decide +kernel
theorem dX4_leastPermit_1 : decode cX4_leastPermit 1 = .ok (.istore 4, 2) := by decide +kernel
theorem dX4_leastPermit_3 : decode cX4_leastPermit 3 = .ok (.iload 4, 2) := by decide +kernel
theorem dX4_leastPermit_5 : decode cX4_leastPermit 5 = .ok (.aload_n 0, 1) := by decide +kernel
theorem dX4_leastPermit_6 : decode cX4_leastPermit 6 = .ok (.getfield 43, 3) := by decide +kernel
theorem dX4_leastPermit_9 : decode cX4_leastPermit 9 = .ok (.if_icmp .ge 91, 3) := by decide +kernel
theorem dX4_leastPermit_12 : decode cX4_leastPermit 12 = .ok (.iload_n 2, 1) := by decide +kernel
theorem dX4_leastPermit_13 : decode cX4_leastPermit 13 = .ok (.aload_n 0, 1) := by decide +kernel
theorem dX4_leastPermit_14 : decode cX4_leastPermit 14 = .ok (.getfield 22, 3) := by decide +kernel
theorem dX4_leastPermit_17 : decode cX4_leastPermit 17 = .ok (.iload 4, 2) := by decide +kernel
theorem dX4_leastPermit_19 : decode cX4_leastPermit 19 = .ok (.iaload, 1) := by decide +kernel
theorem dX4_leastPermit_20 : decode cX4_leastPermit 20 = .ok (.if_icmp .lt 18, 3) := by decide +kernel
theorem dX4_leastPermit_23 : decode cX4_leastPermit 23 = .ok (.iload_n 2, 1) := by decide +kernel
theorem dX4_leastPermit_24 : decode cX4_leastPermit 24 = .ok (.aload_n 0, 1) := by decide +kernel
theorem dX4_leastPermit_25 : decode cX4_leastPermit 25 = .ok (.getfield 25, 3) := by decide +kernel
theorem dX4_leastPermit_28 : decode cX4_leastPermit 28 = .ok (.iload 4, 2) := by decide +kernel
theorem dX4_leastPermit_30 : decode cX4_leastPermit 30 = .ok (.iaload, 1) := by decide +kernel
theorem dX4_leastPermit_31 : decode cX4_leastPermit 31 = .ok (.if_icmp .gt 7, 3) := by decide +kernel
theorem dX4_leastPermit_34 : decode cX4_leastPermit 34 = .ok (.iconst 1, 1) := by decide +kernel
theorem dX4_leastPermit_35 : decode cX4_leastPermit 35 = .ok (.goto 4, 3) := by decide +kernel
theorem dX4_leastPermit_38 : decode cX4_leastPermit 38 = .ok (.iconst 0, 1) := by decide +kernel
theorem dX4_leastPermit_39 : decode cX4_leastPermit 39 = .ok (.istore 5, 2) := by decide +kernel
theorem dX4_leastPermit_41 : decode cX4_leastPermit 41 = .ok (.iload_n 3, 1) := by decide +kernel
theorem dX4_leastPermit_42 : decode cX4_leastPermit 42 = .ok (.aload_n 0, 1) := by decide +kernel
theorem dX4_leastPermit_43 : decode cX4_leastPermit 43 = .ok (.getfield 28, 3) := by decide +kernel
theorem dX4_leastPermit_46 : decode cX4_leastPermit 46 = .ok (.iload 4, 2) := by decide +kernel
theorem dX4_leastPermit_48 : decode cX4_leastPermit 48 = .ok (.iaload, 1) := by decide +kernel
theorem dX4_leastPermit_49 : decode cX4_leastPermit 49 = .ok (.if_icmp .lt 18, 3) := by decide +kernel
theorem dX4_leastPermit_52 : decode cX4_leastPermit 52 = .ok (.iload_n 3, 1) := by decide +kernel
theorem dX4_leastPermit_53 : decode cX4_leastPermit 53 = .ok (.aload_n 0, 1) := by decide +kernel
theorem dX4_leastPermit_54 : decode cX4_leastPermit 54 = .ok (.getfield 31, 3) := by decide +kernel
theorem dX4_leastPermit_57 : decode cX4_leastPermit 57 = .ok (.iload 4, 2) := by decide +kernel
theorem dX4_leastPermit_59 : decode cX4_leastPermit 59 = .ok (.iaload, 1) := by decide +kernel
theorem dX4_leastPermit_60 : decode cX4_leastPermit 60 = .ok (.if_icmp .ge 7, 3) := by decide +kernel
theorem dX4_leastPermit_63 : decode cX4_leastPermit 63 = .ok (.iconst 1, 1) := by decide +kernel
theorem dX4_leastPermit_64 : decode cX4_leastPermit 64 = .ok (.goto 4, 3) := by decide +kernel
theorem dX4_leastPermit_67 : decode cX4_leastPermit 67 = .ok (.iconst 0, 1) := by decide +kernel
theorem dX4_leastPermit_68 : decode cX4_leastPermit 68 = .ok (.istore 6, 2) := by decide +kernel
theorem dX4_leastPermit_70 : decode cX4_leastPermit 70 = .ok (.aload_n 0, 1) := by decide +kernel
theorem dX4_leastPermit_71 : decode cX4_leastPermit 71 = .ok (.getfield 19, 3) := by decide +kernel
theorem dX4_leastPermit_74 : decode cX4_leastPermit 74 = .ok (.iload 4, 2) := by decide +kernel
theorem dX4_leastPermit_76 : decode cX4_leastPermit 76 = .ok (.iaload, 1) := by decide +kernel
theorem dX4_leastPermit_77 : decode cX4_leastPermit 77 = .ok (.iload_n 1, 1) := by decide +kernel
theorem dX4_leastPermit_78 : decode cX4_leastPermit 78 = .ok (.if_icmp .ne 16, 3) := by decide +kernel
theorem dX4_leastPermit_81 : decode cX4_leastPermit 81 = .ok (.iload 5, 2) := by decide +kernel
theorem dX4_leastPermit_83 : decode cX4_leastPermit 83 = .ok (.ifCond .eq 11, 3) := by decide +kernel
theorem dX4_leastPermit_86 : decode cX4_leastPermit 86 = .ok (.iload 6, 2) := by decide +kernel
theorem dX4_leastPermit_88 : decode cX4_leastPermit 88 = .ok (.ifCond .eq 6, 3) := by decide +kernel
theorem dX4_leastPermit_91 : decode cX4_leastPermit 91 = .ok (.iload 4, 2) := by decide +kernel
theorem dX4_leastPermit_93 : decode cX4_leastPermit 93 = .ok (.ireturn, 1) := by decide +kernel
theorem dX4_leastPermit_94 : decode cX4_leastPermit 94 = .ok (.iinc 4 1, 3) := by decide +kernel
theorem dX4_leastPermit_97 : decode cX4_leastPermit 97 = .ok (.goto (-94), 3) := by decide +kernel
theorem dX4_leastPermit_100 : decode cX4_leastPermit 100 = .ok (.iconst (-1), 1) := by decide +kernel
theorem dX4_leastPermit_101 : decode cX4_leastPermit 101 = .ok (.ireturn, 1) := by decide +kernel
theorem dX4_addProtest_0 : decode cX4_addProtest 0 = .ok (.aload_n 0, 1) := by decide +kernel
theorem dX4_addProtest_1 : decode cX4_addProtest 1 = .ok (.getfield 47, 3) := by decide +kernel
theorem dX4_addProtest_4 : decode cX4_addProtest 4 = .ok (.bipush 20, 2) := by decide +kernel
theorem dX4_addProtest_6 : decode cX4_addProtest 6 = .ok (.if_icmp .lt 6, 3) := by decide +kernel
theorem dX4_addProtest_9 : decode cX4_addProtest 9 = .ok (.bipush (-4), 2) := by decide +kernel
theorem dX4_addProtest_11 : decode cX4_addProtest 11 = .ok (.ireturn, 1) := by decide +kernel
theorem dX4_addProtest_12 : decode cX4_addProtest 12 = .ok (.aload_n 0, 1) := by decide +kernel
theorem dX4_addProtest_13 : decode cX4_addProtest 13 = .ok (.getfield 34, 3) := by decide +kernel
theorem dX4_addProtest_16 : decode cX4_addProtest 16 = .ok (.aload_n 0, 1) := by decide +kernel
theorem dX4_addProtest_17 : decode cX4_addProtest 17 = .ok (.getfield 47, 3) := by decide +kernel
theorem dX4_addProtest_20 : decode cX4_addProtest 20 = .ok (.iload_n 1, 1) := by decide +kernel
theorem dX4_addProtest_21 : decode cX4_addProtest 21 = .ok (.iastore, 1) := by decide +kernel
theorem dX4_addProtest_22 : decode cX4_addProtest 22 = .ok (.aload_n 0, 1) := by decide +kernel
theorem dX4_addProtest_23 : decode cX4_addProtest 23 = .ok (.getfield 11, 3) := by decide +kernel
theorem dX4_addProtest_26 : decode cX4_addProtest 26 = .ok (.aload_n 0, 1) := by decide +kernel
theorem dX4_addProtest_27 : decode cX4_addProtest 27 = .ok (.getfield 47, 3) := by decide +kernel
theorem dX4_addProtest_30 : decode cX4_addProtest 30 = .ok (.iload_n 2, 1) := by decide +kernel
theorem dX4_addProtest_31 : decode cX4_addProtest 31 = .ok (.iastore, 1) := by decide +kernel
theorem dX4_addProtest_32 : decode cX4_addProtest 32 = .ok (.aload_n 0, 1) := by decide +kernel
theorem dX4_addProtest_33 : decode cX4_addProtest 33 = .ok (.getfield 37, 3) := by decide +kernel
theorem dX4_addProtest_36 : decode cX4_addProtest 36 = .ok (.aload_n 0, 1) := by decide +kernel
theorem dX4_addProtest_37 : decode cX4_addProtest 37 = .ok (.getfield 47, 3) := by decide +kernel
theorem dX4_addProtest_40 : decode cX4_addProtest 40 = .ok (.iload_n 3, 1) := by decide +kernel
theorem dX4_addProtest_41 : decode cX4_addProtest 41 = .ok (.iastore, 1) := by decide +kernel
theorem dX4_addProtest_42 : decode cX4_addProtest 42 = .ok (.aload_n 0, 1) := by decide +kernel
theorem dX4_addProtest_43 : decode cX4_addProtest 43 = .ok (.getfield 40, 3) := by decide +kernel
theorem dX4_addProtest_46 : decode cX4_addProtest 46 = .ok (.aload_n 0, 1) := by decide +kernel
theorem dX4_addProtest_47 : decode cX4_addProtest 47 = .ok (.getfield 47, 3) := by decide +kernel
theorem dX4_addProtest_50 : decode cX4_addProtest 50 = .ok (.iconst (-1), 1) := by decide +kernel
theorem dX4_addProtest_51 : decode cX4_addProtest 51 = .ok (.iastore, 1) := by decide +kernel
theorem dX4_addProtest_52 : decode cX4_addProtest 52 = .ok (.aload_n 0, 1) := by decide +kernel
theorem dX4_addProtest_53 : decode cX4_addProtest 53 = .ok (.dup, 1) := by decide +kernel
theorem dX4_addProtest_54 : decode cX4_addProtest 54 = .ok (.getfield 47, 3) := by decide +kernel
theorem dX4_addProtest_57 : decode cX4_addProtest 57 = .ok (.dup_x1, 1) := by decide +kernel
theorem dX4_addProtest_58 : decode cX4_addProtest 58 = .ok (.iconst 1, 1) := by decide +kernel
theorem dX4_addProtest_59 : decode cX4_addProtest 59 = .ok (.iadd, 1) := by decide +kernel
theorem dX4_addProtest_60 : decode cX4_addProtest 60 = .ok (.putfield 47, 3) := by decide +kernel
theorem dX4_addProtest_63 : decode cX4_addProtest 63 = .ok (.ireturn, 1) := by decide +kernel
theorem dX4_hasProtest_0 : decode cX4_hasProtest 0 = .ok (.iload_n 1, 1) := by decide +kernel
theorem dX4_hasProtest_1 : decode cX4_hasProtest 1 = .ok (.iconst 0, 1) := by decide +kernel
theorem dX4_hasProtest_2 : decode cX4_hasProtest 2 = .ok (.aload_n 0, 1) := by decide +kernel
theorem dX4_hasProtest_3 : decode cX4_hasProtest 3 = .ok (.getfield 47, 3) := by decide +kernel
theorem dX4_hasProtest_6 : decode cX4_hasProtest 6 = .ok (.iconst 1, 1) := by decide +kernel
theorem dX4_hasProtest_7 : decode cX4_hasProtest 7 = .ok (.isub, 1) := by decide +kernel
theorem dX4_hasProtest_8 : decode cX4_hasProtest 8 = .ok (.invokestatic 50, 3) := by decide +kernel
theorem dX4_hasProtest_11 : decode cX4_hasProtest 11 = .ok (.ireturn, 1) := by decide +kernel
theorem dX4_answerProtest_0 : decode cX4_answerProtest 0 = .ok (.aload_n 0, 1) := by decide +kernel
theorem dX4_answerProtest_1 : decode cX4_answerProtest 1 = .ok (.getfield 40, 3) := by decide +kernel
theorem dX4_answerProtest_4 : decode cX4_answerProtest 4 = .ok (.iload_n 1, 1) := by decide +kernel
theorem dX4_answerProtest_5 : decode cX4_answerProtest 5 = .ok (.iaload, 1) := by decide +kernel
theorem dX4_answerProtest_6 : decode cX4_answerProtest 6 = .ok (.iconst (-1), 1) := by decide +kernel
theorem dX4_answerProtest_7 : decode cX4_answerProtest 7 = .ok (.if_icmp .eq 6, 3) := by decide +kernel
theorem dX4_answerProtest_10 : decode cX4_answerProtest 10 = .ok (.bipush (-3), 2) := by decide +kernel
theorem dX4_answerProtest_12 : decode cX4_answerProtest 12 = .ok (.ireturn, 1) := by decide +kernel
theorem dX4_answerProtest_13 : decode cX4_answerProtest 13 = .ok (.aload_n 0, 1) := by decide +kernel
theorem dX4_answerProtest_14 : decode cX4_answerProtest 14 = .ok (.getfield 40, 3) := by decide +kernel
theorem dX4_answerProtest_17 : decode cX4_answerProtest 17 = .ok (.iload_n 1, 1) := by decide +kernel
theorem dX4_answerProtest_18 : decode cX4_answerProtest 18 = .ok (.iload_n 2, 1) := by decide +kernel
theorem dX4_answerProtest_19 : decode cX4_answerProtest 19 = .ok (.iastore, 1) := by decide +kernel
theorem dX4_answerProtest_20 : decode cX4_answerProtest 20 = .ok (.iload_n 2, 1) := by decide +kernel
theorem dX4_answerProtest_21 : decode cX4_answerProtest 21 = .ok (.aload_n 0, 1) := by decide +kernel
theorem dX4_answerProtest_22 : decode cX4_answerProtest 22 = .ok (.getfield 11, 3) := by decide +kernel
theorem dX4_answerProtest_25 : decode cX4_answerProtest 25 = .ok (.iload_n 1, 1) := by decide +kernel
theorem dX4_answerProtest_26 : decode cX4_answerProtest 26 = .ok (.iaload, 1) := by decide +kernel
theorem dX4_answerProtest_27 : decode cX4_answerProtest 27 = .ok (.isub, 1) := by decide +kernel
theorem dX4_answerProtest_28 : decode cX4_answerProtest 28 = .ok (.ireturn, 1) := by decide +kernel
theorem dX4_allLate_0 : decode cX4_allLate 0 = .ok (.iconst 0, 1) := by decide +kernel
theorem dX4_allLate_1 : decode cX4_allLate 1 = .ok (.istore_n 2, 1) := by decide +kernel
theorem dX4_allLate_2 : decode cX4_allLate 2 = .ok (.iconst 0, 1) := by decide +kernel
theorem dX4_allLate_3 : decode cX4_allLate 3 = .ok (.istore_n 3, 1) := by decide +kernel
theorem dX4_allLate_4 : decode cX4_allLate 4 = .ok (.iload_n 3, 1) := by decide +kernel
theorem dX4_allLate_5 : decode cX4_allLate 5 = .ok (.aload_n 0, 1) := by decide +kernel
theorem dX4_allLate_6 : decode cX4_allLate 6 = .ok (.getfield 47, 3) := by decide +kernel
theorem dX4_allLate_9 : decode cX4_allLate 9 = .ok (.if_icmp .ge 60, 3) := by decide +kernel
theorem dX4_allLate_12 : decode cX4_allLate 12 = .ok (.aload_n 0, 1) := by decide +kernel
theorem dX4_allLate_13 : decode cX4_allLate 13 = .ok (.getfield 40, 3) := by decide +kernel
theorem dX4_allLate_16 : decode cX4_allLate 16 = .ok (.iload_n 3, 1) := by decide +kernel
theorem dX4_allLate_17 : decode cX4_allLate 17 = .ok (.iaload, 1) := by decide +kernel
theorem dX4_allLate_18 : decode cX4_allLate 18 = .ok (.iconst (-1), 1) := by decide +kernel
theorem dX4_allLate_19 : decode cX4_allLate 19 = .ok (.if_icmp .eq 17, 3) := by decide +kernel
theorem dX4_allLate_22 : decode cX4_allLate 22 = .ok (.aload_n 0, 1) := by decide +kernel
theorem dX4_allLate_23 : decode cX4_allLate 23 = .ok (.getfield 40, 3) := by decide +kernel
theorem dX4_allLate_26 : decode cX4_allLate 26 = .ok (.iload_n 3, 1) := by decide +kernel
theorem dX4_allLate_27 : decode cX4_allLate 27 = .ok (.iaload, 1) := by decide +kernel
theorem dX4_allLate_28 : decode cX4_allLate 28 = .ok (.iload_n 1, 1) := by decide +kernel
theorem dX4_allLate_29 : decode cX4_allLate 29 = .ok (.if_icmp .gt 7, 3) := by decide +kernel
theorem dX4_allLate_32 : decode cX4_allLate 32 = .ok (.iconst 1, 1) := by decide +kernel
theorem dX4_allLate_33 : decode cX4_allLate 33 = .ok (.goto 4, 3) := by decide +kernel
theorem dX4_allLate_36 : decode cX4_allLate 36 = .ok (.iconst 0, 1) := by decide +kernel
theorem dX4_allLate_37 : decode cX4_allLate 37 = .ok (.istore 4, 2) := by decide +kernel
theorem dX4_allLate_39 : decode cX4_allLate 39 = .ok (.iload_n 1, 1) := by decide +kernel
theorem dX4_allLate_40 : decode cX4_allLate 40 = .ok (.aload_n 0, 1) := by decide +kernel
theorem dX4_allLate_41 : decode cX4_allLate 41 = .ok (.getfield 11, 3) := by decide +kernel
theorem dX4_allLate_44 : decode cX4_allLate 44 = .ok (.iload_n 3, 1) := by decide +kernel
theorem dX4_allLate_45 : decode cX4_allLate 45 = .ok (.iaload, 1) := by decide +kernel
theorem dX4_allLate_46 : decode cX4_allLate 46 = .ok (.isub, 1) := by decide +kernel
theorem dX4_allLate_47 : decode cX4_allLate 47 = .ok (.bipush 48, 2) := by decide +kernel
theorem dX4_allLate_49 : decode cX4_allLate 49 = .ok (.if_icmp .lt 14, 3) := by decide +kernel
theorem dX4_allLate_52 : decode cX4_allLate 52 = .ok (.iload 4, 2) := by decide +kernel
theorem dX4_allLate_54 : decode cX4_allLate 54 = .ok (.ifCond .ne 9, 3) := by decide +kernel
theorem dX4_allLate_57 : decode cX4_allLate 57 = .ok (.iload_n 2, 1) := by decide +kernel
theorem dX4_allLate_58 : decode cX4_allLate 58 = .ok (.iconst 1, 1) := by decide +kernel
theorem dX4_allLate_59 : decode cX4_allLate 59 = .ok (.iload_n 3, 1) := by decide +kernel
theorem dX4_allLate_60 : decode cX4_allLate 60 = .ok (.ishl, 1) := by decide +kernel
theorem dX4_allLate_61 : decode cX4_allLate 61 = .ok (.ior, 1) := by decide +kernel
theorem dX4_allLate_62 : decode cX4_allLate 62 = .ok (.istore_n 2, 1) := by decide +kernel
theorem dX4_allLate_63 : decode cX4_allLate 63 = .ok (.iinc 3 1, 3) := by decide +kernel
theorem dX4_allLate_66 : decode cX4_allLate 66 = .ok (.goto (-62), 3) := by decide +kernel
theorem dX4_allLate_69 : decode cX4_allLate 69 = .ok (.iload_n 2, 1) := by decide +kernel
theorem dX4_allLate_70 : decode cX4_allLate 70 = .ok (.ireturn, 1) := by decide +kernel
theorem dX4_leastBlamer_0 : decode cX4_leastBlamer 0 = .ok (.iconst 0, 1) := by decide +kernel
theorem dX4_leastBlamer_1 : decode cX4_leastBlamer 1 = .ok (.istore_n 2, 1) := by decide +kernel
theorem dX4_leastBlamer_2 : decode cX4_leastBlamer 2 = .ok (.iload_n 2, 1) := by decide +kernel
theorem dX4_leastBlamer_3 : decode cX4_leastBlamer 3 = .ok (.aload_n 0, 1) := by decide +kernel
theorem dX4_leastBlamer_4 : decode cX4_leastBlamer 4 = .ok (.getfield 47, 3) := by decide +kernel
theorem dX4_leastBlamer_7 : decode cX4_leastBlamer 7 = .ok (.if_icmp .ge 41, 3) := by decide +kernel
theorem dX4_leastBlamer_10 : decode cX4_leastBlamer 10 = .ok (.aload_n 0, 1) := by decide +kernel
theorem dX4_leastBlamer_11 : decode cX4_leastBlamer 11 = .ok (.getfield 34, 3) := by decide +kernel
theorem dX4_leastBlamer_14 : decode cX4_leastBlamer 14 = .ok (.iload_n 2, 1) := by decide +kernel
theorem dX4_leastBlamer_15 : decode cX4_leastBlamer 15 = .ok (.iaload, 1) := by decide +kernel
theorem dX4_leastBlamer_16 : decode cX4_leastBlamer 16 = .ok (.aload_n 0, 1) := by decide +kernel
theorem dX4_leastBlamer_17 : decode cX4_leastBlamer 17 = .ok (.getfield 34, 3) := by decide +kernel
theorem dX4_leastBlamer_20 : decode cX4_leastBlamer 20 = .ok (.iload_n 1, 1) := by decide +kernel
theorem dX4_leastBlamer_21 : decode cX4_leastBlamer 21 = .ok (.iaload, 1) := by decide +kernel
theorem dX4_leastBlamer_22 : decode cX4_leastBlamer 22 = .ok (.if_icmp .eq 20, 3) := by decide +kernel
theorem dX4_leastBlamer_25 : decode cX4_leastBlamer 25 = .ok (.aload_n 0, 1) := by decide +kernel
theorem dX4_leastBlamer_26 : decode cX4_leastBlamer 26 = .ok (.getfield 37, 3) := by decide +kernel
theorem dX4_leastBlamer_29 : decode cX4_leastBlamer 29 = .ok (.iload_n 2, 1) := by decide +kernel
theorem dX4_leastBlamer_30 : decode cX4_leastBlamer 30 = .ok (.iaload, 1) := by decide +kernel
theorem dX4_leastBlamer_31 : decode cX4_leastBlamer 31 = .ok (.aload_n 0, 1) := by decide +kernel
theorem dX4_leastBlamer_32 : decode cX4_leastBlamer 32 = .ok (.getfield 37, 3) := by decide +kernel
theorem dX4_leastBlamer_35 : decode cX4_leastBlamer 35 = .ok (.iload_n 1, 1) := by decide +kernel
theorem dX4_leastBlamer_36 : decode cX4_leastBlamer 36 = .ok (.iaload, 1) := by decide +kernel
theorem dX4_leastBlamer_37 : decode cX4_leastBlamer 37 = .ok (.if_icmp .ne 5, 3) := by decide +kernel
theorem dX4_leastBlamer_40 : decode cX4_leastBlamer 40 = .ok (.iload_n 2, 1) := by decide +kernel
theorem dX4_leastBlamer_41 : decode cX4_leastBlamer 41 = .ok (.ireturn, 1) := by decide +kernel
theorem dX4_leastBlamer_42 : decode cX4_leastBlamer 42 = .ok (.iinc 2 1, 3) := by decide +kernel
theorem dX4_leastBlamer_45 : decode cX4_leastBlamer 45 = .ok (.goto (-43), 3) := by decide +kernel
theorem dX4_leastBlamer_48 : decode cX4_leastBlamer 48 = .ok (.iconst (-1), 1) := by decide +kernel
theorem dX4_leastBlamer_49 : decode cX4_leastBlamer 49 = .ok (.ireturn, 1) := by decide +kernel
theorem dX4_putListed_0 : decode cX4_putListed 0 = .ok (.lconst 1, 1) := by decide +kernel
theorem dX4_putListed_1 : decode cX4_putListed 1 = .ok (.iload_n 2, 1) := by decide +kernel
theorem dX4_putListed_2 : decode cX4_putListed 2 = .ok (.lshl, 1) := by decide +kernel
theorem dX4_putListed_3 : decode cX4_putListed 3 = .ok (.lstore 4, 2) := by decide +kernel
theorem dX4_putListed_5 : decode cX4_putListed 5 = .ok (.aload_n 0, 1) := by decide +kernel
theorem dX4_putListed_6 : decode cX4_putListed 6 = .ok (.getfield 15, 3) := by decide +kernel
theorem dX4_putListed_9 : decode cX4_putListed 9 = .ok (.iload_n 1, 1) := by decide +kernel
theorem dX4_putListed_10 : decode cX4_putListed 10 = .ok (.laload, 1) := by decide +kernel
theorem dX4_putListed_11 : decode cX4_putListed 11 = .ok (.lload 4, 2) := by decide +kernel
theorem dX4_putListed_13 : decode cX4_putListed 13 = .ok (.land, 1) := by decide +kernel
theorem dX4_putListed_14 : decode cX4_putListed 14 = .ok (.lconst 0, 1) := by decide +kernel
theorem dX4_putListed_15 : decode cX4_putListed 15 = .ok (.lcmp, 1) := by decide +kernel
theorem dX4_putListed_16 : decode cX4_putListed 16 = .ok (.ifCond .eq 7, 3) := by decide +kernel
theorem dX4_putListed_19 : decode cX4_putListed 19 = .ok (.iconst 1, 1) := by decide +kernel
theorem dX4_putListed_20 : decode cX4_putListed 20 = .ok (.goto 4, 3) := by decide +kernel
theorem dX4_putListed_23 : decode cX4_putListed 23 = .ok (.iconst 0, 1) := by decide +kernel
theorem dX4_putListed_24 : decode cX4_putListed 24 = .ok (.invokestatic 54, 3) := by decide +kernel
theorem dX4_putListed_27 : decode cX4_putListed 27 = .ok (.istore 6, 2) := by decide +kernel
theorem dX4_putListed_29 : decode cX4_putListed 29 = .ok (.aload_n 0, 1) := by decide +kernel
theorem dX4_putListed_30 : decode cX4_putListed 30 = .ok (.getfield 15, 3) := by decide +kernel
theorem dX4_putListed_33 : decode cX4_putListed 33 = .ok (.iload_n 1, 1) := by decide +kernel
theorem dX4_putListed_34 : decode cX4_putListed 34 = .ok (.iload_n 3, 1) := by decide +kernel
theorem dX4_putListed_35 : decode cX4_putListed 35 = .ok (.ifCond .eq 15, 3) := by decide +kernel
theorem dX4_putListed_38 : decode cX4_putListed 38 = .ok (.aload_n 0, 1) := by decide +kernel
theorem dX4_putListed_39 : decode cX4_putListed 39 = .ok (.getfield 15, 3) := by decide +kernel
theorem dX4_putListed_42 : decode cX4_putListed 42 = .ok (.iload_n 1, 1) := by decide +kernel
theorem dX4_putListed_43 : decode cX4_putListed 43 = .ok (.laload, 1) := by decide +kernel
theorem dX4_putListed_44 : decode cX4_putListed 44 = .ok (.lload 4, 2) := by decide +kernel
theorem dX4_putListed_46 : decode cX4_putListed 46 = .ok (.lor, 1) := by decide +kernel
theorem dX4_putListed_47 : decode cX4_putListed 47 = .ok (.goto 16, 3) := by decide +kernel
theorem dX4_putListed_50 : decode cX4_putListed 50 = .ok (.aload_n 0, 1) := by decide +kernel
theorem dX4_putListed_51 : decode cX4_putListed 51 = .ok (.getfield 15, 3) := by decide +kernel
theorem dX4_putListed_54 : decode cX4_putListed 54 = .ok (.iload_n 1, 1) := by decide +kernel
theorem dX4_putListed_55 : decode cX4_putListed 55 = .ok (.laload, 1) := by decide +kernel
theorem dX4_putListed_56 : decode cX4_putListed 56 = .ok (.lload 4, 2) := by decide +kernel
theorem dX4_putListed_58 : decode cX4_putListed 58 = .ok (.ldc2_w 58, 3) := by decide +kernel
theorem dX4_putListed_61 : decode cX4_putListed 61 = .ok (.lxor, 1) := by decide +kernel
theorem dX4_putListed_62 : decode cX4_putListed 62 = .ok (.land, 1) := by decide +kernel
theorem dX4_putListed_63 : decode cX4_putListed 63 = .ok (.lastore, 1) := by decide +kernel
theorem dX4_putListed_64 : decode cX4_putListed 64 = .ok (.iload 6, 2) := by decide +kernel
theorem dX4_putListed_66 : decode cX4_putListed 66 = .ok (.ireturn, 1) := by decide +kernel
theorem dX5_init_0 : decode cX5_init 0 = .ok (.aload_n 0, 1) := by decide +kernel
theorem dX5_init_1 : decode cX5_init 1 = .ok (.invokespecial 3, 3) := by decide +kernel
theorem dX5_init_4 : decode cX5_init 4 = .ok (.aload_n 0, 1) := by decide +kernel
theorem dX5_init_5 : decode cX5_init 5 = .ok (.bipush 10, 2) := by decide +kernel
theorem dX5_init_7 : decode cX5_init 7 = .ok (.newarray .int, 2) := by decide +kernel
theorem dX5_init_9 : decode cX5_init 9 = .ok (.putfield 11, 3) := by decide +kernel
theorem dX5_init_12 : decode cX5_init 12 = .ok (.aload_n 0, 1) := by decide +kernel
theorem dX5_init_13 : decode cX5_init 13 = .ok (.bipush 10, 2) := by decide +kernel
theorem dX5_init_15 : decode cX5_init 15 = .ok (.newarray .long, 2) := by decide +kernel
theorem dX5_init_17 : decode cX5_init 17 = .ok (.putfield 15, 3) := by decide +kernel
theorem dX5_init_20 : decode cX5_init 20 = .ok (.aload_n 0, 1) := by decide +kernel
theorem dX5_init_21 : decode cX5_init 21 = .ok (.bipush 7, 2) := by decide +kernel
theorem dX5_init_23 : decode cX5_init 23 = .ok (.newarray .int, 2) := by decide +kernel
theorem dX5_init_25 : decode cX5_init 25 = .ok (.putfield 19, 3) := by decide +kernel
theorem dX5_init_28 : decode cX5_init 28 = .ok (.aload_n 0, 1) := by decide +kernel
theorem dX5_init_29 : decode cX5_init 29 = .ok (.sipush 128, 3) := by decide +kernel
theorem dX5_init_32 : decode cX5_init 32 = .ok (.newarray .boolean, 2) := by decide +kernel
theorem dX5_init_34 : decode cX5_init 34 = .ok (.putfield 22, 3) := by decide +kernel
theorem dX5_init_37 : decode cX5_init 37 = .ok (.aload_n 0, 1) := by decide +kernel
theorem dX5_init_38 : decode cX5_init 38 = .ok (.aload_n 1, 1) := by decide +kernel
theorem dX5_init_39 : decode cX5_init 39 = .ok (.putfield 26, 3) := by decide +kernel
theorem dX5_init_42 : decode cX5_init 42 = .ok (.aload_n 0, 1) := by decide +kernel
theorem dX5_init_43 : decode cX5_init 43 = .ok (.aload_n 2, 1) := by decide +kernel
theorem dX5_init_44 : decode cX5_init 44 = .ok (.putfield 30, 3) := by decide +kernel
theorem dX5_init_47 : decode cX5_init 47 = .ok (.return_, 1) := by decide +kernel
theorem dX5_addCell_0 : decode cX5_addCell 0 = .ok (.aload_n 0, 1) := by decide +kernel
theorem dX5_addCell_1 : decode cX5_addCell 1 = .ok (.getfield 34, 3) := by decide +kernel
theorem dX5_addCell_4 : decode cX5_addCell 4 = .ok (.bipush 10, 2) := by decide +kernel
theorem dX5_addCell_6 : decode cX5_addCell 6 = .ok (.if_icmp .lt 6, 3) := by decide +kernel
theorem dX5_addCell_9 : decode cX5_addCell 9 = .ok (.bipush (-4), 2) := by decide +kernel
theorem dX5_addCell_11 : decode cX5_addCell 11 = .ok (.ireturn, 1) := by decide +kernel
theorem dX5_addCell_12 : decode cX5_addCell 12 = .ok (.aload_n 0, 1) := by decide +kernel
theorem dX5_addCell_13 : decode cX5_addCell 13 = .ok (.getfield 11, 3) := by decide +kernel
theorem dX5_addCell_16 : decode cX5_addCell 16 = .ok (.aload_n 0, 1) := by decide +kernel
theorem dX5_addCell_17 : decode cX5_addCell 17 = .ok (.dup, 1) := by decide +kernel
theorem dX5_addCell_18 : decode cX5_addCell 18 = .ok (.getfield 34, 3) := by decide +kernel
theorem dX5_addCell_21 : decode cX5_addCell 21 = .ok (.dup_x1, 1) := by decide +kernel
theorem dX5_addCell_22 : decode cX5_addCell 22 = .ok (.iconst 1, 1) := by decide +kernel
theorem dX5_addCell_23 : decode cX5_addCell 23 = .ok (.iadd, 1) := by decide +kernel
theorem dX5_addCell_24 : decode cX5_addCell 24 = .ok (.putfield 34, 3) := by decide +kernel
theorem dX5_addCell_27 : decode cX5_addCell 27 = .ok (.iload_n 1, 1) := by decide +kernel
theorem dX5_addCell_28 : decode cX5_addCell 28 = .ok (.iastore, 1) := by decide +kernel
theorem dX5_addCell_29 : decode cX5_addCell 29 = .ok (.aload_n 0, 1) := by decide +kernel
theorem dX5_addCell_30 : decode cX5_addCell 30 = .ok (.getfield 34, 3) := by decide +kernel
theorem dX5_addCell_33 : decode cX5_addCell 33 = .ok (.ireturn, 1) := by decide +kernel
theorem dX5_bestPosts_0 : decode cX5_bestPosts 0 = .ok (.aload_n 0, 1) := by decide +kernel
theorem dX5_bestPosts_1 : decode cX5_bestPosts 1 = .ok (.iload_n 2, 1) := by decide +kernel
theorem dX5_bestPosts_2 : decode cX5_bestPosts 2 = .ok (.invokevirtual 38, 3) := by decide +kernel
theorem dX5_bestPosts_5 : decode cX5_bestPosts 5 = .ok (.iconst 0, 1) := by decide +kernel
theorem dX5_bestPosts_6 : decode cX5_bestPosts 6 = .ok (.istore_n 3, 1) := by decide +kernel
theorem dX5_bestPosts_7 : decode cX5_bestPosts 7 = .ok (.iconst (-1), 1) := by decide +kernel
theorem dX5_bestPosts_8 : decode cX5_bestPosts 8 = .ok (.istore 4, 2) := by decide +kernel
theorem dX5_bestPosts_10 : decode cX5_bestPosts 10 = .ok (.iconst 0, 1) := by decide +kernel
theorem dX5_bestPosts_11 : decode cX5_bestPosts 11 = .ok (.istore 5, 2) := by decide +kernel
theorem dX5_bestPosts_13 : decode cX5_bestPosts 13 = .ok (.iload 5, 2) := by decide +kernel
theorem dX5_bestPosts_15 : decode cX5_bestPosts 15 = .ok (.iconst 1, 1) := by decide +kernel
theorem dX5_bestPosts_16 : decode cX5_bestPosts 16 = .ok (.aload_n 0, 1) := by decide +kernel
theorem dX5_bestPosts_17 : decode cX5_bestPosts 17 = .ok (.getfield 34, 3) := by decide +kernel
theorem dX5_bestPosts_20 : decode cX5_bestPosts 20 = .ok (.ishl, 1) := by decide +kernel
theorem dX5_bestPosts_21 : decode cX5_bestPosts 21 = .ok (.if_icmp .ge 46, 3) := by decide +kernel
theorem dX5_bestPosts_24 : decode cX5_bestPosts 24 = .ok (.iload 5, 2) := by decide +kernel
theorem dX5_bestPosts_26 : decode cX5_bestPosts 26 = .ok (.invokestatic 42, 3) := by decide +kernel
theorem dX5_bestPosts_29 : decode cX5_bestPosts 29 = .ok (.iload_n 1, 1) := by decide +kernel
theorem dX5_bestPosts_30 : decode cX5_bestPosts 30 = .ok (.if_icmp .eq 6, 3) := by decide +kernel
theorem dX5_bestPosts_33 : decode cX5_bestPosts 33 = .ok (.goto 28, 3) := by decide +kernel
theorem dX5_bestPosts_36 : decode cX5_bestPosts 36 = .ok (.aload_n 0, 1) := by decide +kernel
theorem dX5_bestPosts_37 : decode cX5_bestPosts 37 = .ok (.iload 5, 2) := by decide +kernel
theorem dX5_bestPosts_39 : decode cX5_bestPosts 39 = .ok (.invokevirtual 48, 3) := by decide +kernel
theorem dX5_bestPosts_42 : decode cX5_bestPosts 42 = .ok (.invokestatic 52, 3) := by decide +kernel
theorem dX5_bestPosts_45 : decode cX5_bestPosts 45 = .ok (.istore 6, 2) := by decide +kernel
theorem dX5_bestPosts_47 : decode cX5_bestPosts 47 = .ok (.iload 6, 2) := by decide +kernel
theorem dX5_bestPosts_49 : decode cX5_bestPosts 49 = .ok (.iload 4, 2) := by decide +kernel
theorem dX5_bestPosts_51 : decode cX5_bestPosts 51 = .ok (.if_icmp .le 10, 3) := by decide +kernel
theorem dX5_bestPosts_54 : decode cX5_bestPosts 54 = .ok (.iload 6, 2) := by decide +kernel
theorem dX5_bestPosts_56 : decode cX5_bestPosts 56 = .ok (.istore 4, 2) := by decide +kernel
theorem dX5_bestPosts_58 : decode cX5_bestPosts 58 = .ok (.iload 5, 2) := by decide +kernel
theorem dX5_bestPosts_60 : decode cX5_bestPosts 60 = .ok (.istore_n 3, 1) := by decide +kernel
theorem dX5_bestPosts_61 : decode cX5_bestPosts 61 = .ok (.iinc 5 1, 3) := by decide +kernel
theorem dX5_bestPosts_64 : decode cX5_bestPosts 64 = .ok (.goto (-51), 3) := by decide +kernel
theorem dX5_bestPosts_67 : decode cX5_bestPosts 67 = .ok (.iload_n 3, 1) := by decide +kernel
theorem dX5_bestPosts_68 : decode cX5_bestPosts 68 = .ok (.ireturn, 1) := by decide +kernel
theorem dX5_seenFromAll_0 : decode cX5_seenFromAll 0 = .ok (.lconst 0, 1) := by decide +kernel
theorem dX5_seenFromAll_1 : decode cX5_seenFromAll 1 = .ok (.lstore_n 2, 1) := by decide +kernel
theorem dX5_seenFromAll_2 : decode cX5_seenFromAll 2 = .ok (.iconst 0, 1) := by decide +kernel
theorem dX5_seenFromAll_3 : decode cX5_seenFromAll 3 = .ok (.istore 4, 2) := by decide +kernel
theorem dX5_seenFromAll_5 : decode cX5_seenFromAll 5 = .ok (.iload 4, 2) := by decide +kernel
theorem dX5_seenFromAll_7 : decode cX5_seenFromAll 7 = .ok (.aload_n 0, 1) := by decide +kernel
theorem dX5_seenFromAll_8 : decode cX5_seenFromAll 8 = .ok (.getfield 34, 3) := by decide +kernel
theorem dX5_seenFromAll_11 : decode cX5_seenFromAll 11 = .ok (.if_icmp .ge 28, 3) := by decide +kernel
theorem dX5_seenFromAll_14 : decode cX5_seenFromAll 14 = .ok (.iload_n 1, 1) := by decide +kernel
theorem dX5_seenFromAll_15 : decode cX5_seenFromAll 15 = .ok (.iload 4, 2) := by decide +kernel
theorem dX5_seenFromAll_17 : decode cX5_seenFromAll 17 = .ok (.invokestatic 57, 3) := by decide +kernel
theorem dX5_seenFromAll_20 : decode cX5_seenFromAll 20 = .ok (.ifCond .eq 13, 3) := by decide +kernel
theorem dX5_seenFromAll_23 : decode cX5_seenFromAll 23 = .ok (.lload_n 2, 1) := by decide +kernel
theorem dX5_seenFromAll_24 : decode cX5_seenFromAll 24 = .ok (.aload_n 0, 1) := by decide +kernel
theorem dX5_seenFromAll_25 : decode cX5_seenFromAll 25 = .ok (.getfield 15, 3) := by decide +kernel
theorem dX5_seenFromAll_28 : decode cX5_seenFromAll 28 = .ok (.iload 4, 2) := by decide +kernel
theorem dX5_seenFromAll_30 : decode cX5_seenFromAll 30 = .ok (.laload, 1) := by decide +kernel
theorem dX5_seenFromAll_31 : decode cX5_seenFromAll 31 = .ok (.lor, 1) := by decide +kernel
theorem dX5_seenFromAll_32 : decode cX5_seenFromAll 32 = .ok (.lstore_n 2, 1) := by decide +kernel
theorem dX5_seenFromAll_33 : decode cX5_seenFromAll 33 = .ok (.iinc 4 1, 3) := by decide +kernel
theorem dX5_seenFromAll_36 : decode cX5_seenFromAll 36 = .ok (.goto (-31), 3) := by decide +kernel
theorem dX5_seenFromAll_39 : decode cX5_seenFromAll 39 = .ok (.lload_n 2, 1) := by decide +kernel
theorem dX5_seenFromAll_40 : decode cX5_seenFromAll 40 = .ok (.lreturn, 1) := by decide +kernel
theorem dX5_lookFromAll_0 : decode cX5_lookFromAll 0 = .ok (.iconst 0, 1) := by decide +kernel
theorem dX5_lookFromAll_1 : decode cX5_lookFromAll 1 = .ok (.istore_n 2, 1) := by decide +kernel
theorem dX5_lookFromAll_2 : decode cX5_lookFromAll 2 = .ok (.iload_n 2, 1) := by decide +kernel
theorem dX5_lookFromAll_3 : decode cX5_lookFromAll 3 = .ok (.aload_n 0, 1) := by decide +kernel
theorem dX5_lookFromAll_4 : decode cX5_lookFromAll 4 = .ok (.getfield 34, 3) := by decide +kernel
theorem dX5_lookFromAll_7 : decode cX5_lookFromAll 7 = .ok (.if_icmp .ge 43, 3) := by decide +kernel
theorem dX5_lookFromAll_10 : decode cX5_lookFromAll 10 = .ok (.aload_n 0, 1) := by decide +kernel
theorem dX5_lookFromAll_11 : decode cX5_lookFromAll 11 = .ok (.getfield 15, 3) := by decide +kernel
theorem dX5_lookFromAll_14 : decode cX5_lookFromAll 14 = .ok (.iload_n 2, 1) := by decide +kernel
theorem dX5_lookFromAll_15 : decode cX5_lookFromAll 15 = .ok (.aload_n 0, 1) := by decide +kernel
theorem dX5_lookFromAll_16 : decode cX5_lookFromAll 16 = .ok (.getfield 26, 3) := by decide +kernel
theorem dX5_lookFromAll_19 : decode cX5_lookFromAll 19 = .ok (.aload_n 0, 1) := by decide +kernel
theorem dX5_lookFromAll_20 : decode cX5_lookFromAll 20 = .ok (.getfield 11, 3) := by decide +kernel
theorem dX5_lookFromAll_23 : decode cX5_lookFromAll 23 = .ok (.iload_n 2, 1) := by decide +kernel
theorem dX5_lookFromAll_24 : decode cX5_lookFromAll 24 = .ok (.iaload, 1) := by decide +kernel
theorem dX5_lookFromAll_25 : decode cX5_lookFromAll 25 = .ok (.aload_n 0, 1) := by decide +kernel
theorem dX5_lookFromAll_26 : decode cX5_lookFromAll 26 = .ok (.getfield 26, 3) := by decide +kernel
theorem dX5_lookFromAll_29 : decode cX5_lookFromAll 29 = .ok (.aload_n 0, 1) := by decide +kernel
theorem dX5_lookFromAll_30 : decode cX5_lookFromAll 30 = .ok (.getfield 11, 3) := by decide +kernel
theorem dX5_lookFromAll_33 : decode cX5_lookFromAll 33 = .ok (.iload_n 2, 1) := by decide +kernel
theorem dX5_lookFromAll_34 : decode cX5_lookFromAll 34 = .ok (.iaload, 1) := by decide +kernel
theorem dX5_lookFromAll_35 : decode cX5_lookFromAll 35 = .ok (.iconst 1, 1) := by decide +kernel
theorem dX5_lookFromAll_36 : decode cX5_lookFromAll 36 = .ok (.iload_n 1, 1) := by decide +kernel
theorem dX5_lookFromAll_37 : decode cX5_lookFromAll 37 = .ok (.invokevirtual 63, 3) := by decide +kernel
theorem dX5_lookFromAll_40 : decode cX5_lookFromAll 40 = .ok (.invokevirtual 69, 3) := by decide +kernel
theorem dX5_lookFromAll_43 : decode cX5_lookFromAll 43 = .ok (.lastore, 1) := by decide +kernel
theorem dX5_lookFromAll_44 : decode cX5_lookFromAll 44 = .ok (.iinc 2 1, 3) := by decide +kernel
theorem dX5_lookFromAll_47 : decode cX5_lookFromAll 47 = .ok (.goto (-45), 3) := by decide +kernel
theorem dX5_lookFromAll_50 : decode cX5_lookFromAll 50 = .ok (.return_, 1) := by decide +kernel
theorem dX5_strengthOf_0 : decode cX5_strengthOf 0 = .ok (.iconst 0, 1) := by decide +kernel
theorem dX5_strengthOf_1 : decode cX5_strengthOf 1 = .ok (.istore_n 2, 1) := by decide +kernel
theorem dX5_strengthOf_2 : decode cX5_strengthOf 2 = .ok (.iconst 0, 1) := by decide +kernel
theorem dX5_strengthOf_3 : decode cX5_strengthOf 3 = .ok (.istore_n 3, 1) := by decide +kernel
theorem dX5_strengthOf_4 : decode cX5_strengthOf 4 = .ok (.iload_n 3, 1) := by decide +kernel
theorem dX5_strengthOf_5 : decode cX5_strengthOf 5 = .ok (.aload_n 0, 1) := by decide +kernel
theorem dX5_strengthOf_6 : decode cX5_strengthOf 6 = .ok (.getfield 30, 3) := by decide +kernel
theorem dX5_strengthOf_9 : decode cX5_strengthOf 9 = .ok (.getfield 73, 3) := by decide +kernel
theorem dX5_strengthOf_12 : decode cX5_strengthOf 12 = .ok (.if_icmp .ge 48, 3) := by decide +kernel
theorem dX5_strengthOf_15 : decode cX5_strengthOf 15 = .ok (.aload_n 0, 1) := by decide +kernel
theorem dX5_strengthOf_16 : decode cX5_strengthOf 16 = .ok (.iload_n 3, 1) := by decide +kernel
theorem dX5_strengthOf_17 : decode cX5_strengthOf 17 = .ok (.invokevirtual 78, 3) := by decide +kernel
theorem dX5_strengthOf_20 : decode cX5_strengthOf 20 = .ok (.ifCond .eq 34, 3) := by decide +kernel
theorem dX5_strengthOf_23 : decode cX5_strengthOf 23 = .ok (.aload_n 0, 1) := by decide +kernel
theorem dX5_strengthOf_24 : decode cX5_strengthOf 24 = .ok (.getfield 30, 3) := by decide +kernel
theorem dX5_strengthOf_27 : decode cX5_strengthOf 27 = .ok (.getfield 82, 3) := by decide +kernel
theorem dX5_strengthOf_30 : decode cX5_strengthOf 30 = .ok (.iload_n 3, 1) := by decide +kernel
theorem dX5_strengthOf_31 : decode cX5_strengthOf 31 = .ok (.aaload, 1) := by decide +kernel
theorem dX5_strengthOf_32 : decode cX5_strengthOf 32 = .ok (.getfield 86, 3) := by decide +kernel
theorem dX5_strengthOf_35 : decode cX5_strengthOf 35 = .ok (.iload_n 1, 1) := by decide +kernel
theorem dX5_strengthOf_36 : decode cX5_strengthOf 36 = .ok (.if_icmp .ne 18, 3) := by decide +kernel
theorem dX5_strengthOf_39 : decode cX5_strengthOf 39 = .ok (.iload_n 2, 1) := by decide +kernel
theorem dX5_strengthOf_40 : decode cX5_strengthOf 40 = .ok (.aload_n 0, 1) := by decide +kernel
theorem dX5_strengthOf_41 : decode cX5_strengthOf 41 = .ok (.getfield 30, 3) := by decide +kernel
theorem dX5_strengthOf_44 : decode cX5_strengthOf 44 = .ok (.getfield 82, 3) := by decide +kernel
theorem dX5_strengthOf_47 : decode cX5_strengthOf 47 = .ok (.iload_n 3, 1) := by decide +kernel
theorem dX5_strengthOf_48 : decode cX5_strengthOf 48 = .ok (.aaload, 1) := by decide +kernel
theorem dX5_strengthOf_49 : decode cX5_strengthOf 49 = .ok (.getfield 89, 3) := by decide +kernel
theorem dX5_strengthOf_52 : decode cX5_strengthOf 52 = .ok (.iadd, 1) := by decide +kernel
theorem dX5_strengthOf_53 : decode cX5_strengthOf 53 = .ok (.istore_n 2, 1) := by decide +kernel
theorem dX5_strengthOf_54 : decode cX5_strengthOf 54 = .ok (.iinc 3 1, 3) := by decide +kernel
theorem dX5_strengthOf_57 : decode cX5_strengthOf 57 = .ok (.goto (-53), 3) := by decide +kernel
theorem dX5_strengthOf_60 : decode cX5_strengthOf 60 = .ok (.iload_n 2, 1) := by decide +kernel
theorem dX5_strengthOf_61 : decode cX5_strengthOf 61 = .ok (.ireturn, 1) := by decide +kernel
theorem dX5_canDraw_0 : decode cX5_canDraw 0 = .ok (.iload_n 1, 1) := by decide +kernel
theorem dX5_canDraw_1 : decode cX5_canDraw 1 = .ok (.aload_n 0, 1) := by decide +kernel
theorem dX5_canDraw_2 : decode cX5_canDraw 2 = .ok (.getfield 30, 3) := by decide +kernel
theorem dX5_canDraw_5 : decode cX5_canDraw 5 = .ok (.getfield 73, 3) := by decide +kernel
theorem dX5_canDraw_8 : decode cX5_canDraw 8 = .ok (.invokestatic 92, 3) := by decide +kernel
theorem dX5_canDraw_11 : decode cX5_canDraw 11 = .ok (.ifCond .eq 12, 3) := by decide +kernel
theorem dX5_canDraw_14 : decode cX5_canDraw 14 = .ok (.iload_n 1, 1) := by decide +kernel
theorem dX5_canDraw_15 : decode cX5_canDraw 15 = .ok (.invokestatic 42, 3) := by decide +kernel
theorem dX5_canDraw_18 : decode cX5_canDraw 18 = .ok (.bipush 7, 2) := by decide +kernel
theorem dX5_canDraw_20 : decode cX5_canDraw 20 = .ok (.if_icmp .le 5, 3) := by decide +kernel
theorem dX5_canDraw_23 : decode cX5_canDraw 23 = .ok (.iconst 0, 1) := by decide +kernel
theorem dX5_canDraw_24 : decode cX5_canDraw 24 = .ok (.ireturn, 1) := by decide +kernel
theorem dX5_canDraw_25 : decode cX5_canDraw 25 = .ok (.iconst 0, 1) := by decide +kernel
theorem dX5_canDraw_26 : decode cX5_canDraw 26 = .ok (.istore_n 2, 1) := by decide +kernel
theorem dX5_canDraw_27 : decode cX5_canDraw 27 = .ok (.iload_n 2, 1) := by decide +kernel
theorem dX5_canDraw_28 : decode cX5_canDraw 28 = .ok (.aload_n 0, 1) := by decide +kernel
theorem dX5_canDraw_29 : decode cX5_canDraw 29 = .ok (.getfield 30, 3) := by decide +kernel
theorem dX5_canDraw_32 : decode cX5_canDraw 32 = .ok (.getfield 73, 3) := by decide +kernel
theorem dX5_canDraw_35 : decode cX5_canDraw 35 = .ok (.if_icmp .ge 45, 3) := by decide +kernel
theorem dX5_canDraw_38 : decode cX5_canDraw 38 = .ok (.iload_n 1, 1) := by decide +kernel
theorem dX5_canDraw_39 : decode cX5_canDraw 39 = .ok (.iload_n 2, 1) := by decide +kernel
theorem dX5_canDraw_40 : decode cX5_canDraw 40 = .ok (.invokestatic 57, 3) := by decide +kernel
theorem dX5_canDraw_43 : decode cX5_canDraw 43 = .ok (.ifCond .eq 31, 3) := by decide +kernel
theorem dX5_canDraw_46 : decode cX5_canDraw 46 = .ok (.aload_n 0, 1) := by decide +kernel
theorem dX5_canDraw_47 : decode cX5_canDraw 47 = .ok (.iload_n 2, 1) := by decide +kernel
theorem dX5_canDraw_48 : decode cX5_canDraw 48 = .ok (.invokevirtual 78, 3) := by decide +kernel
theorem dX5_canDraw_51 : decode cX5_canDraw 51 = .ok (.ifCond .eq 21, 3) := by decide +kernel
theorem dX5_canDraw_54 : decode cX5_canDraw 54 = .ok (.aload_n 0, 1) := by decide +kernel
theorem dX5_canDraw_55 : decode cX5_canDraw 55 = .ok (.getfield 30, 3) := by decide +kernel
theorem dX5_canDraw_58 : decode cX5_canDraw 58 = .ok (.getfield 82, 3) := by decide +kernel
theorem dX5_canDraw_61 : decode cX5_canDraw 61 = .ok (.iload_n 2, 1) := by decide +kernel
theorem dX5_canDraw_62 : decode cX5_canDraw 62 = .ok (.aaload, 1) := by decide +kernel
theorem dX5_canDraw_63 : decode cX5_canDraw 63 = .ok (.getfield 86, 3) := by decide +kernel
theorem dX5_canDraw_66 : decode cX5_canDraw 66 = .ok (.invokestatic 95, 3) := by decide +kernel
theorem dX5_canDraw_69 : decode cX5_canDraw 69 = .ok (.ifCond .ne 5, 3) := by decide +kernel
theorem dX5_canDraw_72 : decode cX5_canDraw 72 = .ok (.iconst 0, 1) := by decide +kernel
theorem dX5_canDraw_73 : decode cX5_canDraw 73 = .ok (.ireturn, 1) := by decide +kernel
theorem dX5_canDraw_74 : decode cX5_canDraw 74 = .ok (.iinc 2 1, 3) := by decide +kernel
theorem dX5_canDraw_77 : decode cX5_canDraw 77 = .ok (.goto (-50), 3) := by decide +kernel
theorem dX5_canDraw_80 : decode cX5_canDraw 80 = .ok (.iconst 1, 1) := by decide +kernel
theorem dX5_canDraw_81 : decode cX5_canDraw 81 = .ok (.ireturn, 1) := by decide +kernel
theorem dX5_drawnAt_0 : decode cX5_drawnAt 0 = .ok (.aload_n 0, 1) := by decide +kernel
theorem dX5_drawnAt_1 : decode cX5_drawnAt 1 = .ok (.iload_n 1, 1) := by decide +kernel
theorem dX5_drawnAt_2 : decode cX5_drawnAt 2 = .ok (.invokevirtual 98, 3) := by decide +kernel
theorem dX5_drawnAt_5 : decode cX5_drawnAt 5 = .ok (.aload_n 0, 1) := by decide +kernel
theorem dX5_drawnAt_6 : decode cX5_drawnAt 6 = .ok (.iload_n 2, 1) := by decide +kernel
theorem dX5_drawnAt_7 : decode cX5_drawnAt 7 = .ok (.invokevirtual 101, 3) := by decide +kernel
theorem dX5_drawnAt_10 : decode cX5_drawnAt 10 = .ok (.aload_n 0, 1) := by decide +kernel
theorem dX5_drawnAt_11 : decode cX5_drawnAt 11 = .ok (.getfield 22, 3) := by decide +kernel
theorem dX5_drawnAt_14 : decode cX5_drawnAt 14 = .ok (.iconst 0, 1) := by decide +kernel
theorem dX5_drawnAt_15 : decode cX5_drawnAt 15 = .ok (.baload, 1) := by decide +kernel
theorem dX5_drawnAt_16 : decode cX5_drawnAt 16 = .ok (.ifCond .eq 17, 3) := by decide +kernel
theorem dX5_drawnAt_19 : decode cX5_drawnAt 19 = .ok (.iload_n 3, 1) := by decide +kernel
theorem dX5_drawnAt_20 : decode cX5_drawnAt 20 = .ok (.iconst (-1), 1) := by decide +kernel
theorem dX5_drawnAt_21 : decode cX5_drawnAt 21 = .ok (.aload_n 0, 1) := by decide +kernel
theorem dX5_drawnAt_22 : decode cX5_drawnAt 22 = .ok (.getfield 104, 3) := by decide +kernel
theorem dX5_drawnAt_25 : decode cX5_drawnAt 25 = .ok (.iconst 1, 1) := by decide +kernel
theorem dX5_drawnAt_26 : decode cX5_drawnAt 26 = .ok (.isub, 1) := by decide +kernel
theorem dX5_drawnAt_27 : decode cX5_drawnAt 27 = .ok (.invokestatic 107, 3) := by decide +kernel
theorem dX5_drawnAt_30 : decode cX5_drawnAt 30 = .ok (.ifCond .ne 5, 3) := by decide +kernel
theorem dX5_drawnAt_33 : decode cX5_drawnAt 33 = .ok (.iconst (-1), 1) := by decide +kernel
theorem dX5_drawnAt_34 : decode cX5_drawnAt 34 = .ok (.ireturn, 1) := by decide +kernel
theorem dX5_drawnAt_35 : decode cX5_drawnAt 35 = .ok (.iload_n 3, 1) := by decide +kernel
theorem dX5_drawnAt_36 : decode cX5_drawnAt 36 = .ok (.iconst (-1), 1) := by decide +kernel
theorem dX5_drawnAt_37 : decode cX5_drawnAt 37 = .ok (.if_icmp .ne 8, 3) := by decide +kernel
theorem dX5_drawnAt_40 : decode cX5_drawnAt 40 = .ok (.aload_n 0, 1) := by decide +kernel
theorem dX5_drawnAt_41 : decode cX5_drawnAt 41 = .ok (.getfield 104, 3) := by decide +kernel
theorem dX5_drawnAt_44 : decode cX5_drawnAt 44 = .ok (.ireturn, 1) := by decide +kernel
theorem dX5_drawnAt_45 : decode cX5_drawnAt 45 = .ok (.iconst 0, 1) := by decide +kernel
theorem dX5_drawnAt_46 : decode cX5_drawnAt 46 = .ok (.istore 4, 2) := by decide +kernel
theorem dX5_drawnAt_48 : decode cX5_drawnAt 48 = .ok (.iconst 0, 1) := by decide +kernel
theorem dX5_drawnAt_49 : decode cX5_drawnAt 49 = .ok (.istore 5, 2) := by decide +kernel
theorem dX5_drawnAt_51 : decode cX5_drawnAt 51 = .ok (.iconst 0, 1) := by decide +kernel
theorem dX5_drawnAt_52 : decode cX5_drawnAt 52 = .ok (.istore 6, 2) := by decide +kernel
theorem dX5_drawnAt_54 : decode cX5_drawnAt 54 = .ok (.iload 6, 2) := by decide +kernel
theorem dX5_drawnAt_56 : decode cX5_drawnAt 56 = .ok (.iload_n 3, 1) := by decide +kernel
theorem dX5_drawnAt_57 : decode cX5_drawnAt 57 = .ok (.if_icmp .gt 34, 3) := by decide +kernel
theorem dX5_drawnAt_60 : decode cX5_drawnAt 60 = .ok (.aload_n 0, 1) := by decide +kernel
theorem dX5_drawnAt_61 : decode cX5_drawnAt 61 = .ok (.iload 4, 2) := by decide +kernel
theorem dX5_drawnAt_63 : decode cX5_drawnAt 63 = .ok (.invokevirtual 111, 3) := by decide +kernel
theorem dX5_drawnAt_66 : decode cX5_drawnAt 66 = .ok (.istore 5, 2) := by decide +kernel
theorem dX5_drawnAt_68 : decode cX5_drawnAt 68 = .ok (.iload 5, 2) := by decide +kernel
theorem dX5_drawnAt_70 : decode cX5_drawnAt 70 = .ok (.iconst (-1), 1) := by decide +kernel
theorem dX5_drawnAt_71 : decode cX5_drawnAt 71 = .ok (.if_icmp .ne 5, 3) := by decide +kernel
theorem dX5_drawnAt_74 : decode cX5_drawnAt 74 = .ok (.iconst (-1), 1) := by decide +kernel
theorem dX5_drawnAt_75 : decode cX5_drawnAt 75 = .ok (.ireturn, 1) := by decide +kernel
theorem dX5_drawnAt_76 : decode cX5_drawnAt 76 = .ok (.iload 4, 2) := by decide +kernel
theorem dX5_drawnAt_78 : decode cX5_drawnAt 78 = .ok (.iconst 1, 1) := by decide +kernel
theorem dX5_drawnAt_79 : decode cX5_drawnAt 79 = .ok (.iload 5, 2) := by decide +kernel
theorem dX5_drawnAt_81 : decode cX5_drawnAt 81 = .ok (.ishl, 1) := by decide +kernel
theorem dX5_drawnAt_82 : decode cX5_drawnAt 82 = .ok (.ior, 1) := by decide +kernel
theorem dX5_drawnAt_83 : decode cX5_drawnAt 83 = .ok (.istore 4, 2) := by decide +kernel
theorem dX5_drawnAt_85 : decode cX5_drawnAt 85 = .ok (.iinc 6 1, 3) := by decide +kernel
theorem dX5_drawnAt_88 : decode cX5_drawnAt 88 = .ok (.goto (-34), 3) := by decide +kernel
theorem dX5_drawnAt_91 : decode cX5_drawnAt 91 = .ok (.aload_n 0, 1) := by decide +kernel
theorem dX5_drawnAt_92 : decode cX5_drawnAt 92 = .ok (.getfield 19, 3) := by decide +kernel
theorem dX5_drawnAt_95 : decode cX5_drawnAt 95 = .ok (.iload 5, 2) := by decide +kernel
theorem dX5_drawnAt_97 : decode cX5_drawnAt 97 = .ok (.iaload, 1) := by decide +kernel
theorem dX5_drawnAt_98 : decode cX5_drawnAt 98 = .ok (.ireturn, 1) := by decide +kernel
theorem dX5_isGunHere_0 : decode cX5_isGunHere 0 = .ok (.aload_n 0, 1) := by decide +kernel
theorem dX5_isGunHere_1 : decode cX5_isGunHere 1 = .ok (.getfield 30, 3) := by decide +kernel
theorem dX5_isGunHere_4 : decode cX5_isGunHere 4 = .ok (.getfield 82, 3) := by decide +kernel
theorem dX5_isGunHere_7 : decode cX5_isGunHere 7 = .ok (.iload_n 1, 1) := by decide +kernel
theorem dX5_isGunHere_8 : decode cX5_isGunHere 8 = .ok (.aaload, 1) := by decide +kernel
theorem dX5_isGunHere_9 : decode cX5_isGunHere 9 = .ok (.getfield 114, 3) := by decide +kernel
theorem dX5_isGunHere_12 : decode cX5_isGunHere 12 = .ok (.iconst 2, 1) := by decide +kernel
theorem dX5_isGunHere_13 : decode cX5_isGunHere 13 = .ok (.invokestatic 117, 3) := by decide +kernel
theorem dX5_isGunHere_16 : decode cX5_isGunHere 16 = .ok (.ifCond .eq 22, 3) := by decide +kernel
theorem dX5_isGunHere_19 : decode cX5_isGunHere 19 = .ok (.aload_n 0, 1) := by decide +kernel
theorem dX5_isGunHere_20 : decode cX5_isGunHere 20 = .ok (.getfield 30, 3) := by decide +kernel
theorem dX5_isGunHere_23 : decode cX5_isGunHere 23 = .ok (.getfield 82, 3) := by decide +kernel
theorem dX5_isGunHere_26 : decode cX5_isGunHere 26 = .ok (.iload_n 1, 1) := by decide +kernel
theorem dX5_isGunHere_27 : decode cX5_isGunHere 27 = .ok (.aaload, 1) := by decide +kernel
theorem dX5_isGunHere_28 : decode cX5_isGunHere 28 = .ok (.getfield 120, 3) := by decide +kernel
theorem dX5_isGunHere_31 : decode cX5_isGunHere 31 = .ok (.ifCond .ne 7, 3) := by decide +kernel
theorem dX5_isGunHere_34 : decode cX5_isGunHere 34 = .ok (.iconst 1, 1) := by decide +kernel
theorem dX5_isGunHere_35 : decode cX5_isGunHere 35 = .ok (.goto 4, 3) := by decide +kernel
theorem dX5_isGunHere_38 : decode cX5_isGunHere 38 = .ok (.iconst 0, 1) := by decide +kernel
theorem dX5_isGunHere_39 : decode cX5_isGunHere 39 = .ok (.ireturn, 1) := by decide +kernel
theorem dX5_tellGuns_0 : decode cX5_tellGuns 0 = .ok (.aload_n 0, 1) := by decide +kernel
theorem dX5_tellGuns_1 : decode cX5_tellGuns 1 = .ok (.iconst 0, 1) := by decide +kernel
theorem dX5_tellGuns_2 : decode cX5_tellGuns 2 = .ok (.putfield 104, 3) := by decide +kernel
theorem dX5_tellGuns_5 : decode cX5_tellGuns 5 = .ok (.iconst 0, 1) := by decide +kernel
theorem dX5_tellGuns_6 : decode cX5_tellGuns 6 = .ok (.istore_n 2, 1) := by decide +kernel
theorem dX5_tellGuns_7 : decode cX5_tellGuns 7 = .ok (.iload_n 2, 1) := by decide +kernel
theorem dX5_tellGuns_8 : decode cX5_tellGuns 8 = .ok (.aload_n 0, 1) := by decide +kernel
theorem dX5_tellGuns_9 : decode cX5_tellGuns 9 = .ok (.getfield 30, 3) := by decide +kernel
theorem dX5_tellGuns_12 : decode cX5_tellGuns 12 = .ok (.getfield 73, 3) := by decide +kernel
theorem dX5_tellGuns_15 : decode cX5_tellGuns 15 = .ok (.if_icmp .ge 43, 3) := by decide +kernel
theorem dX5_tellGuns_18 : decode cX5_tellGuns 18 = .ok (.aload_n 0, 1) := by decide +kernel
theorem dX5_tellGuns_19 : decode cX5_tellGuns 19 = .ok (.getfield 104, 3) := by decide +kernel
theorem dX5_tellGuns_22 : decode cX5_tellGuns 22 = .ok (.bipush 7, 2) := by decide +kernel
theorem dX5_tellGuns_24 : decode cX5_tellGuns 24 = .ok (.if_icmp .ge 34, 3) := by decide +kernel
theorem dX5_tellGuns_27 : decode cX5_tellGuns 27 = .ok (.iload_n 1, 1) := by decide +kernel
theorem dX5_tellGuns_28 : decode cX5_tellGuns 28 = .ok (.iload_n 2, 1) := by decide +kernel
theorem dX5_tellGuns_29 : decode cX5_tellGuns 29 = .ok (.invokestatic 57, 3) := by decide +kernel
theorem dX5_tellGuns_32 : decode cX5_tellGuns 32 = .ok (.ifCond .eq 20, 3) := by decide +kernel
theorem dX5_tellGuns_35 : decode cX5_tellGuns 35 = .ok (.aload_n 0, 1) := by decide +kernel
theorem dX5_tellGuns_36 : decode cX5_tellGuns 36 = .ok (.getfield 19, 3) := by decide +kernel
theorem dX5_tellGuns_39 : decode cX5_tellGuns 39 = .ok (.aload_n 0, 1) := by decide +kernel
theorem dX5_tellGuns_40 : decode cX5_tellGuns 40 = .ok (.dup, 1) := by decide +kernel
theorem dX5_tellGuns_41 : decode cX5_tellGuns 41 = .ok (.getfield 104, 3) := by decide +kernel
theorem dX5_tellGuns_44 : decode cX5_tellGuns 44 = .ok (.dup_x1, 1) := by decide +kernel
theorem dX5_tellGuns_45 : decode cX5_tellGuns 45 = .ok (.iconst 1, 1) := by decide +kernel
theorem dX5_tellGuns_46 : decode cX5_tellGuns 46 = .ok (.iadd, 1) := by decide +kernel
theorem dX5_tellGuns_47 : decode cX5_tellGuns 47 = .ok (.putfield 104, 3) := by decide +kernel
theorem dX5_tellGuns_50 : decode cX5_tellGuns 50 = .ok (.iload_n 2, 1) := by decide +kernel
theorem dX5_tellGuns_51 : decode cX5_tellGuns 51 = .ok (.iastore, 1) := by decide +kernel
theorem dX5_tellGuns_52 : decode cX5_tellGuns 52 = .ok (.iinc 2 1, 3) := by decide +kernel
theorem dX5_tellGuns_55 : decode cX5_tellGuns 55 = .ok (.goto (-48), 3) := by decide +kernel
theorem dX5_tellGuns_58 : decode cX5_tellGuns 58 = .ok (.return_, 1) := by decide +kernel
theorem dX5_openSets_0 : decode cX5_openSets 0 = .ok (.aload_n 0, 1) := by decide +kernel
theorem dX5_openSets_1 : decode cX5_openSets 1 = .ok (.iconst 0, 1) := by decide +kernel
theorem dX5_openSets_2 : decode cX5_openSets 2 = .ok (.invokevirtual 124, 3) := by decide +kernel
theorem dX5_openSets_5 : decode cX5_openSets 5 = .ok (.aload_n 0, 1) := by decide +kernel
theorem dX5_openSets_6 : decode cX5_openSets 6 = .ok (.iconst 1, 1) := by decide +kernel
theorem dX5_openSets_7 : decode cX5_openSets 7 = .ok (.invokevirtual 124, 3) := by decide +kernel
theorem dX5_openSets_10 : decode cX5_openSets 10 = .ok (.isub, 1) := by decide +kernel
theorem dX5_openSets_11 : decode cX5_openSets 11 = .ok (.istore_n 2, 1) := by decide +kernel
theorem dX5_openSets_12 : decode cX5_openSets 12 = .ok (.iconst 1, 1) := by decide +kernel
theorem dX5_openSets_13 : decode cX5_openSets 13 = .ok (.aload_n 0, 1) := by decide +kernel
theorem dX5_openSets_14 : decode cX5_openSets 14 = .ok (.getfield 104, 3) := by decide +kernel
theorem dX5_openSets_17 : decode cX5_openSets 17 = .ok (.ishl, 1) := by decide +kernel
theorem dX5_openSets_18 : decode cX5_openSets 18 = .ok (.iconst 1, 1) := by decide +kernel
theorem dX5_openSets_19 : decode cX5_openSets 19 = .ok (.isub, 1) := by decide +kernel
theorem dX5_openSets_20 : decode cX5_openSets 20 = .ok (.istore_n 3, 1) := by decide +kernel
theorem dX5_openSets_21 : decode cX5_openSets 21 = .ok (.iload_n 3, 1) := by decide +kernel
theorem dX5_openSets_22 : decode cX5_openSets 22 = .ok (.istore 4, 2) := by decide +kernel
theorem dX5_openSets_24 : decode cX5_openSets 24 = .ok (.iload 4, 2) := by decide +kernel
theorem dX5_openSets_26 : decode cX5_openSets 26 = .ok (.ifCond .lt 64, 3) := by decide +kernel
theorem dX5_openSets_29 : decode cX5_openSets 29 = .ok (.iload_n 2, 1) := by decide +kernel
theorem dX5_openSets_30 : decode cX5_openSets 30 = .ok (.aload_n 0, 1) := by decide +kernel
theorem dX5_openSets_31 : decode cX5_openSets 31 = .ok (.iload 4, 2) := by decide +kernel
theorem dX5_openSets_33 : decode cX5_openSets 33 = .ok (.invokevirtual 127, 3) := by decide +kernel
theorem dX5_openSets_36 : decode cX5_openSets 36 = .ok (.isub, 1) := by decide +kernel
theorem dX5_openSets_37 : decode cX5_openSets 37 = .ok (.invokestatic 130, 3) := by decide +kernel
theorem dX5_openSets_40 : decode cX5_openSets 40 = .ok (.iload_n 1, 1) := by decide +kernel
theorem dX5_openSets_41 : decode cX5_openSets 41 = .ok (.if_icmp .gt 7, 3) := by decide +kernel
theorem dX5_openSets_44 : decode cX5_openSets 44 = .ok (.iconst 1, 1) := by decide +kernel
theorem dX5_openSets_45 : decode cX5_openSets 45 = .ok (.goto 4, 3) := by decide +kernel
theorem dX5_openSets_48 : decode cX5_openSets 48 = .ok (.iconst 0, 1) := by decide +kernel
theorem dX5_openSets_49 : decode cX5_openSets 49 = .ok (.istore 5, 2) := by decide +kernel
theorem dX5_openSets_51 : decode cX5_openSets 51 = .ok (.aload_n 0, 1) := by decide +kernel
theorem dX5_openSets_52 : decode cX5_openSets 52 = .ok (.getfield 22, 3) := by decide +kernel
theorem dX5_openSets_55 : decode cX5_openSets 55 = .ok (.iload 4, 2) := by decide +kernel
theorem dX5_openSets_57 : decode cX5_openSets 57 = .ok (.iload 5, 2) := by decide +kernel
theorem dX5_openSets_59 : decode cX5_openSets 59 = .ok (.ifCond .eq 23, 3) := by decide +kernel
theorem dX5_openSets_62 : decode cX5_openSets 62 = .ok (.iload 4, 2) := by decide +kernel
theorem dX5_openSets_64 : decode cX5_openSets 64 = .ok (.iload_n 3, 1) := by decide +kernel
theorem dX5_openSets_65 : decode cX5_openSets 65 = .ok (.if_icmp .eq 13, 3) := by decide +kernel
theorem dX5_openSets_68 : decode cX5_openSets 68 = .ok (.aload_n 0, 1) := by decide +kernel
theorem dX5_openSets_69 : decode cX5_openSets 69 = .ok (.iload 4, 2) := by decide +kernel
theorem dX5_openSets_71 : decode cX5_openSets 71 = .ok (.invokevirtual 111, 3) := by decide +kernel
theorem dX5_openSets_74 : decode cX5_openSets 74 = .ok (.iconst (-1), 1) := by decide +kernel
theorem dX5_openSets_75 : decode cX5_openSets 75 = .ok (.if_icmp .eq 7, 3) := by decide +kernel
theorem dX5_openSets_78 : decode cX5_openSets 78 = .ok (.iconst 1, 1) := by decide +kernel
theorem dX5_openSets_79 : decode cX5_openSets 79 = .ok (.goto 4, 3) := by decide +kernel
theorem dX5_openSets_82 : decode cX5_openSets 82 = .ok (.iconst 0, 1) := by decide +kernel
theorem dX5_openSets_83 : decode cX5_openSets 83 = .ok (.bastore, 1) := by decide +kernel
theorem dX5_openSets_84 : decode cX5_openSets 84 = .ok (.iinc 4 (-1), 3) := by decide +kernel
theorem dX5_openSets_87 : decode cX5_openSets 87 = .ok (.goto (-63), 3) := by decide +kernel
theorem dX5_openSets_90 : decode cX5_openSets 90 = .ok (.return_, 1) := by decide +kernel
theorem dX5_leadOf_0 : decode cX5_leadOf 0 = .ok (.iconst 0, 1) := by decide +kernel
theorem dX5_leadOf_1 : decode cX5_leadOf 1 = .ok (.istore_n 2, 1) := by decide +kernel
theorem dX5_leadOf_2 : decode cX5_leadOf 2 = .ok (.iconst 0, 1) := by decide +kernel
theorem dX5_leadOf_3 : decode cX5_leadOf 3 = .ok (.istore_n 3, 1) := by decide +kernel
theorem dX5_leadOf_4 : decode cX5_leadOf 4 = .ok (.iload_n 3, 1) := by decide +kernel
theorem dX5_leadOf_5 : decode cX5_leadOf 5 = .ok (.aload_n 0, 1) := by decide +kernel
theorem dX5_leadOf_6 : decode cX5_leadOf 6 = .ok (.getfield 104, 3) := by decide +kernel
theorem dX5_leadOf_9 : decode cX5_leadOf 9 = .ok (.if_icmp .ge 58, 3) := by decide +kernel
theorem dX5_leadOf_12 : decode cX5_leadOf 12 = .ok (.aload_n 0, 1) := by decide +kernel
theorem dX5_leadOf_13 : decode cX5_leadOf 13 = .ok (.getfield 30, 3) := by decide +kernel
theorem dX5_leadOf_16 : decode cX5_leadOf 16 = .ok (.getfield 82, 3) := by decide +kernel
theorem dX5_leadOf_19 : decode cX5_leadOf 19 = .ok (.aload_n 0, 1) := by decide +kernel
theorem dX5_leadOf_20 : decode cX5_leadOf 20 = .ok (.getfield 19, 3) := by decide +kernel
theorem dX5_leadOf_23 : decode cX5_leadOf 23 = .ok (.iload_n 3, 1) := by decide +kernel
theorem dX5_leadOf_24 : decode cX5_leadOf 24 = .ok (.iaload, 1) := by decide +kernel
theorem dX5_leadOf_25 : decode cX5_leadOf 25 = .ok (.aaload, 1) := by decide +kernel
theorem dX5_leadOf_26 : decode cX5_leadOf 26 = .ok (.astore 4, 2) := by decide +kernel
theorem dX5_leadOf_28 : decode cX5_leadOf 28 = .ok (.iload_n 1, 1) := by decide +kernel
theorem dX5_leadOf_29 : decode cX5_leadOf 29 = .ok (.iload_n 3, 1) := by decide +kernel
theorem dX5_leadOf_30 : decode cX5_leadOf 30 = .ok (.invokestatic 57, 3) := by decide +kernel
theorem dX5_leadOf_33 : decode cX5_leadOf 33 = .ok (.ifCond .eq 28, 3) := by decide +kernel
theorem dX5_leadOf_36 : decode cX5_leadOf 36 = .ok (.iload_n 2, 1) := by decide +kernel
theorem dX5_leadOf_37 : decode cX5_leadOf 37 = .ok (.aload 4, 2) := by decide +kernel
theorem dX5_leadOf_39 : decode cX5_leadOf 39 = .ok (.getfield 86, 3) := by decide +kernel
theorem dX5_leadOf_42 : decode cX5_leadOf 42 = .ok (.ifCond .ne 11, 3) := by decide +kernel
theorem dX5_leadOf_45 : decode cX5_leadOf 45 = .ok (.aload 4, 2) := by decide +kernel
theorem dX5_leadOf_47 : decode cX5_leadOf 47 = .ok (.getfield 89, 3) := by decide +kernel
theorem dX5_leadOf_50 : decode cX5_leadOf 50 = .ok (.goto 9, 3) := by decide +kernel
theorem dX5_leadOf_53 : decode cX5_leadOf 53 = .ok (.aload 4, 2) := by decide +kernel
theorem dX5_leadOf_55 : decode cX5_leadOf 55 = .ok (.getfield 89, 3) := by decide +kernel
theorem dX5_leadOf_58 : decode cX5_leadOf 58 = .ok (.ineg, 1) := by decide +kernel
theorem dX5_leadOf_59 : decode cX5_leadOf 59 = .ok (.iadd, 1) := by decide +kernel
theorem dX5_leadOf_60 : decode cX5_leadOf 60 = .ok (.istore_n 2, 1) := by decide +kernel
theorem dX5_leadOf_61 : decode cX5_leadOf 61 = .ok (.iinc 3 1, 3) := by decide +kernel
theorem dX5_leadOf_64 : decode cX5_leadOf 64 = .ok (.goto (-60), 3) := by decide +kernel
theorem dX5_leadOf_67 : decode cX5_leadOf 67 = .ok (.iload_n 2, 1) := by decide +kernel
theorem dX5_leadOf_68 : decode cX5_leadOf 68 = .ok (.ireturn, 1) := by decide +kernel
theorem dX5_nextDrawn_0 : decode cX5_nextDrawn 0 = .ok (.iconst 0, 1) := by decide +kernel
theorem dX5_nextDrawn_1 : decode cX5_nextDrawn 1 = .ok (.istore_n 2, 1) := by decide +kernel
theorem dX5_nextDrawn_2 : decode cX5_nextDrawn 2 = .ok (.iload_n 2, 1) := by decide +kernel
theorem dX5_nextDrawn_3 : decode cX5_nextDrawn 3 = .ok (.aload_n 0, 1) := by decide +kernel
theorem dX5_nextDrawn_4 : decode cX5_nextDrawn 4 = .ok (.getfield 104, 3) := by decide +kernel
theorem dX5_nextDrawn_7 : decode cX5_nextDrawn 7 = .ok (.if_icmp .ge 32, 3) := by decide +kernel
theorem dX5_nextDrawn_10 : decode cX5_nextDrawn 10 = .ok (.iload_n 1, 1) := by decide +kernel
theorem dX5_nextDrawn_11 : decode cX5_nextDrawn 11 = .ok (.iload_n 2, 1) := by decide +kernel
theorem dX5_nextDrawn_12 : decode cX5_nextDrawn 12 = .ok (.invokestatic 57, 3) := by decide +kernel
theorem dX5_nextDrawn_15 : decode cX5_nextDrawn 15 = .ok (.ifCond .ne 18, 3) := by decide +kernel
theorem dX5_nextDrawn_18 : decode cX5_nextDrawn 18 = .ok (.aload_n 0, 1) := by decide +kernel
theorem dX5_nextDrawn_19 : decode cX5_nextDrawn 19 = .ok (.getfield 22, 3) := by decide +kernel
theorem dX5_nextDrawn_22 : decode cX5_nextDrawn 22 = .ok (.iload_n 1, 1) := by decide +kernel
theorem dX5_nextDrawn_23 : decode cX5_nextDrawn 23 = .ok (.iconst 1, 1) := by decide +kernel
theorem dX5_nextDrawn_24 : decode cX5_nextDrawn 24 = .ok (.iload_n 2, 1) := by decide +kernel
theorem dX5_nextDrawn_25 : decode cX5_nextDrawn 25 = .ok (.ishl, 1) := by decide +kernel
theorem dX5_nextDrawn_26 : decode cX5_nextDrawn 26 = .ok (.ior, 1) := by decide +kernel
theorem dX5_nextDrawn_27 : decode cX5_nextDrawn 27 = .ok (.baload, 1) := by decide +kernel
theorem dX5_nextDrawn_28 : decode cX5_nextDrawn 28 = .ok (.ifCond .eq 5, 3) := by decide +kernel
theorem dX5_nextDrawn_31 : decode cX5_nextDrawn 31 = .ok (.iload_n 2, 1) := by decide +kernel
theorem dX5_nextDrawn_32 : decode cX5_nextDrawn 32 = .ok (.ireturn, 1) := by decide +kernel
theorem dX5_nextDrawn_33 : decode cX5_nextDrawn 33 = .ok (.iinc 2 1, 3) := by decide +kernel
theorem dX5_nextDrawn_36 : decode cX5_nextDrawn 36 = .ok (.goto (-34), 3) := by decide +kernel
theorem dX5_nextDrawn_39 : decode cX5_nextDrawn 39 = .ok (.iconst (-1), 1) := by decide +kernel
theorem dX5_nextDrawn_40 : decode cX5_nextDrawn 40 = .ok (.ireturn, 1) := by decide +kernel
theorem dX6_init_0 : decode cX6_init 0 = .ok (.aload_n 0, 1) := by decide +kernel
theorem dX6_init_1 : decode cX6_init 1 = .ok (.invokespecial 3, 3) := by decide +kernel
theorem dX6_init_4 : decode cX6_init 4 = .ok (.aload_n 0, 1) := by decide +kernel
theorem dX6_init_5 : decode cX6_init 5 = .ok (.aload_n 1, 1) := by decide +kernel
theorem dX6_init_6 : decode cX6_init 6 = .ok (.putfield 9, 3) := by decide +kernel
theorem dX6_init_9 : decode cX6_init 9 = .ok (.aload_n 0, 1) := by decide +kernel
theorem dX6_init_10 : decode cX6_init 10 = .ok (.aload_n 2, 1) := by decide +kernel
theorem dX6_init_11 : decode cX6_init 11 = .ok (.putfield 15, 3) := by decide +kernel
theorem dX6_init_14 : decode cX6_init 14 = .ok (.aload_n 0, 1) := by decide +kernel
theorem dX6_init_15 : decode cX6_init 15 = .ok (.aload_n 1, 1) := by decide +kernel
theorem dX6_init_16 : decode cX6_init 16 = .ok (.arraylength, 1) := by decide +kernel
theorem dX6_init_17 : decode cX6_init 17 = .ok (.iconst 1, 1) := by decide +kernel
theorem dX6_init_18 : decode cX6_init 18 = .ok (.iadd, 1) := by decide +kernel
theorem dX6_init_19 : decode cX6_init 19 = .ok (.newarray .int, 2) := by decide +kernel
theorem dX6_init_21 : decode cX6_init 21 = .ok (.putfield 18, 3) := by decide +kernel
theorem dX6_init_24 : decode cX6_init 24 = .ok (.aload_n 0, 1) := by decide +kernel
theorem dX6_init_25 : decode cX6_init 25 = .ok (.aload_n 1, 1) := by decide +kernel
theorem dX6_init_26 : decode cX6_init 26 = .ok (.arraylength, 1) := by decide +kernel
theorem dX6_init_27 : decode cX6_init 27 = .ok (.iconst 1, 1) := by decide +kernel
theorem dX6_init_28 : decode cX6_init 28 = .ok (.iadd, 1) := by decide +kernel
theorem dX6_init_29 : decode cX6_init 29 = .ok (.newarray .int, 2) := by decide +kernel
theorem dX6_init_31 : decode cX6_init 31 = .ok (.putfield 21, 3) := by decide +kernel
theorem dX6_init_34 : decode cX6_init 34 = .ok (.return_, 1) := by decide +kernel
theorem dX6_isName_0 : decode cX6_isName 0 = .ok (.iload_n 0, 1) := by decide +kernel
theorem dX6_isName_1 : decode cX6_isName 1 = .ok (.iconst 3, 1) := by decide +kernel
theorem dX6_isName_2 : decode cX6_isName 2 = .ok (.bipush 8, 2) := by decide +kernel
theorem dX6_isName_4 : decode cX6_isName 4 = .ok (.invokestatic 24, 3) := by decide +kernel
theorem dX6_isName_7 : decode cX6_isName 7 = .ok (.ireturn, 1) := by decide +kernel
theorem dX6_read_0 : decode cX6_read 0 = .ok (.aload_n 0, 1) := by decide +kernel
theorem dX6_read_1 : decode cX6_read 1 = .ok (.iload_n 1, 1) := by decide +kernel
theorem dX6_read_2 : decode cX6_read 2 = .ok (.aload_n 0, 1) := by decide +kernel
theorem dX6_read_3 : decode cX6_read 3 = .ok (.getfield 9, 3) := by decide +kernel
theorem dX6_read_6 : decode cX6_read 6 = .ok (.arraylength, 1) := by decide +kernel
theorem dX6_read_7 : decode cX6_read 7 = .ok (.invokestatic 28, 3) := by decide +kernel
theorem dX6_read_10 : decode cX6_read 10 = .ok (.putfield 34, 3) := by decide +kernel
theorem dX6_read_13 : decode cX6_read 13 = .ok (.aload_n 0, 1) := by decide +kernel
theorem dX6_read_14 : decode cX6_read 14 = .ok (.invokevirtual 38, 3) := by decide +kernel
theorem dX6_read_17 : decode cX6_read 17 = .ok (.aload_n 0, 1) := by decide +kernel
theorem dX6_read_18 : decode cX6_read 18 = .ok (.iconst 0, 1) := by decide +kernel
theorem dX6_read_19 : decode cX6_read 19 = .ok (.putfield 41, 3) := by decide +kernel
theorem dX6_read_22 : decode cX6_read 22 = .ok (.aload_n 0, 1) := by decide +kernel
theorem dX6_read_23 : decode cX6_read 23 = .ok (.iconst (-1), 1) := by decide +kernel
theorem dX6_read_24 : decode cX6_read 24 = .ok (.putfield 44, 3) := by decide +kernel
theorem dX6_read_27 : decode cX6_read 27 = .ok (.aload_n 0, 1) := by decide +kernel
theorem dX6_read_28 : decode cX6_read 28 = .ok (.bipush 9, 2) := by decide +kernel
theorem dX6_read_30 : decode cX6_read 30 = .ok (.aload_n 2, 1) := by decide +kernel
theorem dX6_read_31 : decode cX6_read 31 = .ok (.invokevirtual 47, 3) := by decide +kernel
theorem dX6_read_34 : decode cX6_read 34 = .ok (.aload_n 0, 1) := by decide +kernel
theorem dX6_read_35 : decode cX6_read 35 = .ok (.bipush 10, 2) := by decide +kernel
theorem dX6_read_37 : decode cX6_read 37 = .ok (.aload_n 3, 1) := by decide +kernel
theorem dX6_read_38 : decode cX6_read 38 = .ok (.invokevirtual 47, 3) := by decide +kernel
theorem dX6_read_41 : decode cX6_read 41 = .ok (.aload_n 0, 1) := by decide +kernel
theorem dX6_read_42 : decode cX6_read 42 = .ok (.iconst 0, 1) := by decide +kernel
theorem dX6_read_43 : decode cX6_read 43 = .ok (.invokevirtual 51, 3) := by decide +kernel
theorem dX6_read_46 : decode cX6_read 46 = .ok (.aload_n 0, 1) := by decide +kernel
theorem dX6_read_47 : decode cX6_read 47 = .ok (.getfield 44, 3) := by decide +kernel
theorem dX6_read_50 : decode cX6_read 50 = .ok (.ireturn, 1) := by decide +kernel
theorem dX6_splitTape_0 : decode cX6_splitTape 0 = .ok (.aload_n 0, 1) := by decide +kernel
theorem dX6_splitTape_1 : decode cX6_splitTape 1 = .ok (.iconst 0, 1) := by decide +kernel
theorem dX6_splitTape_2 : decode cX6_splitTape 2 = .ok (.putfield 55, 3) := by decide +kernel
theorem dX6_splitTape_5 : decode cX6_splitTape 5 = .ok (.iconst 0, 1) := by decide +kernel
theorem dX6_splitTape_6 : decode cX6_splitTape 6 = .ok (.istore_n 1, 1) := by decide +kernel
theorem dX6_splitTape_7 : decode cX6_splitTape 7 = .ok (.iconst 0, 1) := by decide +kernel
theorem dX6_splitTape_8 : decode cX6_splitTape 8 = .ok (.istore_n 2, 1) := by decide +kernel
theorem dX6_splitTape_9 : decode cX6_splitTape 9 = .ok (.iload_n 2, 1) := by decide +kernel
theorem dX6_splitTape_10 : decode cX6_splitTape 10 = .ok (.aload_n 0, 1) := by decide +kernel
theorem dX6_splitTape_11 : decode cX6_splitTape 11 = .ok (.getfield 34, 3) := by decide +kernel
theorem dX6_splitTape_14 : decode cX6_splitTape 14 = .ok (.if_icmp .ge 87, 3) := by decide +kernel
theorem dX6_splitTape_17 : decode cX6_splitTape 17 = .ok (.aload_n 0, 1) := by decide +kernel
theorem dX6_splitTape_18 : decode cX6_splitTape 18 = .ok (.getfield 9, 3) := by decide +kernel
theorem dX6_splitTape_21 : decode cX6_splitTape 21 = .ok (.iload_n 2, 1) := by decide +kernel
theorem dX6_splitTape_22 : decode cX6_splitTape 22 = .ok (.iaload, 1) := by decide +kernel
theorem dX6_splitTape_23 : decode cX6_splitTape 23 = .ok (.bipush 32, 2) := by decide +kernel
theorem dX6_splitTape_25 : decode cX6_splitTape 25 = .ok (.if_icmp .eq 14, 3) := by decide +kernel
theorem dX6_splitTape_28 : decode cX6_splitTape 28 = .ok (.aload_n 0, 1) := by decide +kernel
theorem dX6_splitTape_29 : decode cX6_splitTape 29 = .ok (.getfield 9, 3) := by decide +kernel
theorem dX6_splitTape_32 : decode cX6_splitTape 32 = .ok (.iload_n 2, 1) := by decide +kernel
theorem dX6_splitTape_33 : decode cX6_splitTape 33 = .ok (.iaload, 1) := by decide +kernel
theorem dX6_splitTape_34 : decode cX6_splitTape 34 = .ok (.bipush 10, 2) := by decide +kernel
theorem dX6_splitTape_36 : decode cX6_splitTape 36 = .ok (.if_icmp .ne 7, 3) := by decide +kernel
theorem dX6_splitTape_39 : decode cX6_splitTape 39 = .ok (.iconst 1, 1) := by decide +kernel
theorem dX6_splitTape_40 : decode cX6_splitTape 40 = .ok (.goto 4, 3) := by decide +kernel
theorem dX6_splitTape_43 : decode cX6_splitTape 43 = .ok (.iconst 0, 1) := by decide +kernel
theorem dX6_splitTape_44 : decode cX6_splitTape 44 = .ok (.istore_n 3, 1) := by decide +kernel
theorem dX6_splitTape_45 : decode cX6_splitTape 45 = .ok (.iload_n 2, 1) := by decide +kernel
theorem dX6_splitTape_46 : decode cX6_splitTape 46 = .ok (.iload_n 1, 1) := by decide +kernel
theorem dX6_splitTape_47 : decode cX6_splitTape 47 = .ok (.if_icmp .lt 48, 3) := by decide +kernel
theorem dX6_splitTape_50 : decode cX6_splitTape 50 = .ok (.iload_n 3, 1) := by decide +kernel
theorem dX6_splitTape_51 : decode cX6_splitTape 51 = .ok (.ifCond .eq 6, 3) := by decide +kernel
theorem dX6_splitTape_54 : decode cX6_splitTape 54 = .ok (.goto 41, 3) := by decide +kernel
theorem dX6_splitTape_57 : decode cX6_splitTape 57 = .ok (.aload_n 0, 1) := by decide +kernel
theorem dX6_splitTape_58 : decode cX6_splitTape 58 = .ok (.iload_n 2, 1) := by decide +kernel
theorem dX6_splitTape_59 : decode cX6_splitTape 59 = .ok (.invokevirtual 58, 3) := by decide +kernel
theorem dX6_splitTape_62 : decode cX6_splitTape 62 = .ok (.istore_n 1, 1) := by decide +kernel
theorem dX6_splitTape_63 : decode cX6_splitTape 63 = .ok (.aload_n 0, 1) := by decide +kernel
theorem dX6_splitTape_64 : decode cX6_splitTape 64 = .ok (.getfield 21, 3) := by decide +kernel
theorem dX6_splitTape_67 : decode cX6_splitTape 67 = .ok (.aload_n 0, 1) := by decide +kernel
theorem dX6_splitTape_68 : decode cX6_splitTape 68 = .ok (.getfield 55, 3) := by decide +kernel
theorem dX6_splitTape_71 : decode cX6_splitTape 71 = .ok (.iload_n 2, 1) := by decide +kernel
theorem dX6_splitTape_72 : decode cX6_splitTape 72 = .ok (.iastore, 1) := by decide +kernel
theorem dX6_splitTape_73 : decode cX6_splitTape 73 = .ok (.aload_n 0, 1) := by decide +kernel
theorem dX6_splitTape_74 : decode cX6_splitTape 74 = .ok (.getfield 18, 3) := by decide +kernel
theorem dX6_splitTape_77 : decode cX6_splitTape 77 = .ok (.aload_n 0, 1) := by decide +kernel
theorem dX6_splitTape_78 : decode cX6_splitTape 78 = .ok (.dup, 1) := by decide +kernel
theorem dX6_splitTape_79 : decode cX6_splitTape 79 = .ok (.getfield 55, 3) := by decide +kernel
theorem dX6_splitTape_82 : decode cX6_splitTape 82 = .ok (.dup_x1, 1) := by decide +kernel
theorem dX6_splitTape_83 : decode cX6_splitTape 83 = .ok (.iconst 1, 1) := by decide +kernel
theorem dX6_splitTape_84 : decode cX6_splitTape 84 = .ok (.iadd, 1) := by decide +kernel
theorem dX6_splitTape_85 : decode cX6_splitTape 85 = .ok (.putfield 55, 3) := by decide +kernel
theorem dX6_splitTape_88 : decode cX6_splitTape 88 = .ok (.aload_n 0, 1) := by decide +kernel
theorem dX6_splitTape_89 : decode cX6_splitTape 89 = .ok (.iload_n 2, 1) := by decide +kernel
theorem dX6_splitTape_90 : decode cX6_splitTape 90 = .ok (.iload_n 1, 1) := by decide +kernel
theorem dX6_splitTape_91 : decode cX6_splitTape 91 = .ok (.invokevirtual 62, 3) := by decide +kernel
theorem dX6_splitTape_94 : decode cX6_splitTape 94 = .ok (.iastore, 1) := by decide +kernel
theorem dX6_splitTape_95 : decode cX6_splitTape 95 = .ok (.iinc 2 1, 3) := by decide +kernel
theorem dX6_splitTape_98 : decode cX6_splitTape 98 = .ok (.goto (-89), 3) := by decide +kernel
theorem dX6_splitTape_101 : decode cX6_splitTape 101 = .ok (.aload_n 0, 1) := by decide +kernel
theorem dX6_splitTape_102 : decode cX6_splitTape 102 = .ok (.getfield 21, 3) := by decide +kernel
theorem dX6_splitTape_105 : decode cX6_splitTape 105 = .ok (.aload_n 0, 1) := by decide +kernel
theorem dX6_splitTape_106 : decode cX6_splitTape 106 = .ok (.getfield 55, 3) := by decide +kernel
theorem dX6_splitTape_109 : decode cX6_splitTape 109 = .ok (.aload_n 0, 1) := by decide +kernel
theorem dX6_splitTape_110 : decode cX6_splitTape 110 = .ok (.getfield 34, 3) := by decide +kernel
theorem dX6_splitTape_113 : decode cX6_splitTape 113 = .ok (.iastore, 1) := by decide +kernel
theorem dX6_splitTape_114 : decode cX6_splitTape 114 = .ok (.aload_n 0, 1) := by decide +kernel
theorem dX6_splitTape_115 : decode cX6_splitTape 115 = .ok (.getfield 18, 3) := by decide +kernel
theorem dX6_splitTape_118 : decode cX6_splitTape 118 = .ok (.aload_n 0, 1) := by decide +kernel
theorem dX6_splitTape_119 : decode cX6_splitTape 119 = .ok (.getfield 55, 3) := by decide +kernel
theorem dX6_splitTape_122 : decode cX6_splitTape 122 = .ok (.iconst 0, 1) := by decide +kernel
theorem dX6_splitTape_123 : decode cX6_splitTape 123 = .ok (.iastore, 1) := by decide +kernel
theorem dX6_splitTape_124 : decode cX6_splitTape 124 = .ok (.return_, 1) := by decide +kernel
theorem dX6_endOf_0 : decode cX6_endOf 0 = .ok (.iload_n 1, 1) := by decide +kernel
theorem dX6_endOf_1 : decode cX6_endOf 1 = .ok (.iconst 1, 1) := by decide +kernel
theorem dX6_endOf_2 : decode cX6_endOf 2 = .ok (.iadd, 1) := by decide +kernel
theorem dX6_endOf_3 : decode cX6_endOf 3 = .ok (.istore_n 2, 1) := by decide +kernel
theorem dX6_endOf_4 : decode cX6_endOf 4 = .ok (.aload_n 0, 1) := by decide +kernel
theorem dX6_endOf_5 : decode cX6_endOf 5 = .ok (.getfield 9, 3) := by decide +kernel
theorem dX6_endOf_8 : decode cX6_endOf 8 = .ok (.iload_n 1, 1) := by decide +kernel
theorem dX6_endOf_9 : decode cX6_endOf 9 = .ok (.iaload, 1) := by decide +kernel
theorem dX6_endOf_10 : decode cX6_endOf 10 = .ok (.invokestatic 65, 3) := by decide +kernel
theorem dX6_endOf_13 : decode cX6_endOf 13 = .ok (.ifCond .eq 29, 3) := by decide +kernel
theorem dX6_endOf_16 : decode cX6_endOf 16 = .ok (.iload_n 2, 1) := by decide +kernel
theorem dX6_endOf_17 : decode cX6_endOf 17 = .ok (.aload_n 0, 1) := by decide +kernel
theorem dX6_endOf_18 : decode cX6_endOf 18 = .ok (.getfield 34, 3) := by decide +kernel
theorem dX6_endOf_21 : decode cX6_endOf 21 = .ok (.if_icmp .ge 59, 3) := by decide +kernel
theorem dX6_endOf_24 : decode cX6_endOf 24 = .ok (.aload_n 0, 1) := by decide +kernel
theorem dX6_endOf_25 : decode cX6_endOf 25 = .ok (.getfield 9, 3) := by decide +kernel
theorem dX6_endOf_28 : decode cX6_endOf 28 = .ok (.iload_n 2, 1) := by decide +kernel
theorem dX6_endOf_29 : decode cX6_endOf 29 = .ok (.iaload, 1) := by decide +kernel
theorem dX6_endOf_30 : decode cX6_endOf 30 = .ok (.invokestatic 65, 3) := by decide +kernel
theorem dX6_endOf_33 : decode cX6_endOf 33 = .ok (.ifCond .eq 47, 3) := by decide +kernel
theorem dX6_endOf_36 : decode cX6_endOf 36 = .ok (.iinc 2 1, 3) := by decide +kernel
theorem dX6_endOf_39 : decode cX6_endOf 39 = .ok (.goto (-23), 3) := by decide +kernel
theorem dX6_endOf_42 : decode cX6_endOf 42 = .ok (.aload_n 0, 1) := by decide +kernel
theorem dX6_endOf_43 : decode cX6_endOf 43 = .ok (.getfield 9, 3) := by decide +kernel
theorem dX6_endOf_46 : decode cX6_endOf 46 = .ok (.iload_n 1, 1) := by decide +kernel
theorem dX6_endOf_47 : decode cX6_endOf 47 = .ok (.iaload, 1) := by decide +kernel
theorem dX6_endOf_48 : decode cX6_endOf 48 = .ok (.invokestatic 69, 3) := by decide +kernel
theorem dX6_endOf_51 : decode cX6_endOf 51 = .ok (.ifCond .eq 29, 3) := by decide +kernel
theorem dX6_endOf_54 : decode cX6_endOf 54 = .ok (.iload_n 2, 1) := by decide +kernel
theorem dX6_endOf_55 : decode cX6_endOf 55 = .ok (.aload_n 0, 1) := by decide +kernel
theorem dX6_endOf_56 : decode cX6_endOf 56 = .ok (.getfield 34, 3) := by decide +kernel
theorem dX6_endOf_59 : decode cX6_endOf 59 = .ok (.if_icmp .ge 21, 3) := by decide +kernel
theorem dX6_endOf_62 : decode cX6_endOf 62 = .ok (.aload_n 0, 1) := by decide +kernel
theorem dX6_endOf_63 : decode cX6_endOf 63 = .ok (.getfield 9, 3) := by decide +kernel
theorem dX6_endOf_66 : decode cX6_endOf 66 = .ok (.iload_n 2, 1) := by decide +kernel
theorem dX6_endOf_67 : decode cX6_endOf 67 = .ok (.iaload, 1) := by decide +kernel
theorem dX6_endOf_68 : decode cX6_endOf 68 = .ok (.invokestatic 69, 3) := by decide +kernel
theorem dX6_endOf_71 : decode cX6_endOf 71 = .ok (.ifCond .eq 9, 3) := by decide +kernel
theorem dX6_endOf_74 : decode cX6_endOf 74 = .ok (.iinc 2 1, 3) := by decide +kernel
theorem dX6_endOf_77 : decode cX6_endOf 77 = .ok (.goto (-23), 3) := by decide +kernel
theorem dX6_endOf_80 : decode cX6_endOf 80 = .ok (.iload_n 2, 1) := by decide +kernel
theorem dX6_endOf_81 : decode cX6_endOf 81 = .ok (.ireturn, 1) := by decide +kernel
theorem dX6_tokenOf_0 : decode cX6_tokenOf 0 = .ok (.aload_n 0, 1) := by decide +kernel
theorem dX6_tokenOf_1 : decode cX6_tokenOf 1 = .ok (.getfield 9, 3) := by decide +kernel
theorem dX6_tokenOf_4 : decode cX6_tokenOf 4 = .ok (.iload_n 1, 1) := by decide +kernel
theorem dX6_tokenOf_5 : decode cX6_tokenOf 5 = .ok (.iaload, 1) := by decide +kernel
theorem dX6_tokenOf_6 : decode cX6_tokenOf 6 = .ok (.istore_n 3, 1) := by decide +kernel
theorem dX6_tokenOf_7 : decode cX6_tokenOf 7 = .ok (.iload_n 3, 1) := by decide +kernel
theorem dX6_tokenOf_8 : decode cX6_tokenOf 8 = .ok (.invokestatic 65, 3) := by decide +kernel
theorem dX6_tokenOf_11 : decode cX6_tokenOf 11 = .ok (.ifCond .eq 10, 3) := by decide +kernel
theorem dX6_tokenOf_14 : decode cX6_tokenOf 14 = .ok (.aload_n 0, 1) := by decide +kernel
theorem dX6_tokenOf_15 : decode cX6_tokenOf 15 = .ok (.iload_n 1, 1) := by decide +kernel
theorem dX6_tokenOf_16 : decode cX6_tokenOf 16 = .ok (.iload_n 2, 1) := by decide +kernel
theorem dX6_tokenOf_17 : decode cX6_tokenOf 17 = .ok (.invokevirtual 72, 3) := by decide +kernel
theorem dX6_tokenOf_20 : decode cX6_tokenOf 20 = .ok (.ireturn, 1) := by decide +kernel
theorem dX6_tokenOf_21 : decode cX6_tokenOf 21 = .ok (.iload_n 3, 1) := by decide +kernel
theorem dX6_tokenOf_22 : decode cX6_tokenOf 22 = .ok (.invokestatic 69, 3) := by decide +kernel
theorem dX6_tokenOf_25 : decode cX6_tokenOf 25 = .ok (.ifCond .eq 16, 3) := by decide +kernel
theorem dX6_tokenOf_28 : decode cX6_tokenOf 28 = .ok (.iload_n 2, 1) := by decide +kernel
theorem dX6_tokenOf_29 : decode cX6_tokenOf 29 = .ok (.iload_n 1, 1) := by decide +kernel
theorem dX6_tokenOf_30 : decode cX6_tokenOf 30 = .ok (.isub, 1) := by decide +kernel
theorem dX6_tokenOf_31 : decode cX6_tokenOf 31 = .ok (.iconst 4, 1) := by decide +kernel
theorem dX6_tokenOf_32 : decode cX6_tokenOf 32 = .ok (.if_icmp .gt 7, 3) := by decide +kernel
theorem dX6_tokenOf_35 : decode cX6_tokenOf 35 = .ok (.iconst 1, 1) := by decide +kernel
theorem dX6_tokenOf_36 : decode cX6_tokenOf 36 = .ok (.goto 4, 3) := by decide +kernel
theorem dX6_tokenOf_39 : decode cX6_tokenOf 39 = .ok (.iconst 2, 1) := by decide +kernel
theorem dX6_tokenOf_40 : decode cX6_tokenOf 40 = .ok (.ireturn, 1) := by decide +kernel
theorem dX6_tokenOf_41 : decode cX6_tokenOf 41 = .ok (.iload_n 3, 1) := by decide +kernel
theorem dX6_tokenOf_42 : decode cX6_tokenOf 42 = .ok (.bipush 40, 2) := by decide +kernel
theorem dX6_tokenOf_44 : decode cX6_tokenOf 44 = .ok (.if_icmp .eq 15, 3) := by decide +kernel
theorem dX6_tokenOf_47 : decode cX6_tokenOf 47 = .ok (.iload_n 3, 1) := by decide +kernel
theorem dX6_tokenOf_48 : decode cX6_tokenOf 48 = .ok (.bipush 41, 2) := by decide +kernel
theorem dX6_tokenOf_50 : decode cX6_tokenOf 50 = .ok (.if_icmp .eq 9, 3) := by decide +kernel
theorem dX6_tokenOf_53 : decode cX6_tokenOf 53 = .ok (.iload_n 3, 1) := by decide +kernel
theorem dX6_tokenOf_54 : decode cX6_tokenOf 54 = .ok (.bipush 59, 2) := by decide +kernel
theorem dX6_tokenOf_56 : decode cX6_tokenOf 56 = .ok (.if_icmp .ne 7, 3) := by decide +kernel
theorem dX6_tokenOf_59 : decode cX6_tokenOf 59 = .ok (.iconst 1, 1) := by decide +kernel
theorem dX6_tokenOf_60 : decode cX6_tokenOf 60 = .ok (.goto 4, 3) := by decide +kernel
theorem dX6_tokenOf_63 : decode cX6_tokenOf 63 = .ok (.iconst 0, 1) := by decide +kernel
theorem dX6_tokenOf_64 : decode cX6_tokenOf 64 = .ok (.istore 4, 2) := by decide +kernel
theorem dX6_tokenOf_66 : decode cX6_tokenOf 66 = .ok (.iload_n 3, 1) := by decide +kernel
theorem dX6_tokenOf_67 : decode cX6_tokenOf 67 = .ok (.bipush 43, 2) := by decide +kernel
theorem dX6_tokenOf_69 : decode cX6_tokenOf 69 = .ok (.if_icmp .eq 27, 3) := by decide +kernel
theorem dX6_tokenOf_72 : decode cX6_tokenOf 72 = .ok (.iload_n 3, 1) := by decide +kernel
theorem dX6_tokenOf_73 : decode cX6_tokenOf 73 = .ok (.bipush 45, 2) := by decide +kernel
theorem dX6_tokenOf_75 : decode cX6_tokenOf 75 = .ok (.if_icmp .eq 21, 3) := by decide +kernel
theorem dX6_tokenOf_78 : decode cX6_tokenOf 78 = .ok (.iload_n 3, 1) := by decide +kernel
theorem dX6_tokenOf_79 : decode cX6_tokenOf 79 = .ok (.bipush 42, 2) := by decide +kernel
theorem dX6_tokenOf_81 : decode cX6_tokenOf 81 = .ok (.if_icmp .eq 15, 3) := by decide +kernel
theorem dX6_tokenOf_84 : decode cX6_tokenOf 84 = .ok (.iload_n 3, 1) := by decide +kernel
theorem dX6_tokenOf_85 : decode cX6_tokenOf 85 = .ok (.bipush 60, 2) := by decide +kernel
theorem dX6_tokenOf_87 : decode cX6_tokenOf 87 = .ok (.if_icmp .eq 9, 3) := by decide +kernel
theorem dX6_tokenOf_90 : decode cX6_tokenOf 90 = .ok (.iload_n 3, 1) := by decide +kernel
theorem dX6_tokenOf_91 : decode cX6_tokenOf 91 = .ok (.bipush 61, 2) := by decide +kernel
theorem dX6_tokenOf_93 : decode cX6_tokenOf 93 = .ok (.if_icmp .ne 7, 3) := by decide +kernel
theorem dX6_tokenOf_96 : decode cX6_tokenOf 96 = .ok (.iconst 1, 1) := by decide +kernel
theorem dX6_tokenOf_97 : decode cX6_tokenOf 97 = .ok (.goto 4, 3) := by decide +kernel
theorem dX6_tokenOf_100 : decode cX6_tokenOf 100 = .ok (.iconst 0, 1) := by decide +kernel
theorem dX6_tokenOf_101 : decode cX6_tokenOf 101 = .ok (.istore 5, 2) := by decide +kernel
theorem dX6_tokenOf_103 : decode cX6_tokenOf 103 = .ok (.iload 4, 2) := by decide +kernel
theorem dX6_tokenOf_105 : decode cX6_tokenOf 105 = .ok (.ifCond .ne 8, 3) := by decide +kernel
theorem dX6_tokenOf_108 : decode cX6_tokenOf 108 = .ok (.iload 5, 2) := by decide +kernel
theorem dX6_tokenOf_110 : decode cX6_tokenOf 110 = .ok (.ifCond .eq 7, 3) := by decide +kernel
theorem dX6_tokenOf_113 : decode cX6_tokenOf 113 = .ok (.iload_n 3, 1) := by decide +kernel
theorem dX6_tokenOf_114 : decode cX6_tokenOf 114 = .ok (.goto 4, 3) := by decide +kernel
theorem dX6_tokenOf_117 : decode cX6_tokenOf 117 = .ok (.iconst 2, 1) := by decide +kernel
theorem dX6_tokenOf_118 : decode cX6_tokenOf 118 = .ok (.ireturn, 1) := by decide +kernel
theorem dX6_wordOf_0 : decode cX6_wordOf 0 = .ok (.aload_n 0, 1) := by decide +kernel
theorem dX6_wordOf_1 : decode cX6_wordOf 1 = .ok (.iload_n 1, 1) := by decide +kernel
theorem dX6_wordOf_2 : decode cX6_wordOf 2 = .ok (.iload_n 2, 1) := by decide +kernel
theorem dX6_wordOf_3 : decode cX6_wordOf 3 = .ok (.ldc 75, 2) := by decide +kernel
theorem dX6_wordOf_5 : decode cX6_wordOf 5 = .ok (.invokevirtual 76, 3) := by decide +kernel
theorem dX6_wordOf_8 : decode cX6_wordOf 8 = .ok (.ifCond .eq 5, 3) := by decide +kernel
theorem dX6_wordOf_11 : decode cX6_wordOf 11 = .ok (.iconst 3, 1) := by decide +kernel
theorem dX6_wordOf_12 : decode cX6_wordOf 12 = .ok (.ireturn, 1) := by decide +kernel
theorem dX6_wordOf_13 : decode cX6_wordOf 13 = .ok (.aload_n 0, 1) := by decide +kernel
theorem dX6_wordOf_14 : decode cX6_wordOf 14 = .ok (.iload_n 1, 1) := by decide +kernel
theorem dX6_wordOf_15 : decode cX6_wordOf 15 = .ok (.iload_n 2, 1) := by decide +kernel
theorem dX6_wordOf_16 : decode cX6_wordOf 16 = .ok (.ldc 80, 2) := by decide +kernel
theorem dX6_wordOf_18 : decode cX6_wordOf 18 = .ok (.invokevirtual 76, 3) := by decide +kernel
theorem dX6_wordOf_21 : decode cX6_wordOf 21 = .ok (.ifCond .eq 5, 3) := by decide +kernel
theorem dX6_wordOf_24 : decode cX6_wordOf 24 = .ok (.iconst 4, 1) := by decide +kernel
theorem dX6_wordOf_25 : decode cX6_wordOf 25 = .ok (.ireturn, 1) := by decide +kernel
theorem dX6_wordOf_26 : decode cX6_wordOf 26 = .ok (.aload_n 0, 1) := by decide +kernel
theorem dX6_wordOf_27 : decode cX6_wordOf 27 = .ok (.iload_n 1, 1) := by decide +kernel
theorem dX6_wordOf_28 : decode cX6_wordOf 28 = .ok (.iload_n 2, 1) := by decide +kernel
theorem dX6_wordOf_29 : decode cX6_wordOf 29 = .ok (.ldc 82, 2) := by decide +kernel
theorem dX6_wordOf_31 : decode cX6_wordOf 31 = .ok (.invokevirtual 76, 3) := by decide +kernel
theorem dX6_wordOf_34 : decode cX6_wordOf 34 = .ok (.ifCond .eq 5, 3) := by decide +kernel
theorem dX6_wordOf_37 : decode cX6_wordOf 37 = .ok (.iconst 5, 1) := by decide +kernel
theorem dX6_wordOf_38 : decode cX6_wordOf 38 = .ok (.ireturn, 1) := by decide +kernel
theorem dX6_wordOf_39 : decode cX6_wordOf 39 = .ok (.aload_n 0, 1) := by decide +kernel
theorem dX6_wordOf_40 : decode cX6_wordOf 40 = .ok (.iload_n 1, 1) := by decide +kernel
theorem dX6_wordOf_41 : decode cX6_wordOf 41 = .ok (.iload_n 2, 1) := by decide +kernel
theorem dX6_wordOf_42 : decode cX6_wordOf 42 = .ok (.ldc 84, 2) := by decide +kernel
theorem dX6_wordOf_44 : decode cX6_wordOf 44 = .ok (.invokevirtual 76, 3) := by decide +kernel
theorem dX6_wordOf_47 : decode cX6_wordOf 47 = .ok (.ifCond .eq 6, 3) := by decide +kernel
theorem dX6_wordOf_50 : decode cX6_wordOf 50 = .ok (.bipush 6, 2) := by decide +kernel
theorem dX6_wordOf_52 : decode cX6_wordOf 52 = .ok (.ireturn, 1) := by decide +kernel
theorem dX6_wordOf_53 : decode cX6_wordOf 53 = .ok (.aload_n 0, 1) := by decide +kernel
theorem dX6_wordOf_54 : decode cX6_wordOf 54 = .ok (.iload_n 1, 1) := by decide +kernel
theorem dX6_wordOf_55 : decode cX6_wordOf 55 = .ok (.iload_n 2, 1) := by decide +kernel
theorem dX6_wordOf_56 : decode cX6_wordOf 56 = .ok (.ldc 86, 2) := by decide +kernel
theorem dX6_wordOf_58 : decode cX6_wordOf 58 = .ok (.invokevirtual 76, 3) := by decide +kernel
theorem dX6_wordOf_61 : decode cX6_wordOf 61 = .ok (.ifCond .eq 6, 3) := by decide +kernel
theorem dX6_wordOf_64 : decode cX6_wordOf 64 = .ok (.bipush 7, 2) := by decide +kernel
theorem dX6_wordOf_66 : decode cX6_wordOf 66 = .ok (.ireturn, 1) := by decide +kernel
theorem dX6_wordOf_67 : decode cX6_wordOf 67 = .ok (.aload_n 0, 1) := by decide +kernel
theorem dX6_wordOf_68 : decode cX6_wordOf 68 = .ok (.iload_n 1, 1) := by decide +kernel
theorem dX6_wordOf_69 : decode cX6_wordOf 69 = .ok (.iload_n 2, 1) := by decide +kernel
theorem dX6_wordOf_70 : decode cX6_wordOf 70 = .ok (.ldc 88, 2) := by decide +kernel
theorem dX6_wordOf_72 : decode cX6_wordOf 72 = .ok (.invokevirtual 76, 3) := by decide +kernel
theorem dX6_wordOf_75 : decode cX6_wordOf 75 = .ok (.ifCond .eq 6, 3) := by decide +kernel
theorem dX6_wordOf_78 : decode cX6_wordOf 78 = .ok (.bipush 8, 2) := by decide +kernel
theorem dX6_wordOf_80 : decode cX6_wordOf 80 = .ok (.ireturn, 1) := by decide +kernel
theorem dX6_wordOf_81 : decode cX6_wordOf 81 = .ok (.aload_n 0, 1) := by decide +kernel
theorem dX6_wordOf_82 : decode cX6_wordOf 82 = .ok (.iload_n 1, 1) := by decide +kernel
theorem dX6_wordOf_83 : decode cX6_wordOf 83 = .ok (.iload_n 2, 1) := by decide +kernel
theorem dX6_wordOf_84 : decode cX6_wordOf 84 = .ok (.ldc 90, 2) := by decide +kernel
theorem dX6_wordOf_86 : decode cX6_wordOf 86 = .ok (.invokevirtual 76, 3) := by decide +kernel
theorem dX6_wordOf_89 : decode cX6_wordOf 89 = .ok (.ifCond .eq 6, 3) := by decide +kernel
theorem dX6_wordOf_92 : decode cX6_wordOf 92 = .ok (.bipush 9, 2) := by decide +kernel
theorem dX6_wordOf_94 : decode cX6_wordOf 94 = .ok (.ireturn, 1) := by decide +kernel
theorem dX6_wordOf_95 : decode cX6_wordOf 95 = .ok (.aload_n 0, 1) := by decide +kernel
theorem dX6_wordOf_96 : decode cX6_wordOf 96 = .ok (.iload_n 1, 1) := by decide +kernel
theorem dX6_wordOf_97 : decode cX6_wordOf 97 = .ok (.iload_n 2, 1) := by decide +kernel
theorem dX6_wordOf_98 : decode cX6_wordOf 98 = .ok (.ldc 92, 2) := by decide +kernel
theorem dX6_wordOf_100 : decode cX6_wordOf 100 = .ok (.invokevirtual 76, 3) := by decide +kernel
theorem dX6_wordOf_103 : decode cX6_wordOf 103 = .ok (.ifCond .eq 6, 3) := by decide +kernel
theorem dX6_wordOf_106 : decode cX6_wordOf 106 = .ok (.bipush 10, 2) := by decide +kernel
theorem dX6_wordOf_108 : decode cX6_wordOf 108 = .ok (.ireturn, 1) := by decide +kernel
theorem dX6_wordOf_109 : decode cX6_wordOf 109 = .ok (.aload_n 0, 1) := by decide +kernel
theorem dX6_wordOf_110 : decode cX6_wordOf 110 = .ok (.iload_n 1, 1) := by decide +kernel
theorem dX6_wordOf_111 : decode cX6_wordOf 111 = .ok (.iload_n 2, 1) := by decide +kernel
theorem dX6_wordOf_112 : decode cX6_wordOf 112 = .ok (.ldc 94, 2) := by decide +kernel
theorem dX6_wordOf_114 : decode cX6_wordOf 114 = .ok (.invokevirtual 76, 3) := by decide +kernel
theorem dX6_wordOf_117 : decode cX6_wordOf 117 = .ok (.ifCond .eq 6, 3) := by decide +kernel
theorem dX6_wordOf_120 : decode cX6_wordOf 120 = .ok (.bipush 11, 2) := by decide +kernel
theorem dX6_wordOf_122 : decode cX6_wordOf 122 = .ok (.ireturn, 1) := by decide +kernel
theorem dX6_wordOf_123 : decode cX6_wordOf 123 = .ok (.aload_n 0, 1) := by decide +kernel
theorem dX6_wordOf_124 : decode cX6_wordOf 124 = .ok (.iload_n 1, 1) := by decide +kernel
theorem dX6_wordOf_125 : decode cX6_wordOf 125 = .ok (.iload_n 2, 1) := by decide +kernel
theorem dX6_wordOf_126 : decode cX6_wordOf 126 = .ok (.ldc 96, 2) := by decide +kernel
theorem dX6_wordOf_128 : decode cX6_wordOf 128 = .ok (.invokevirtual 76, 3) := by decide +kernel
theorem dX6_wordOf_131 : decode cX6_wordOf 131 = .ok (.ifCond .eq 6, 3) := by decide +kernel
theorem dX6_wordOf_134 : decode cX6_wordOf 134 = .ok (.bipush 12, 2) := by decide +kernel
theorem dX6_wordOf_136 : decode cX6_wordOf 136 = .ok (.ireturn, 1) := by decide +kernel
theorem dX6_wordOf_137 : decode cX6_wordOf 137 = .ok (.aload_n 0, 1) := by decide +kernel
theorem dX6_wordOf_138 : decode cX6_wordOf 138 = .ok (.iload_n 1, 1) := by decide +kernel
theorem dX6_wordOf_139 : decode cX6_wordOf 139 = .ok (.iload_n 2, 1) := by decide +kernel
theorem dX6_wordOf_140 : decode cX6_wordOf 140 = .ok (.ldc 98, 2) := by decide +kernel
theorem dX6_wordOf_142 : decode cX6_wordOf 142 = .ok (.invokevirtual 76, 3) := by decide +kernel
theorem dX6_wordOf_145 : decode cX6_wordOf 145 = .ok (.ifCond .eq 6, 3) := by decide +kernel
theorem dX6_wordOf_148 : decode cX6_wordOf 148 = .ok (.bipush 13, 2) := by decide +kernel
theorem dX6_wordOf_150 : decode cX6_wordOf 150 = .ok (.ireturn, 1) := by decide +kernel
theorem dX6_wordOf_151 : decode cX6_wordOf 151 = .ok (.iconst 2, 1) := by decide +kernel
theorem dX6_wordOf_152 : decode cX6_wordOf 152 = .ok (.ireturn, 1) := by decide +kernel
theorem dX6_isSpelt_0 : decode cX6_isSpelt 0 = .ok (.iload_n 2, 1) := by decide +kernel
theorem dX6_isSpelt_1 : decode cX6_isSpelt 1 = .ok (.iload_n 1, 1) := by decide +kernel
theorem dX6_isSpelt_2 : decode cX6_isSpelt 2 = .ok (.isub, 1) := by decide +kernel
theorem dX6_isSpelt_3 : decode cX6_isSpelt 3 = .ok (.aload_n 3, 1) := by decide +kernel
theorem dX6_isSpelt_4 : decode cX6_isSpelt 4 = .ok (.invokevirtual 100, 3) := by decide +kernel
theorem dX6_isSpelt_7 : decode cX6_isSpelt 7 = .ok (.if_icmp .eq 5, 3) := by decide +kernel
theorem dX6_isSpelt_10 : decode cX6_isSpelt 10 = .ok (.iconst 0, 1) := by decide +kernel
theorem dX6_isSpelt_11 : decode cX6_isSpelt 11 = .ok (.ireturn, 1) := by decide +kernel
theorem dX6_isSpelt_12 : decode cX6_isSpelt 12 = .ok (.iconst 0, 1) := by decide +kernel
theorem dX6_isSpelt_13 : decode cX6_isSpelt 13 = .ok (.istore 4, 2) := by decide +kernel
theorem dX6_isSpelt_15 : decode cX6_isSpelt 15 = .ok (.iload 4, 2) := by decide +kernel
theorem dX6_isSpelt_17 : decode cX6_isSpelt 17 = .ok (.aload_n 3, 1) := by decide +kernel
theorem dX6_isSpelt_18 : decode cX6_isSpelt 18 = .ok (.invokevirtual 100, 3) := by decide +kernel
theorem dX6_isSpelt_21 : decode cX6_isSpelt 21 = .ok (.if_icmp .ge 29, 3) := by decide +kernel
theorem dX6_isSpelt_24 : decode cX6_isSpelt 24 = .ok (.aload_n 0, 1) := by decide +kernel
theorem dX6_isSpelt_25 : decode cX6_isSpelt 25 = .ok (.getfield 9, 3) := by decide +kernel
theorem dX6_isSpelt_28 : decode cX6_isSpelt 28 = .ok (.iload_n 1, 1) := by decide +kernel
theorem dX6_isSpelt_29 : decode cX6_isSpelt 29 = .ok (.iload 4, 2) := by decide +kernel
theorem dX6_isSpelt_31 : decode cX6_isSpelt 31 = .ok (.iadd, 1) := by decide +kernel
theorem dX6_isSpelt_32 : decode cX6_isSpelt 32 = .ok (.iaload, 1) := by decide +kernel
theorem dX6_isSpelt_33 : decode cX6_isSpelt 33 = .ok (.aload_n 3, 1) := by decide +kernel
theorem dX6_isSpelt_34 : decode cX6_isSpelt 34 = .ok (.iload 4, 2) := by decide +kernel
theorem dX6_isSpelt_36 : decode cX6_isSpelt 36 = .ok (.invokevirtual 106, 3) := by decide +kernel
theorem dX6_isSpelt_39 : decode cX6_isSpelt 39 = .ok (.if_icmp .eq 5, 3) := by decide +kernel
theorem dX6_isSpelt_42 : decode cX6_isSpelt 42 = .ok (.iconst 0, 1) := by decide +kernel
theorem dX6_isSpelt_43 : decode cX6_isSpelt 43 = .ok (.ireturn, 1) := by decide +kernel
theorem dX6_isSpelt_44 : decode cX6_isSpelt 44 = .ok (.iinc 4 1, 3) := by decide +kernel
theorem dX6_isSpelt_47 : decode cX6_isSpelt 47 = .ok (.goto (-32), 3) := by decide +kernel
theorem dX6_isSpelt_50 : decode cX6_isSpelt 50 = .ok (.iconst 1, 1) := by decide +kernel
theorem dX6_isSpelt_51 : decode cX6_isSpelt 51 = .ok (.ireturn, 1) := by decide +kernel
theorem dX6_numberAt_0 : decode cX6_numberAt 0 = .ok (.iconst 0, 1) := by decide +kernel
theorem dX6_numberAt_1 : decode cX6_numberAt 1 = .ok (.istore_n 2, 1) := by decide +kernel
theorem dX6_numberAt_2 : decode cX6_numberAt 2 = .ok (.iload_n 1, 1) := by decide +kernel
theorem dX6_numberAt_3 : decode cX6_numberAt 3 = .ok (.istore_n 3, 1) := by decide +kernel
theorem dX6_numberAt_4 : decode cX6_numberAt 4 = .ok (.iload_n 3, 1) := by decide +kernel
theorem dX6_numberAt_5 : decode cX6_numberAt 5 = .ok (.aload_n 0, 1) := by decide +kernel
theorem dX6_numberAt_6 : decode cX6_numberAt 6 = .ok (.getfield 34, 3) := by decide +kernel
theorem dX6_numberAt_9 : decode cX6_numberAt 9 = .ok (.if_icmp .ge 36, 3) := by decide +kernel
theorem dX6_numberAt_12 : decode cX6_numberAt 12 = .ok (.aload_n 0, 1) := by decide +kernel
theorem dX6_numberAt_13 : decode cX6_numberAt 13 = .ok (.getfield 9, 3) := by decide +kernel
theorem dX6_numberAt_16 : decode cX6_numberAt 16 = .ok (.iload_n 3, 1) := by decide +kernel
theorem dX6_numberAt_17 : decode cX6_numberAt 17 = .ok (.iaload, 1) := by decide +kernel
theorem dX6_numberAt_18 : decode cX6_numberAt 18 = .ok (.invokestatic 69, 3) := by decide +kernel
theorem dX6_numberAt_21 : decode cX6_numberAt 21 = .ok (.ifCond .eq 24, 3) := by decide +kernel
theorem dX6_numberAt_24 : decode cX6_numberAt 24 = .ok (.iload_n 2, 1) := by decide +kernel
theorem dX6_numberAt_25 : decode cX6_numberAt 25 = .ok (.bipush 10, 2) := by decide +kernel
theorem dX6_numberAt_27 : decode cX6_numberAt 27 = .ok (.imul, 1) := by decide +kernel
theorem dX6_numberAt_28 : decode cX6_numberAt 28 = .ok (.aload_n 0, 1) := by decide +kernel
theorem dX6_numberAt_29 : decode cX6_numberAt 29 = .ok (.getfield 9, 3) := by decide +kernel
theorem dX6_numberAt_32 : decode cX6_numberAt 32 = .ok (.iload_n 3, 1) := by decide +kernel
theorem dX6_numberAt_33 : decode cX6_numberAt 33 = .ok (.iaload, 1) := by decide +kernel
theorem dX6_numberAt_34 : decode cX6_numberAt 34 = .ok (.iadd, 1) := by decide +kernel
theorem dX6_numberAt_35 : decode cX6_numberAt 35 = .ok (.bipush 48, 2) := by decide +kernel
theorem dX6_numberAt_37 : decode cX6_numberAt 37 = .ok (.isub, 1) := by decide +kernel
theorem dX6_numberAt_38 : decode cX6_numberAt 38 = .ok (.istore_n 2, 1) := by decide +kernel
theorem dX6_numberAt_39 : decode cX6_numberAt 39 = .ok (.iinc 3 1, 3) := by decide +kernel
theorem dX6_numberAt_42 : decode cX6_numberAt 42 = .ok (.goto (-38), 3) := by decide +kernel
theorem dX6_numberAt_45 : decode cX6_numberAt 45 = .ok (.iload_n 2, 1) := by decide +kernel
theorem dX6_numberAt_46 : decode cX6_numberAt 46 = .ok (.ireturn, 1) := by decide +kernel
theorem dX6_isLetter_0 : decode cX6_isLetter 0 = .ok (.iload_n 0, 1) := by decide +kernel
theorem dX6_isLetter_1 : decode cX6_isLetter 1 = .ok (.bipush 97, 2) := by decide +kernel
theorem dX6_isLetter_3 : decode cX6_isLetter 3 = .ok (.if_icmp .lt 13, 3) := by decide +kernel
theorem dX6_isLetter_6 : decode cX6_isLetter 6 = .ok (.iload_n 0, 1) := by decide +kernel
theorem dX6_isLetter_7 : decode cX6_isLetter 7 = .ok (.bipush 122, 2) := by decide +kernel
theorem dX6_isLetter_9 : decode cX6_isLetter 9 = .ok (.if_icmp .gt 7, 3) := by decide +kernel
theorem dX6_isLetter_12 : decode cX6_isLetter 12 = .ok (.iconst 1, 1) := by decide +kernel
theorem dX6_isLetter_13 : decode cX6_isLetter 13 = .ok (.goto 4, 3) := by decide +kernel
theorem dX6_isLetter_16 : decode cX6_isLetter 16 = .ok (.iconst 0, 1) := by decide +kernel
theorem dX6_isLetter_17 : decode cX6_isLetter 17 = .ok (.ireturn, 1) := by decide +kernel
theorem dX6_isDigit_0 : decode cX6_isDigit 0 = .ok (.iload_n 0, 1) := by decide +kernel
theorem dX6_isDigit_1 : decode cX6_isDigit 1 = .ok (.bipush 48, 2) := by decide +kernel
theorem dX6_isDigit_3 : decode cX6_isDigit 3 = .ok (.if_icmp .lt 13, 3) := by decide +kernel
theorem dX6_isDigit_6 : decode cX6_isDigit 6 = .ok (.iload_n 0, 1) := by decide +kernel
theorem dX6_isDigit_7 : decode cX6_isDigit 7 = .ok (.bipush 57, 2) := by decide +kernel
theorem dX6_isDigit_9 : decode cX6_isDigit 9 = .ok (.if_icmp .gt 7, 3) := by decide +kernel
theorem dX6_isDigit_12 : decode cX6_isDigit 12 = .ok (.iconst 1, 1) := by decide +kernel
theorem dX6_isDigit_13 : decode cX6_isDigit 13 = .ok (.goto 4, 3) := by decide +kernel
theorem dX6_isDigit_16 : decode cX6_isDigit 16 = .ok (.iconst 0, 1) := by decide +kernel
theorem dX6_isDigit_17 : decode cX6_isDigit 17 = .ok (.ireturn, 1) := by decide +kernel
theorem dX6_readPart_0 : decode cX6_readPart 0 = .ok (.aload_n 0, 1) := by decide +kernel
theorem dX6_readPart_1 : decode cX6_readPart 1 = .ok (.aload_n 2, 1) := by decide +kernel
theorem dX6_readPart_2 : decode cX6_readPart 2 = .ok (.putfield 15, 3) := by decide +kernel
theorem dX6_readPart_5 : decode cX6_readPart 5 = .ok (.aload_n 0, 1) := by decide +kernel
theorem dX6_readPart_6 : decode cX6_readPart 6 = .ok (.iconst 0, 1) := by decide +kernel
theorem dX6_readPart_7 : decode cX6_readPart 7 = .ok (.putfield 110, 3) := by decide +kernel
theorem dX6_readPart_10 : decode cX6_readPart 10 = .ok (.aload_n 0, 1) := by decide +kernel
theorem dX6_readPart_11 : decode cX6_readPart 11 = .ok (.iload_n 1, 1) := by decide +kernel
theorem dX6_readPart_12 : decode cX6_readPart 12 = .ok (.invokevirtual 51, 3) := by decide +kernel
theorem dX6_readPart_15 : decode cX6_readPart 15 = .ok (.aload_n 0, 1) := by decide +kernel
theorem dX6_readPart_16 : decode cX6_readPart 16 = .ok (.iconst 0, 1) := by decide +kernel
theorem dX6_readPart_17 : decode cX6_readPart 17 = .ok (.invokevirtual 113, 3) := by decide +kernel
theorem dX6_readPart_20 : decode cX6_readPart 20 = .ok (.aload_n 0, 1) := by decide +kernel
theorem dX6_readPart_21 : decode cX6_readPart 21 = .ok (.bipush 59, 2) := by decide +kernel
theorem dX6_readPart_23 : decode cX6_readPart 23 = .ok (.invokevirtual 51, 3) := by decide +kernel
theorem dX6_readPart_26 : decode cX6_readPart 26 = .ok (.aload_n 0, 1) := by decide +kernel
theorem dX6_readPart_27 : decode cX6_readPart 27 = .ok (.getfield 15, 3) := by decide +kernel
theorem dX6_readPart_30 : decode cX6_readPart 30 = .ok (.aload_n 0, 1) := by decide +kernel
theorem dX6_readPart_31 : decode cX6_readPart 31 = .ok (.getfield 110, 3) := by decide +kernel
theorem dX6_readPart_34 : decode cX6_readPart 34 = .ok (.iconst (-1), 1) := by decide +kernel
theorem dX6_readPart_35 : decode cX6_readPart 35 = .ok (.iastore, 1) := by decide +kernel
theorem dX6_readPart_36 : decode cX6_readPart 36 = .ok (.return_, 1) := by decide +kernel
theorem dX6_readOr_0 : decode cX6_readOr 0 = .ok (.aload_n 0, 1) := by decide +kernel
theorem dX6_readOr_1 : decode cX6_readOr 1 = .ok (.iload_n 1, 1) := by decide +kernel
theorem dX6_readOr_2 : decode cX6_readOr 2 = .ok (.invokevirtual 116, 3) := by decide +kernel
theorem dX6_readOr_5 : decode cX6_readOr 5 = .ok (.iconst 0, 1) := by decide +kernel
theorem dX6_readOr_6 : decode cX6_readOr 6 = .ok (.istore_n 2, 1) := by decide +kernel
theorem dX6_readOr_7 : decode cX6_readOr 7 = .ok (.iload_n 2, 1) := by decide +kernel
theorem dX6_readOr_8 : decode cX6_readOr 8 = .ok (.aload_n 0, 1) := by decide +kernel
theorem dX6_readOr_9 : decode cX6_readOr 9 = .ok (.getfield 55, 3) := by decide +kernel
theorem dX6_readOr_12 : decode cX6_readOr 12 = .ok (.if_icmp .ge 33, 3) := by decide +kernel
theorem dX6_readOr_15 : decode cX6_readOr 15 = .ok (.aload_n 0, 1) := by decide +kernel
theorem dX6_readOr_16 : decode cX6_readOr 16 = .ok (.bipush 11, 2) := by decide +kernel
theorem dX6_readOr_18 : decode cX6_readOr 18 = .ok (.invokevirtual 119, 3) := by decide +kernel
theorem dX6_readOr_21 : decode cX6_readOr 21 = .ok (.ifCond .eq 24, 3) := by decide +kernel
theorem dX6_readOr_24 : decode cX6_readOr 24 = .ok (.aload_n 0, 1) := by decide +kernel
theorem dX6_readOr_25 : decode cX6_readOr 25 = .ok (.invokevirtual 122, 3) := by decide +kernel
theorem dX6_readOr_28 : decode cX6_readOr 28 = .ok (.aload_n 0, 1) := by decide +kernel
theorem dX6_readOr_29 : decode cX6_readOr 29 = .ok (.iload_n 1, 1) := by decide +kernel
theorem dX6_readOr_30 : decode cX6_readOr 30 = .ok (.invokevirtual 116, 3) := by decide +kernel
theorem dX6_readOr_33 : decode cX6_readOr 33 = .ok (.aload_n 0, 1) := by decide +kernel
theorem dX6_readOr_34 : decode cX6_readOr 34 = .ok (.bipush (-11), 2) := by decide +kernel
theorem dX6_readOr_36 : decode cX6_readOr 36 = .ok (.invokevirtual 125, 3) := by decide +kernel
theorem dX6_readOr_39 : decode cX6_readOr 39 = .ok (.iinc 2 1, 3) := by decide +kernel
theorem dX6_readOr_42 : decode cX6_readOr 42 = .ok (.goto (-35), 3) := by decide +kernel
theorem dX6_readOr_45 : decode cX6_readOr 45 = .ok (.return_, 1) := by decide +kernel
theorem dX6_readAnd_0 : decode cX6_readAnd 0 = .ok (.aload_n 0, 1) := by decide +kernel
theorem dX6_readAnd_1 : decode cX6_readAnd 1 = .ok (.iload_n 1, 1) := by decide +kernel
theorem dX6_readAnd_2 : decode cX6_readAnd 2 = .ok (.invokevirtual 128, 3) := by decide +kernel
theorem dX6_readAnd_5 : decode cX6_readAnd 5 = .ok (.iconst 0, 1) := by decide +kernel
theorem dX6_readAnd_6 : decode cX6_readAnd 6 = .ok (.istore_n 2, 1) := by decide +kernel
theorem dX6_readAnd_7 : decode cX6_readAnd 7 = .ok (.iload_n 2, 1) := by decide +kernel
theorem dX6_readAnd_8 : decode cX6_readAnd 8 = .ok (.aload_n 0, 1) := by decide +kernel
theorem dX6_readAnd_9 : decode cX6_readAnd 9 = .ok (.getfield 55, 3) := by decide +kernel
theorem dX6_readAnd_12 : decode cX6_readAnd 12 = .ok (.if_icmp .ge 33, 3) := by decide +kernel
theorem dX6_readAnd_15 : decode cX6_readAnd 15 = .ok (.aload_n 0, 1) := by decide +kernel
theorem dX6_readAnd_16 : decode cX6_readAnd 16 = .ok (.bipush 12, 2) := by decide +kernel
theorem dX6_readAnd_18 : decode cX6_readAnd 18 = .ok (.invokevirtual 119, 3) := by decide +kernel
theorem dX6_readAnd_21 : decode cX6_readAnd 21 = .ok (.ifCond .eq 24, 3) := by decide +kernel
theorem dX6_readAnd_24 : decode cX6_readAnd 24 = .ok (.aload_n 0, 1) := by decide +kernel
theorem dX6_readAnd_25 : decode cX6_readAnd 25 = .ok (.invokevirtual 122, 3) := by decide +kernel
theorem dX6_readAnd_28 : decode cX6_readAnd 28 = .ok (.aload_n 0, 1) := by decide +kernel
theorem dX6_readAnd_29 : decode cX6_readAnd 29 = .ok (.iload_n 1, 1) := by decide +kernel
theorem dX6_readAnd_30 : decode cX6_readAnd 30 = .ok (.invokevirtual 128, 3) := by decide +kernel
theorem dX6_readAnd_33 : decode cX6_readAnd 33 = .ok (.aload_n 0, 1) := by decide +kernel
theorem dX6_readAnd_34 : decode cX6_readAnd 34 = .ok (.bipush (-12), 2) := by decide +kernel
theorem dX6_readAnd_36 : decode cX6_readAnd 36 = .ok (.invokevirtual 125, 3) := by decide +kernel
theorem dX6_readAnd_39 : decode cX6_readAnd 39 = .ok (.iinc 2 1, 3) := by decide +kernel
theorem dX6_readAnd_42 : decode cX6_readAnd 42 = .ok (.goto (-35), 3) := by decide +kernel
theorem dX6_readAnd_45 : decode cX6_readAnd 45 = .ok (.return_, 1) := by decide +kernel
theorem dX6_readNot_0 : decode cX6_readNot 0 = .ok (.aload_n 0, 1) := by decide +kernel
theorem dX6_readNot_1 : decode cX6_readNot 1 = .ok (.bipush 13, 2) := by decide +kernel
theorem dX6_readNot_3 : decode cX6_readNot 3 = .ok (.invokevirtual 119, 3) := by decide +kernel
theorem dX6_readNot_6 : decode cX6_readNot 6 = .ok (.ifCond .ne 11, 3) := by decide +kernel
theorem dX6_readNot_9 : decode cX6_readNot 9 = .ok (.aload_n 0, 1) := by decide +kernel
theorem dX6_readNot_10 : decode cX6_readNot 10 = .ok (.iload_n 1, 1) := by decide +kernel
theorem dX6_readNot_11 : decode cX6_readNot 11 = .ok (.invokevirtual 131, 3) := by decide +kernel
theorem dX6_readNot_14 : decode cX6_readNot 14 = .ok (.goto 32, 3) := by decide +kernel
theorem dX6_readNot_17 : decode cX6_readNot 17 = .ok (.iload_n 1, 1) := by decide +kernel
theorem dX6_readNot_18 : decode cX6_readNot 18 = .ok (.iconst 5, 1) := by decide +kernel
theorem dX6_readNot_19 : decode cX6_readNot 19 = .ok (.if_icmp .ge 23, 3) := by decide +kernel
theorem dX6_readNot_22 : decode cX6_readNot 22 = .ok (.aload_n 0, 1) := by decide +kernel
theorem dX6_readNot_23 : decode cX6_readNot 23 = .ok (.invokevirtual 122, 3) := by decide +kernel
theorem dX6_readNot_26 : decode cX6_readNot 26 = .ok (.aload_n 0, 1) := by decide +kernel
theorem dX6_readNot_27 : decode cX6_readNot 27 = .ok (.iload_n 1, 1) := by decide +kernel
theorem dX6_readNot_28 : decode cX6_readNot 28 = .ok (.iconst 1, 1) := by decide +kernel
theorem dX6_readNot_29 : decode cX6_readNot 29 = .ok (.iadd, 1) := by decide +kernel
theorem dX6_readNot_30 : decode cX6_readNot 30 = .ok (.invokevirtual 128, 3) := by decide +kernel
theorem dX6_readNot_33 : decode cX6_readNot 33 = .ok (.aload_n 0, 1) := by decide +kernel
theorem dX6_readNot_34 : decode cX6_readNot 34 = .ok (.bipush (-13), 2) := by decide +kernel
theorem dX6_readNot_36 : decode cX6_readNot 36 = .ok (.invokevirtual 125, 3) := by decide +kernel
theorem dX6_readNot_39 : decode cX6_readNot 39 = .ok (.goto 7, 3) := by decide +kernel
theorem dX6_readNot_42 : decode cX6_readNot 42 = .ok (.aload_n 0, 1) := by decide +kernel
theorem dX6_readNot_43 : decode cX6_readNot 43 = .ok (.invokevirtual 134, 3) := by decide +kernel
theorem dX6_readNot_46 : decode cX6_readNot 46 = .ok (.return_, 1) := by decide +kernel
theorem dX6_readComparison_0 : decode cX6_readComparison 0 = .ok (.aload_n 0, 1) := by decide +kernel
theorem dX6_readComparison_1 : decode cX6_readComparison 1 = .ok (.iload_n 1, 1) := by decide +kernel
theorem dX6_readComparison_2 : decode cX6_readComparison 2 = .ok (.invokevirtual 137, 3) := by decide +kernel
theorem dX6_readComparison_5 : decode cX6_readComparison 5 = .ok (.aload_n 0, 1) := by decide +kernel
theorem dX6_readComparison_6 : decode cX6_readComparison 6 = .ok (.bipush 60, 2) := by decide +kernel
theorem dX6_readComparison_8 : decode cX6_readComparison 8 = .ok (.invokevirtual 119, 3) := by decide +kernel
theorem dX6_readComparison_11 : decode cX6_readComparison 11 = .ok (.ifCond .ne 12, 3) := by decide +kernel
theorem dX6_readComparison_14 : decode cX6_readComparison 14 = .ok (.aload_n 0, 1) := by decide +kernel
theorem dX6_readComparison_15 : decode cX6_readComparison 15 = .ok (.bipush 61, 2) := by decide +kernel
theorem dX6_readComparison_17 : decode cX6_readComparison 17 = .ok (.invokevirtual 119, 3) := by decide +kernel
theorem dX6_readComparison_20 : decode cX6_readComparison 20 = .ok (.ifCond .eq 28, 3) := by decide +kernel
theorem dX6_readComparison_23 : decode cX6_readComparison 23 = .ok (.aload_n 0, 1) := by decide +kernel
theorem dX6_readComparison_24 : decode cX6_readComparison 24 = .ok (.getfield 18, 3) := by decide +kernel
theorem dX6_readComparison_27 : decode cX6_readComparison 27 = .ok (.aload_n 0, 1) := by decide +kernel
theorem dX6_readComparison_28 : decode cX6_readComparison 28 = .ok (.getfield 41, 3) := by decide +kernel
theorem dX6_readComparison_31 : decode cX6_readComparison 31 = .ok (.iaload, 1) := by decide +kernel
theorem dX6_readComparison_32 : decode cX6_readComparison 32 = .ok (.istore_n 2, 1) := by decide +kernel
theorem dX6_readComparison_33 : decode cX6_readComparison 33 = .ok (.aload_n 0, 1) := by decide +kernel
theorem dX6_readComparison_34 : decode cX6_readComparison 34 = .ok (.invokevirtual 122, 3) := by decide +kernel
theorem dX6_readComparison_37 : decode cX6_readComparison 37 = .ok (.aload_n 0, 1) := by decide +kernel
theorem dX6_readComparison_38 : decode cX6_readComparison 38 = .ok (.iload_n 1, 1) := by decide +kernel
theorem dX6_readComparison_39 : decode cX6_readComparison 39 = .ok (.invokevirtual 137, 3) := by decide +kernel
theorem dX6_readComparison_42 : decode cX6_readComparison 42 = .ok (.aload_n 0, 1) := by decide +kernel
theorem dX6_readComparison_43 : decode cX6_readComparison 43 = .ok (.iload_n 2, 1) := by decide +kernel
theorem dX6_readComparison_44 : decode cX6_readComparison 44 = .ok (.ineg, 1) := by decide +kernel
theorem dX6_readComparison_45 : decode cX6_readComparison 45 = .ok (.invokevirtual 125, 3) := by decide +kernel
theorem dX6_readComparison_48 : decode cX6_readComparison 48 = .ok (.return_, 1) := by decide +kernel
theorem dX6_readSum_0 : decode cX6_readSum 0 = .ok (.aload_n 0, 1) := by decide +kernel
theorem dX6_readSum_1 : decode cX6_readSum 1 = .ok (.iload_n 1, 1) := by decide +kernel
theorem dX6_readSum_2 : decode cX6_readSum 2 = .ok (.invokevirtual 140, 3) := by decide +kernel
theorem dX6_readSum_5 : decode cX6_readSum 5 = .ok (.iconst 0, 1) := by decide +kernel
theorem dX6_readSum_6 : decode cX6_readSum 6 = .ok (.istore_n 2, 1) := by decide +kernel
theorem dX6_readSum_7 : decode cX6_readSum 7 = .ok (.iload_n 2, 1) := by decide +kernel
theorem dX6_readSum_8 : decode cX6_readSum 8 = .ok (.aload_n 0, 1) := by decide +kernel
theorem dX6_readSum_9 : decode cX6_readSum 9 = .ok (.getfield 55, 3) := by decide +kernel
theorem dX6_readSum_12 : decode cX6_readSum 12 = .ok (.if_icmp .ge 52, 3) := by decide +kernel
theorem dX6_readSum_15 : decode cX6_readSum 15 = .ok (.aload_n 0, 1) := by decide +kernel
theorem dX6_readSum_16 : decode cX6_readSum 16 = .ok (.bipush 43, 2) := by decide +kernel
theorem dX6_readSum_18 : decode cX6_readSum 18 = .ok (.invokevirtual 119, 3) := by decide +kernel
theorem dX6_readSum_21 : decode cX6_readSum 21 = .ok (.ifCond .ne 12, 3) := by decide +kernel
theorem dX6_readSum_24 : decode cX6_readSum 24 = .ok (.aload_n 0, 1) := by decide +kernel
theorem dX6_readSum_25 : decode cX6_readSum 25 = .ok (.bipush 45, 2) := by decide +kernel
theorem dX6_readSum_27 : decode cX6_readSum 27 = .ok (.invokevirtual 119, 3) := by decide +kernel
theorem dX6_readSum_30 : decode cX6_readSum 30 = .ok (.ifCond .eq 34, 3) := by decide +kernel
theorem dX6_readSum_33 : decode cX6_readSum 33 = .ok (.aload_n 0, 1) := by decide +kernel
theorem dX6_readSum_34 : decode cX6_readSum 34 = .ok (.getfield 18, 3) := by decide +kernel
theorem dX6_readSum_37 : decode cX6_readSum 37 = .ok (.aload_n 0, 1) := by decide +kernel
theorem dX6_readSum_38 : decode cX6_readSum 38 = .ok (.getfield 41, 3) := by decide +kernel
theorem dX6_readSum_41 : decode cX6_readSum 41 = .ok (.iaload, 1) := by decide +kernel
theorem dX6_readSum_42 : decode cX6_readSum 42 = .ok (.istore_n 3, 1) := by decide +kernel
theorem dX6_readSum_43 : decode cX6_readSum 43 = .ok (.aload_n 0, 1) := by decide +kernel
theorem dX6_readSum_44 : decode cX6_readSum 44 = .ok (.invokevirtual 122, 3) := by decide +kernel
theorem dX6_readSum_47 : decode cX6_readSum 47 = .ok (.aload_n 0, 1) := by decide +kernel
theorem dX6_readSum_48 : decode cX6_readSum 48 = .ok (.iload_n 1, 1) := by decide +kernel
theorem dX6_readSum_49 : decode cX6_readSum 49 = .ok (.invokevirtual 140, 3) := by decide +kernel
theorem dX6_readSum_52 : decode cX6_readSum 52 = .ok (.aload_n 0, 1) := by decide +kernel
theorem dX6_readSum_53 : decode cX6_readSum 53 = .ok (.iload_n 3, 1) := by decide +kernel
theorem dX6_readSum_54 : decode cX6_readSum 54 = .ok (.ineg, 1) := by decide +kernel
theorem dX6_readSum_55 : decode cX6_readSum 55 = .ok (.invokevirtual 125, 3) := by decide +kernel
theorem dX6_readSum_58 : decode cX6_readSum 58 = .ok (.iinc 2 1, 3) := by decide +kernel
theorem dX6_readSum_61 : decode cX6_readSum 61 = .ok (.goto (-54), 3) := by decide +kernel
theorem dX6_readSum_64 : decode cX6_readSum 64 = .ok (.return_, 1) := by decide +kernel
theorem dX6_readTerm_0 : decode cX6_readTerm 0 = .ok (.aload_n 0, 1) := by decide +kernel
theorem dX6_readTerm_1 : decode cX6_readTerm 1 = .ok (.iload_n 1, 1) := by decide +kernel
theorem dX6_readTerm_2 : decode cX6_readTerm 2 = .ok (.invokevirtual 143, 3) := by decide +kernel
theorem dX6_readTerm_5 : decode cX6_readTerm 5 = .ok (.iconst 0, 1) := by decide +kernel
theorem dX6_readTerm_6 : decode cX6_readTerm 6 = .ok (.istore_n 2, 1) := by decide +kernel
theorem dX6_readTerm_7 : decode cX6_readTerm 7 = .ok (.iload_n 2, 1) := by decide +kernel
theorem dX6_readTerm_8 : decode cX6_readTerm 8 = .ok (.aload_n 0, 1) := by decide +kernel
theorem dX6_readTerm_9 : decode cX6_readTerm 9 = .ok (.getfield 55, 3) := by decide +kernel
theorem dX6_readTerm_12 : decode cX6_readTerm 12 = .ok (.if_icmp .ge 33, 3) := by decide +kernel
theorem dX6_readTerm_15 : decode cX6_readTerm 15 = .ok (.aload_n 0, 1) := by decide +kernel
theorem dX6_readTerm_16 : decode cX6_readTerm 16 = .ok (.bipush 42, 2) := by decide +kernel
theorem dX6_readTerm_18 : decode cX6_readTerm 18 = .ok (.invokevirtual 119, 3) := by decide +kernel
theorem dX6_readTerm_21 : decode cX6_readTerm 21 = .ok (.ifCond .eq 24, 3) := by decide +kernel
theorem dX6_readTerm_24 : decode cX6_readTerm 24 = .ok (.aload_n 0, 1) := by decide +kernel
theorem dX6_readTerm_25 : decode cX6_readTerm 25 = .ok (.invokevirtual 122, 3) := by decide +kernel
theorem dX6_readTerm_28 : decode cX6_readTerm 28 = .ok (.aload_n 0, 1) := by decide +kernel
theorem dX6_readTerm_29 : decode cX6_readTerm 29 = .ok (.iload_n 1, 1) := by decide +kernel
theorem dX6_readTerm_30 : decode cX6_readTerm 30 = .ok (.invokevirtual 143, 3) := by decide +kernel
theorem dX6_readTerm_33 : decode cX6_readTerm 33 = .ok (.aload_n 0, 1) := by decide +kernel
theorem dX6_readTerm_34 : decode cX6_readTerm 34 = .ok (.bipush (-42), 2) := by decide +kernel
theorem dX6_readTerm_36 : decode cX6_readTerm 36 = .ok (.invokevirtual 125, 3) := by decide +kernel
theorem dX6_readTerm_39 : decode cX6_readTerm 39 = .ok (.iinc 2 1, 3) := by decide +kernel
theorem dX6_readTerm_42 : decode cX6_readTerm 42 = .ok (.goto (-35), 3) := by decide +kernel
theorem dX6_readTerm_45 : decode cX6_readTerm 45 = .ok (.return_, 1) := by decide +kernel
theorem dX6_readOne_0 : decode cX6_readOne 0 = .ok (.aload_n 0, 1) := by decide +kernel
theorem dX6_readOne_1 : decode cX6_readOne 1 = .ok (.getfield 44, 3) := by decide +kernel
theorem dX6_readOne_4 : decode cX6_readOne 4 = .ok (.iconst (-1), 1) := by decide +kernel
theorem dX6_readOne_5 : decode cX6_readOne 5 = .ok (.if_icmp .eq 4, 3) := by decide +kernel
theorem dX6_readOne_8 : decode cX6_readOne 8 = .ok (.return_, 1) := by decide +kernel
theorem dX6_readOne_9 : decode cX6_readOne 9 = .ok (.aload_n 0, 1) := by decide +kernel
theorem dX6_readOne_10 : decode cX6_readOne 10 = .ok (.getfield 18, 3) := by decide +kernel
theorem dX6_readOne_13 : decode cX6_readOne 13 = .ok (.aload_n 0, 1) := by decide +kernel
theorem dX6_readOne_14 : decode cX6_readOne 14 = .ok (.getfield 41, 3) := by decide +kernel
theorem dX6_readOne_17 : decode cX6_readOne 17 = .ok (.iaload, 1) := by decide +kernel
theorem dX6_readOne_18 : decode cX6_readOne 18 = .ok (.istore_n 2, 1) := by decide +kernel
theorem dX6_readOne_19 : decode cX6_readOne 19 = .ok (.iload_n 2, 1) := by decide +kernel
theorem dX6_readOne_20 : decode cX6_readOne 20 = .ok (.iconst 1, 1) := by decide +kernel
theorem dX6_readOne_21 : decode cX6_readOne 21 = .ok (.if_icmp .ne 27, 3) := by decide +kernel
theorem dX6_readOne_24 : decode cX6_readOne 24 = .ok (.aload_n 0, 1) := by decide +kernel
theorem dX6_readOne_25 : decode cX6_readOne 25 = .ok (.aload_n 0, 1) := by decide +kernel
theorem dX6_readOne_26 : decode cX6_readOne 26 = .ok (.aload_n 0, 1) := by decide +kernel
theorem dX6_readOne_27 : decode cX6_readOne 27 = .ok (.getfield 21, 3) := by decide +kernel
theorem dX6_readOne_30 : decode cX6_readOne 30 = .ok (.aload_n 0, 1) := by decide +kernel
theorem dX6_readOne_31 : decode cX6_readOne 31 = .ok (.getfield 41, 3) := by decide +kernel
theorem dX6_readOne_34 : decode cX6_readOne 34 = .ok (.iaload, 1) := by decide +kernel
theorem dX6_readOne_35 : decode cX6_readOne 35 = .ok (.invokevirtual 146, 3) := by decide +kernel
theorem dX6_readOne_38 : decode cX6_readOne 38 = .ok (.invokevirtual 125, 3) := by decide +kernel
theorem dX6_readOne_41 : decode cX6_readOne 41 = .ok (.aload_n 0, 1) := by decide +kernel
theorem dX6_readOne_42 : decode cX6_readOne 42 = .ok (.invokevirtual 122, 3) := by decide +kernel
theorem dX6_readOne_45 : decode cX6_readOne 45 = .ok (.goto 89, 3) := by decide +kernel
theorem dX6_readOne_48 : decode cX6_readOne 48 = .ok (.iload_n 2, 1) := by decide +kernel
theorem dX6_readOne_49 : decode cX6_readOne 49 = .ok (.invokestatic 149, 3) := by decide +kernel
theorem dX6_readOne_52 : decode cX6_readOne 52 = .ok (.ifCond .eq 16, 3) := by decide +kernel
theorem dX6_readOne_55 : decode cX6_readOne 55 = .ok (.aload_n 0, 1) := by decide +kernel
theorem dX6_readOne_56 : decode cX6_readOne 56 = .ok (.iload_n 2, 1) := by decide +kernel
theorem dX6_readOne_57 : decode cX6_readOne 57 = .ok (.ineg, 1) := by decide +kernel
theorem dX6_readOne_58 : decode cX6_readOne 58 = .ok (.invokevirtual 125, 3) := by decide +kernel
theorem dX6_readOne_61 : decode cX6_readOne 61 = .ok (.aload_n 0, 1) := by decide +kernel
theorem dX6_readOne_62 : decode cX6_readOne 62 = .ok (.invokevirtual 122, 3) := by decide +kernel
theorem dX6_readOne_65 : decode cX6_readOne 65 = .ok (.goto 69, 3) := by decide +kernel
theorem dX6_readOne_68 : decode cX6_readOne 68 = .ok (.iload_n 2, 1) := by decide +kernel
theorem dX6_readOne_69 : decode cX6_readOne 69 = .ok (.bipush 45, 2) := by decide +kernel
theorem dX6_readOne_71 : decode cX6_readOne 71 = .ok (.if_icmp .ne 28, 3) := by decide +kernel
theorem dX6_readOne_74 : decode cX6_readOne 74 = .ok (.iload_n 1, 1) := by decide +kernel
theorem dX6_readOne_75 : decode cX6_readOne 75 = .ok (.iconst 5, 1) := by decide +kernel
theorem dX6_readOne_76 : decode cX6_readOne 76 = .ok (.if_icmp .ge 23, 3) := by decide +kernel
theorem dX6_readOne_79 : decode cX6_readOne 79 = .ok (.aload_n 0, 1) := by decide +kernel
theorem dX6_readOne_80 : decode cX6_readOne 80 = .ok (.invokevirtual 122, 3) := by decide +kernel
theorem dX6_readOne_83 : decode cX6_readOne 83 = .ok (.aload_n 0, 1) := by decide +kernel
theorem dX6_readOne_84 : decode cX6_readOne 84 = .ok (.iload_n 1, 1) := by decide +kernel
theorem dX6_readOne_85 : decode cX6_readOne 85 = .ok (.iconst 1, 1) := by decide +kernel
theorem dX6_readOne_86 : decode cX6_readOne 86 = .ok (.iadd, 1) := by decide +kernel
theorem dX6_readOne_87 : decode cX6_readOne 87 = .ok (.invokevirtual 143, 3) := by decide +kernel
theorem dX6_readOne_90 : decode cX6_readOne 90 = .ok (.aload_n 0, 1) := by decide +kernel
theorem dX6_readOne_91 : decode cX6_readOne 91 = .ok (.bipush (-14), 2) := by decide +kernel
theorem dX6_readOne_93 : decode cX6_readOne 93 = .ok (.invokevirtual 125, 3) := by decide +kernel
theorem dX6_readOne_96 : decode cX6_readOne 96 = .ok (.goto 38, 3) := by decide +kernel
theorem dX6_readOne_99 : decode cX6_readOne 99 = .ok (.iload_n 2, 1) := by decide +kernel
theorem dX6_readOne_100 : decode cX6_readOne 100 = .ok (.bipush 40, 2) := by decide +kernel
theorem dX6_readOne_102 : decode cX6_readOne 102 = .ok (.if_icmp .ne 28, 3) := by decide +kernel
theorem dX6_readOne_105 : decode cX6_readOne 105 = .ok (.iload_n 1, 1) := by decide +kernel
theorem dX6_readOne_106 : decode cX6_readOne 106 = .ok (.iconst 5, 1) := by decide +kernel
theorem dX6_readOne_107 : decode cX6_readOne 107 = .ok (.if_icmp .ge 23, 3) := by decide +kernel
theorem dX6_readOne_110 : decode cX6_readOne 110 = .ok (.aload_n 0, 1) := by decide +kernel
theorem dX6_readOne_111 : decode cX6_readOne 111 = .ok (.invokevirtual 122, 3) := by decide +kernel
theorem dX6_readOne_114 : decode cX6_readOne 114 = .ok (.aload_n 0, 1) := by decide +kernel
theorem dX6_readOne_115 : decode cX6_readOne 115 = .ok (.iload_n 1, 1) := by decide +kernel
theorem dX6_readOne_116 : decode cX6_readOne 116 = .ok (.iconst 1, 1) := by decide +kernel
theorem dX6_readOne_117 : decode cX6_readOne 117 = .ok (.iadd, 1) := by decide +kernel
theorem dX6_readOne_118 : decode cX6_readOne 118 = .ok (.invokevirtual 113, 3) := by decide +kernel
theorem dX6_readOne_121 : decode cX6_readOne 121 = .ok (.aload_n 0, 1) := by decide +kernel
theorem dX6_readOne_122 : decode cX6_readOne 122 = .ok (.bipush 41, 2) := by decide +kernel
theorem dX6_readOne_124 : decode cX6_readOne 124 = .ok (.invokevirtual 51, 3) := by decide +kernel
theorem dX6_readOne_127 : decode cX6_readOne 127 = .ok (.goto 7, 3) := by decide +kernel
theorem dX6_readOne_130 : decode cX6_readOne 130 = .ok (.aload_n 0, 1) := by decide +kernel
theorem dX6_readOne_131 : decode cX6_readOne 131 = .ok (.invokevirtual 134, 3) := by decide +kernel
theorem dX6_readOne_134 : decode cX6_readOne 134 = .ok (.return_, 1) := by decide +kernel
theorem dX6_isNext_0 : decode cX6_isNext 0 = .ok (.aload_n 0, 1) := by decide +kernel
theorem dX6_isNext_1 : decode cX6_isNext 1 = .ok (.getfield 44, 3) := by decide +kernel
theorem dX6_isNext_4 : decode cX6_isNext 4 = .ok (.iconst (-1), 1) := by decide +kernel
theorem dX6_isNext_5 : decode cX6_isNext 5 = .ok (.if_icmp .ne 20, 3) := by decide +kernel
theorem dX6_isNext_8 : decode cX6_isNext 8 = .ok (.aload_n 0, 1) := by decide +kernel
theorem dX6_isNext_9 : decode cX6_isNext 9 = .ok (.getfield 18, 3) := by decide +kernel
theorem dX6_isNext_12 : decode cX6_isNext 12 = .ok (.aload_n 0, 1) := by decide +kernel
theorem dX6_isNext_13 : decode cX6_isNext 13 = .ok (.getfield 41, 3) := by decide +kernel
theorem dX6_isNext_16 : decode cX6_isNext 16 = .ok (.iaload, 1) := by decide +kernel
theorem dX6_isNext_17 : decode cX6_isNext 17 = .ok (.iload_n 1, 1) := by decide +kernel
theorem dX6_isNext_18 : decode cX6_isNext 18 = .ok (.if_icmp .ne 7, 3) := by decide +kernel
theorem dX6_isNext_21 : decode cX6_isNext 21 = .ok (.iconst 1, 1) := by decide +kernel
theorem dX6_isNext_22 : decode cX6_isNext 22 = .ok (.goto 4, 3) := by decide +kernel
theorem dX6_isNext_25 : decode cX6_isNext 25 = .ok (.iconst 0, 1) := by decide +kernel
theorem dX6_isNext_26 : decode cX6_isNext 26 = .ok (.ireturn, 1) := by decide +kernel
theorem dX6_expect_0 : decode cX6_expect 0 = .ok (.aload_n 0, 1) := by decide +kernel
theorem dX6_expect_1 : decode cX6_expect 1 = .ok (.iload_n 1, 1) := by decide +kernel
theorem dX6_expect_2 : decode cX6_expect 2 = .ok (.invokevirtual 119, 3) := by decide +kernel
theorem dX6_expect_5 : decode cX6_expect 5 = .ok (.ifCond .eq 10, 3) := by decide +kernel
theorem dX6_expect_8 : decode cX6_expect 8 = .ok (.aload_n 0, 1) := by decide +kernel
theorem dX6_expect_9 : decode cX6_expect 9 = .ok (.invokevirtual 122, 3) := by decide +kernel
theorem dX6_expect_12 : decode cX6_expect 12 = .ok (.goto 7, 3) := by decide +kernel
theorem dX6_expect_15 : decode cX6_expect 15 = .ok (.aload_n 0, 1) := by decide +kernel
theorem dX6_expect_16 : decode cX6_expect 16 = .ok (.invokevirtual 134, 3) := by decide +kernel
theorem dX6_expect_19 : decode cX6_expect 19 = .ok (.return_, 1) := by decide +kernel
theorem dX6_skipToken_0 : decode cX6_skipToken 0 = .ok (.aload_n 0, 1) := by decide +kernel
theorem dX6_skipToken_1 : decode cX6_skipToken 1 = .ok (.getfield 41, 3) := by decide +kernel
theorem dX6_skipToken_4 : decode cX6_skipToken 4 = .ok (.aload_n 0, 1) := by decide +kernel
theorem dX6_skipToken_5 : decode cX6_skipToken 5 = .ok (.getfield 55, 3) := by decide +kernel
theorem dX6_skipToken_8 : decode cX6_skipToken 8 = .ok (.if_icmp .ge 13, 3) := by decide +kernel
theorem dX6_skipToken_11 : decode cX6_skipToken 11 = .ok (.aload_n 0, 1) := by decide +kernel
theorem dX6_skipToken_12 : decode cX6_skipToken 12 = .ok (.dup, 1) := by decide +kernel
theorem dX6_skipToken_13 : decode cX6_skipToken 13 = .ok (.getfield 41, 3) := by decide +kernel
theorem dX6_skipToken_16 : decode cX6_skipToken 16 = .ok (.iconst 1, 1) := by decide +kernel
theorem dX6_skipToken_17 : decode cX6_skipToken 17 = .ok (.iadd, 1) := by decide +kernel
theorem dX6_skipToken_18 : decode cX6_skipToken 18 = .ok (.putfield 41, 3) := by decide +kernel
theorem dX6_skipToken_21 : decode cX6_skipToken 21 = .ok (.return_, 1) := by decide +kernel
theorem dX6_fail_0 : decode cX6_fail 0 = .ok (.aload_n 0, 1) := by decide +kernel
theorem dX6_fail_1 : decode cX6_fail 1 = .ok (.getfield 44, 3) := by decide +kernel
theorem dX6_fail_4 : decode cX6_fail 4 = .ok (.iconst (-1), 1) := by decide +kernel
theorem dX6_fail_5 : decode cX6_fail 5 = .ok (.if_icmp .ne 16, 3) := by decide +kernel
theorem dX6_fail_8 : decode cX6_fail 8 = .ok (.aload_n 0, 1) := by decide +kernel
theorem dX6_fail_9 : decode cX6_fail 9 = .ok (.aload_n 0, 1) := by decide +kernel
theorem dX6_fail_10 : decode cX6_fail 10 = .ok (.getfield 21, 3) := by decide +kernel
theorem dX6_fail_13 : decode cX6_fail 13 = .ok (.aload_n 0, 1) := by decide +kernel
theorem dX6_fail_14 : decode cX6_fail 14 = .ok (.getfield 41, 3) := by decide +kernel
theorem dX6_fail_17 : decode cX6_fail 17 = .ok (.iaload, 1) := by decide +kernel
theorem dX6_fail_18 : decode cX6_fail 18 = .ok (.putfield 44, 3) := by decide +kernel
theorem dX6_fail_21 : decode cX6_fail 21 = .ok (.return_, 1) := by decide +kernel
theorem dX6_write_0 : decode cX6_write 0 = .ok (.aload_n 0, 1) := by decide +kernel
theorem dX6_write_1 : decode cX6_write 1 = .ok (.getfield 110, 3) := by decide +kernel
theorem dX6_write_4 : decode cX6_write 4 = .ok (.aload_n 0, 1) := by decide +kernel
theorem dX6_write_5 : decode cX6_write 5 = .ok (.getfield 15, 3) := by decide +kernel
theorem dX6_write_8 : decode cX6_write 8 = .ok (.arraylength, 1) := by decide +kernel
theorem dX6_write_9 : decode cX6_write 9 = .ok (.iconst 1, 1) := by decide +kernel
theorem dX6_write_10 : decode cX6_write 10 = .ok (.isub, 1) := by decide +kernel
theorem dX6_write_11 : decode cX6_write 11 = .ok (.if_icmp .ge 20, 3) := by decide +kernel
theorem dX6_write_14 : decode cX6_write 14 = .ok (.aload_n 0, 1) := by decide +kernel
theorem dX6_write_15 : decode cX6_write 15 = .ok (.getfield 15, 3) := by decide +kernel
theorem dX6_write_18 : decode cX6_write 18 = .ok (.aload_n 0, 1) := by decide +kernel
theorem dX6_write_19 : decode cX6_write 19 = .ok (.dup, 1) := by decide +kernel
theorem dX6_write_20 : decode cX6_write 20 = .ok (.getfield 110, 3) := by decide +kernel
theorem dX6_write_23 : decode cX6_write 23 = .ok (.dup_x1, 1) := by decide +kernel
theorem dX6_write_24 : decode cX6_write 24 = .ok (.iconst 1, 1) := by decide +kernel
theorem dX6_write_25 : decode cX6_write 25 = .ok (.iadd, 1) := by decide +kernel
theorem dX6_write_26 : decode cX6_write 26 = .ok (.putfield 110, 3) := by decide +kernel
theorem dX6_write_29 : decode cX6_write 29 = .ok (.iload_n 1, 1) := by decide +kernel
theorem dX6_write_30 : decode cX6_write 30 = .ok (.iastore, 1) := by decide +kernel
theorem dX6_write_31 : decode cX6_write 31 = .ok (.return_, 1) := by decide +kernel
theorem dX7_init_0 : decode cX7_init 0 = .ok (.aload_n 0, 1) := by decide +kernel
theorem dX7_init_1 : decode cX7_init 1 = .ok (.invokespecial 1, 3) := by decide +kernel
theorem dX7_init_4 : decode cX7_init 4 = .ok (.aload_n 0, 1) := by decide +kernel
theorem dX7_init_5 : decode cX7_init 5 = .ok (.iconst (-1), 1) := by decide +kernel
theorem dX7_init_6 : decode cX7_init 6 = .ok (.putfield 9, 3) := by decide +kernel
theorem dX7_init_9 : decode cX7_init 9 = .ok (.aload_n 0, 1) := by decide +kernel
theorem dX7_init_10 : decode cX7_init 10 = .ok (.bipush 40, 2) := by decide +kernel
theorem dX7_init_12 : decode cX7_init 12 = .ok (.newarray .int, 2) := by decide +kernel
theorem dX7_init_14 : decode cX7_init 14 = .ok (.putfield 13, 3) := by decide +kernel
theorem dX7_init_17 : decode cX7_init 17 = .ok (.return_, 1) := by decide +kernel
theorem dX7_isMissing_0 : decode cX7_isMissing 0 = .ok (.aload_n 0, 1) := by decide +kernel
theorem dX7_isMissing_1 : decode cX7_isMissing 1 = .ok (.getfield 9, 3) := by decide +kernel
theorem dX7_isMissing_4 : decode cX7_isMissing 4 = .ok (.iconst (-1), 1) := by decide +kernel
theorem dX7_isMissing_5 : decode cX7_isMissing 5 = .ok (.if_icmp .ne 7, 3) := by decide +kernel
theorem dX7_isMissing_8 : decode cX7_isMissing 8 = .ok (.iconst 1, 1) := by decide +kernel
theorem dX7_isMissing_9 : decode cX7_isMissing 9 = .ok (.goto 4, 3) := by decide +kernel
theorem dX7_isMissing_12 : decode cX7_isMissing 12 = .ok (.iconst 0, 1) := by decide +kernel
theorem dX7_isMissing_13 : decode cX7_isMissing 13 = .ok (.ireturn, 1) := by decide +kernel
theorem dX7_has_0 : decode cX7_has 0 = .ok (.iload_n 1, 1) := by decide +kernel
theorem dX7_has_1 : decode cX7_has 1 = .ok (.iconst 0, 1) := by decide +kernel
theorem dX7_has_2 : decode cX7_has 2 = .ok (.aload_n 0, 1) := by decide +kernel
theorem dX7_has_3 : decode cX7_has 3 = .ok (.getfield 17, 3) := by decide +kernel
theorem dX7_has_6 : decode cX7_has 6 = .ok (.iconst 1, 1) := by decide +kernel
theorem dX7_has_7 : decode cX7_has 7 = .ok (.isub, 1) := by decide +kernel
theorem dX7_has_8 : decode cX7_has 8 = .ok (.invokestatic 20, 3) := by decide +kernel
theorem dX7_has_11 : decode cX7_has 11 = .ok (.ireturn, 1) := by decide +kernel
theorem dX7_hasRun_0 : decode cX7_hasRun 0 = .ok (.iload_n 1, 1) := by decide +kernel
theorem dX7_hasRun_1 : decode cX7_hasRun 1 = .ok (.ifCond .lt 29, 3) := by decide +kernel
theorem dX7_hasRun_4 : decode cX7_hasRun 4 = .ok (.iload_n 2, 1) := by decide +kernel
theorem dX7_hasRun_5 : decode cX7_hasRun 5 = .ok (.iconst 0, 1) := by decide +kernel
theorem dX7_hasRun_6 : decode cX7_hasRun 6 = .ok (.aload_n 0, 1) := by decide +kernel
theorem dX7_hasRun_7 : decode cX7_hasRun 7 = .ok (.getfield 17, 3) := by decide +kernel
theorem dX7_hasRun_10 : decode cX7_hasRun 10 = .ok (.invokestatic 20, 3) := by decide +kernel
theorem dX7_hasRun_13 : decode cX7_hasRun 13 = .ok (.ifCond .eq 17, 3) := by decide +kernel
theorem dX7_hasRun_16 : decode cX7_hasRun 16 = .ok (.iload_n 1, 1) := by decide +kernel
theorem dX7_hasRun_17 : decode cX7_hasRun 17 = .ok (.aload_n 0, 1) := by decide +kernel
theorem dX7_hasRun_18 : decode cX7_hasRun 18 = .ok (.getfield 17, 3) := by decide +kernel
theorem dX7_hasRun_21 : decode cX7_hasRun 21 = .ok (.iload_n 2, 1) := by decide +kernel
theorem dX7_hasRun_22 : decode cX7_hasRun 22 = .ok (.isub, 1) := by decide +kernel
theorem dX7_hasRun_23 : decode cX7_hasRun 23 = .ok (.if_icmp .gt 7, 3) := by decide +kernel
theorem dX7_hasRun_26 : decode cX7_hasRun 26 = .ok (.iconst 1, 1) := by decide +kernel
theorem dX7_hasRun_27 : decode cX7_hasRun 27 = .ok (.goto 4, 3) := by decide +kernel
theorem dX7_hasRun_30 : decode cX7_hasRun 30 = .ok (.iconst 0, 1) := by decide +kernel
theorem dX7_hasRun_31 : decode cX7_hasRun 31 = .ok (.ireturn, 1) := by decide +kernel
theorem dX7_become_0 : decode cX7_become 0 = .ok (.aload_n 0, 1) := by decide +kernel
theorem dX7_become_1 : decode cX7_become 1 = .ok (.iload_n 1, 1) := by decide +kernel
theorem dX7_become_2 : decode cX7_become 2 = .ok (.putfield 9, 3) := by decide +kernel
theorem dX7_become_5 : decode cX7_become 5 = .ok (.aload_n 0, 1) := by decide +kernel
theorem dX7_become_6 : decode cX7_become 6 = .ok (.iload_n 2, 1) := by decide +kernel
theorem dX7_become_7 : decode cX7_become 7 = .ok (.putfield 17, 3) := by decide +kernel
theorem dX7_become_10 : decode cX7_become 10 = .ok (.aload_n 0, 1) := by decide +kernel
theorem dX7_become_11 : decode cX7_become 11 = .ok (.getfield 13, 3) := by decide +kernel
theorem dX7_become_14 : decode cX7_become 14 = .ok (.iconst 0, 1) := by decide +kernel
theorem dX7_become_15 : decode cX7_become 15 = .ok (.invokestatic 26, 3) := by decide +kernel
theorem dX7_become_18 : decode cX7_become 18 = .ok (.iconst 1, 1) := by decide +kernel
theorem dX7_become_19 : decode cX7_become 19 = .ok (.ireturn, 1) := by decide +kernel
theorem dX7_put_0 : decode cX7_put 0 = .ok (.aload_n 0, 1) := by decide +kernel
theorem dX7_put_1 : decode cX7_put 1 = .ok (.getfield 9, 3) := by decide +kernel
theorem dX7_put_4 : decode cX7_put 4 = .ok (.ifCond .ne 14, 3) := by decide +kernel
theorem dX7_put_7 : decode cX7_put 7 = .ok (.aload_n 0, 1) := by decide +kernel
theorem dX7_put_8 : decode cX7_put 8 = .ok (.getfield 13, 3) := by decide +kernel
theorem dX7_put_11 : decode cX7_put 11 = .ok (.iload_n 1, 1) := by decide +kernel
theorem dX7_put_12 : decode cX7_put 12 = .ok (.iload_n 2, 1) := by decide +kernel
theorem dX7_put_13 : decode cX7_put 13 = .ok (.i2b, 1) := by decide +kernel
theorem dX7_put_14 : decode cX7_put 14 = .ok (.iastore, 1) := by decide +kernel
theorem dX7_put_15 : decode cX7_put 15 = .ok (.goto 29, 3) := by decide +kernel
theorem dX7_put_18 : decode cX7_put 18 = .ok (.aload_n 0, 1) := by decide +kernel
theorem dX7_put_19 : decode cX7_put 19 = .ok (.getfield 9, 3) := by decide +kernel
theorem dX7_put_22 : decode cX7_put 22 = .ok (.iconst 1, 1) := by decide +kernel
theorem dX7_put_23 : decode cX7_put 23 = .ok (.if_icmp .ne 14, 3) := by decide +kernel
theorem dX7_put_26 : decode cX7_put 26 = .ok (.aload_n 0, 1) := by decide +kernel
theorem dX7_put_27 : decode cX7_put 27 = .ok (.getfield 13, 3) := by decide +kernel
theorem dX7_put_30 : decode cX7_put 30 = .ok (.iload_n 1, 1) := by decide +kernel
theorem dX7_put_31 : decode cX7_put 31 = .ok (.iload_n 2, 1) := by decide +kernel
theorem dX7_put_32 : decode cX7_put 32 = .ok (.i2s, 1) := by decide +kernel
theorem dX7_put_33 : decode cX7_put 33 = .ok (.iastore, 1) := by decide +kernel
theorem dX7_put_34 : decode cX7_put 34 = .ok (.goto 10, 3) := by decide +kernel
theorem dX7_put_37 : decode cX7_put 37 = .ok (.aload_n 0, 1) := by decide +kernel
theorem dX7_put_38 : decode cX7_put 38 = .ok (.getfield 13, 3) := by decide +kernel
theorem dX7_put_41 : decode cX7_put 41 = .ok (.iload_n 1, 1) := by decide +kernel
theorem dX7_put_42 : decode cX7_put 42 = .ok (.iload_n 2, 1) := by decide +kernel
theorem dX7_put_43 : decode cX7_put 43 = .ok (.iastore, 1) := by decide +kernel
theorem dX7_put_44 : decode cX7_put 44 = .ok (.iconst 1, 1) := by decide +kernel
theorem dX7_put_45 : decode cX7_put 45 = .ok (.ireturn, 1) := by decide +kernel
theorem dX8_init_0 : decode cX8_init 0 = .ok (.aload_n 0, 1) := by decide +kernel
theorem dX8_init_1 : decode cX8_init 1 = .ok (.invokespecial 3, 3) := by decide +kernel
theorem dX8_init_4 : decode cX8_init 4 = .ok (.aload_n 0, 1) := by decide +kernel
theorem dX8_init_5 : decode cX8_init 5 = .ok (.aload_n 1, 1) := by decide +kernel
theorem dX8_init_6 : decode cX8_init 6 = .ok (.putfield 9, 3) := by decide +kernel
theorem dX8_init_9 : decode cX8_init 9 = .ok (.aload_n 0, 1) := by decide +kernel
theorem dX8_init_10 : decode cX8_init 10 = .ok (.aload_n 2, 1) := by decide +kernel
theorem dX8_init_11 : decode cX8_init 11 = .ok (.putfield 15, 3) := by decide +kernel
theorem dX8_init_14 : decode cX8_init 14 = .ok (.return_, 1) := by decide +kernel
theorem dX8_shotsBehind_0 : decode cX8_shotsBehind 0 = .ok (.iconst 1, 1) := by decide +kernel
theorem dX8_shotsBehind_1 : decode cX8_shotsBehind 1 = .ok (.iload_n 1, 1) := by decide +kernel
theorem dX8_shotsBehind_2 : decode cX8_shotsBehind 2 = .ok (.ishl, 1) := by decide +kernel
theorem dX8_shotsBehind_3 : decode cX8_shotsBehind 3 = .ok (.istore 5, 2) := by decide +kernel
theorem dX8_shotsBehind_5 : decode cX8_shotsBehind 5 = .ok (.iconst 1, 1) := by decide +kernel
theorem dX8_shotsBehind_6 : decode cX8_shotsBehind 6 = .ok (.istore 6, 2) := by decide +kernel
theorem dX8_shotsBehind_8 : decode cX8_shotsBehind 8 = .ok (.iload 6, 2) := by decide +kernel
theorem dX8_shotsBehind_10 : decode cX8_shotsBehind 10 = .ok (.iload_n 3, 1) := by decide +kernel
theorem dX8_shotsBehind_11 : decode cX8_shotsBehind 11 = .ok (.if_icmp .gt 28, 3) := by decide +kernel
theorem dX8_shotsBehind_14 : decode cX8_shotsBehind 14 = .ok (.iload 5, 2) := by decide +kernel
theorem dX8_shotsBehind_16 : decode cX8_shotsBehind 16 = .ok (.ifCond .eq 23, 3) := by decide +kernel
theorem dX8_shotsBehind_19 : decode cX8_shotsBehind 19 = .ok (.aload_n 0, 1) := by decide +kernel
theorem dX8_shotsBehind_20 : decode cX8_shotsBehind 20 = .ok (.iload 5, 2) := by decide +kernel
theorem dX8_shotsBehind_22 : decode cX8_shotsBehind 22 = .ok (.iload_n 2, 1) := by decide +kernel
theorem dX8_shotsBehind_23 : decode cX8_shotsBehind 23 = .ok (.iload 6, 2) := by decide +kernel
theorem dX8_shotsBehind_25 : decode cX8_shotsBehind 25 = .ok (.iadd, 1) := by decide +kernel
theorem dX8_shotsBehind_26 : decode cX8_shotsBehind 26 = .ok (.iload 4, 2) := by decide +kernel
theorem dX8_shotsBehind_28 : decode cX8_shotsBehind 28 = .ok (.invokevirtual 19, 3) := by decide +kernel
theorem dX8_shotsBehind_31 : decode cX8_shotsBehind 31 = .ok (.istore 5, 2) := by decide +kernel
theorem dX8_shotsBehind_33 : decode cX8_shotsBehind 33 = .ok (.iinc 6 1, 3) := by decide +kernel
theorem dX8_shotsBehind_36 : decode cX8_shotsBehind 36 = .ok (.goto (-28), 3) := by decide +kernel
theorem dX8_shotsBehind_39 : decode cX8_shotsBehind 39 = .ok (.iload 5, 2) := by decide +kernel
theorem dX8_shotsBehind_41 : decode cX8_shotsBehind 41 = .ok (.ireturn, 1) := by decide +kernel
theorem dX8_leastCalm_0 : decode cX8_leastCalm 0 = .ok (.aload_n 0, 1) := by decide +kernel
theorem dX8_leastCalm_1 : decode cX8_leastCalm 1 = .ok (.getfield 9, 3) := by decide +kernel
theorem dX8_leastCalm_4 : decode cX8_leastCalm 4 = .ok (.invokevirtual 23, 3) := by decide +kernel
theorem dX8_leastCalm_7 : decode cX8_leastCalm 7 = .ok (.istore 5, 2) := by decide +kernel
theorem dX8_leastCalm_9 : decode cX8_leastCalm 9 = .ok (.iconst 1, 1) := by decide +kernel
theorem dX8_leastCalm_10 : decode cX8_leastCalm 10 = .ok (.iload_n 3, 1) := by decide +kernel
theorem dX8_leastCalm_11 : decode cX8_leastCalm 11 = .ok (.invokestatic 29, 3) := by decide +kernel
theorem dX8_leastCalm_14 : decode cX8_leastCalm 14 = .ok (.ishl, 1) := by decide +kernel
theorem dX8_leastCalm_15 : decode cX8_leastCalm 15 = .ok (.istore 6, 2) := by decide +kernel
theorem dX8_leastCalm_17 : decode cX8_leastCalm 17 = .ok (.iconst (-1), 1) := by decide +kernel
theorem dX8_leastCalm_18 : decode cX8_leastCalm 18 = .ok (.istore 7, 2) := by decide +kernel
theorem dX8_leastCalm_20 : decode cX8_leastCalm 20 = .ok (.iconst 0, 1) := by decide +kernel
theorem dX8_leastCalm_21 : decode cX8_leastCalm 21 = .ok (.istore 8, 2) := by decide +kernel
theorem dX8_leastCalm_23 : decode cX8_leastCalm 23 = .ok (.iconst 0, 1) := by decide +kernel
theorem dX8_leastCalm_24 : decode cX8_leastCalm 24 = .ok (.istore 9, 2) := by decide +kernel
theorem dX8_leastCalm_26 : decode cX8_leastCalm 26 = .ok (.iload 9, 2) := by decide +kernel
theorem dX8_leastCalm_28 : decode cX8_leastCalm 28 = .ok (.iload 6, 2) := by decide +kernel
theorem dX8_leastCalm_30 : decode cX8_leastCalm 30 = .ok (.if_icmp .ge 68, 3) := by decide +kernel
theorem dX8_leastCalm_33 : decode cX8_leastCalm 33 = .ok (.iload 7, 2) := by decide +kernel
theorem dX8_leastCalm_35 : decode cX8_leastCalm 35 = .ok (.iconst (-1), 1) := by decide +kernel
theorem dX8_leastCalm_36 : decode cX8_leastCalm 36 = .ok (.if_icmp .eq 16, 3) := by decide +kernel
theorem dX8_leastCalm_39 : decode cX8_leastCalm 39 = .ok (.iload 8, 2) := by decide +kernel
theorem dX8_leastCalm_41 : decode cX8_leastCalm 41 = .ok (.invokestatic 29, 3) := by decide +kernel
theorem dX8_leastCalm_44 : decode cX8_leastCalm 44 = .ok (.iload 7, 2) := by decide +kernel
theorem dX8_leastCalm_46 : decode cX8_leastCalm 46 = .ok (.invokestatic 29, 3) := by decide +kernel
theorem dX8_leastCalm_49 : decode cX8_leastCalm 49 = .ok (.if_icmp .ge 7, 3) := by decide +kernel
theorem dX8_leastCalm_52 : decode cX8_leastCalm 52 = .ok (.iconst 1, 1) := by decide +kernel
theorem dX8_leastCalm_53 : decode cX8_leastCalm 53 = .ok (.goto 4, 3) := by decide +kernel
theorem dX8_leastCalm_56 : decode cX8_leastCalm 56 = .ok (.iconst 0, 1) := by decide +kernel
theorem dX8_leastCalm_57 : decode cX8_leastCalm 57 = .ok (.istore 10, 2) := by decide +kernel
theorem dX8_leastCalm_59 : decode cX8_leastCalm 59 = .ok (.iload 10, 2) := by decide +kernel
theorem dX8_leastCalm_61 : decode cX8_leastCalm 61 = .ok (.ifCond .eq 23, 3) := by decide +kernel
theorem dX8_leastCalm_64 : decode cX8_leastCalm 64 = .ok (.aload_n 0, 1) := by decide +kernel
theorem dX8_leastCalm_65 : decode cX8_leastCalm 65 = .ok (.iload_n 1, 1) := by decide +kernel
theorem dX8_leastCalm_66 : decode cX8_leastCalm 66 = .ok (.iload_n 2, 1) := by decide +kernel
theorem dX8_leastCalm_67 : decode cX8_leastCalm 67 = .ok (.iload 4, 2) := by decide +kernel
theorem dX8_leastCalm_69 : decode cX8_leastCalm 69 = .ok (.iload 5, 2) := by decide +kernel
theorem dX8_leastCalm_71 : decode cX8_leastCalm 71 = .ok (.iload 8, 2) := by decide +kernel
theorem dX8_leastCalm_73 : decode cX8_leastCalm 73 = .ok (.ior, 1) := by decide +kernel
theorem dX8_leastCalm_74 : decode cX8_leastCalm 74 = .ok (.invokevirtual 35, 3) := by decide +kernel
theorem dX8_leastCalm_77 : decode cX8_leastCalm 77 = .ok (.ifCond .ne 7, 3) := by decide +kernel
theorem dX8_leastCalm_80 : decode cX8_leastCalm 80 = .ok (.iload 8, 2) := by decide +kernel
theorem dX8_leastCalm_82 : decode cX8_leastCalm 82 = .ok (.istore 7, 2) := by decide +kernel
theorem dX8_leastCalm_84 : decode cX8_leastCalm 84 = .ok (.iload 8, 2) := by decide +kernel
theorem dX8_leastCalm_86 : decode cX8_leastCalm 86 = .ok (.iload_n 3, 1) := by decide +kernel
theorem dX8_leastCalm_87 : decode cX8_leastCalm 87 = .ok (.isub, 1) := by decide +kernel
theorem dX8_leastCalm_88 : decode cX8_leastCalm 88 = .ok (.iload_n 3, 1) := by decide +kernel
theorem dX8_leastCalm_89 : decode cX8_leastCalm 89 = .ok (.iand, 1) := by decide +kernel
theorem dX8_leastCalm_90 : decode cX8_leastCalm 90 = .ok (.istore 8, 2) := by decide +kernel
theorem dX8_leastCalm_92 : decode cX8_leastCalm 92 = .ok (.iinc 9 1, 3) := by decide +kernel
theorem dX8_leastCalm_95 : decode cX8_leastCalm 95 = .ok (.goto (-69), 3) := by decide +kernel
theorem dX8_leastCalm_98 : decode cX8_leastCalm 98 = .ok (.iload 7, 2) := by decide +kernel
theorem dX8_leastCalm_100 : decode cX8_leastCalm 100 = .ok (.ireturn, 1) := by decide +kernel
theorem dX8_calledForth_0 : decode cX8_calledForth 0 = .ok (.iconst 0, 1) := by decide +kernel
theorem dX8_calledForth_1 : decode cX8_calledForth 1 = .ok (.istore 4, 2) := by decide +kernel
theorem dX8_calledForth_3 : decode cX8_calledForth 3 = .ok (.iconst 0, 1) := by decide +kernel
theorem dX8_calledForth_4 : decode cX8_calledForth 4 = .ok (.istore 5, 2) := by decide +kernel
theorem dX8_calledForth_6 : decode cX8_calledForth 6 = .ok (.iload 5, 2) := by decide +kernel
theorem dX8_calledForth_8 : decode cX8_calledForth 8 = .ok (.aload_n 0, 1) := by decide +kernel
theorem dX8_calledForth_9 : decode cX8_calledForth 9 = .ok (.getfield 9, 3) := by decide +kernel
theorem dX8_calledForth_12 : decode cX8_calledForth 12 = .ok (.getfield 39, 3) := by decide +kernel
theorem dX8_calledForth_15 : decode cX8_calledForth 15 = .ok (.if_icmp .ge 109, 3) := by decide +kernel
theorem dX8_calledForth_18 : decode cX8_calledForth 18 = .ok (.aload_n 0, 1) := by decide +kernel
theorem dX8_calledForth_19 : decode cX8_calledForth 19 = .ok (.getfield 9, 3) := by decide +kernel
theorem dX8_calledForth_22 : decode cX8_calledForth 22 = .ok (.getfield 43, 3) := by decide +kernel
theorem dX8_calledForth_25 : decode cX8_calledForth 25 = .ok (.iload 5, 2) := by decide +kernel
theorem dX8_calledForth_27 : decode cX8_calledForth 27 = .ok (.aaload, 1) := by decide +kernel
theorem dX8_calledForth_28 : decode cX8_calledForth 28 = .ok (.getfield 47, 3) := by decide +kernel
theorem dX8_calledForth_31 : decode cX8_calledForth 31 = .ok (.invokestatic 52, 3) := by decide +kernel
theorem dX8_calledForth_34 : decode cX8_calledForth 34 = .ok (.ifCond .eq 32, 3) := by decide +kernel
theorem dX8_calledForth_37 : decode cX8_calledForth 37 = .ok (.aload_n 0, 1) := by decide +kernel
theorem dX8_calledForth_38 : decode cX8_calledForth 38 = .ok (.getfield 9, 3) := by decide +kernel
theorem dX8_calledForth_41 : decode cX8_calledForth 41 = .ok (.getfield 43, 3) := by decide +kernel
theorem dX8_calledForth_44 : decode cX8_calledForth 44 = .ok (.iload 5, 2) := by decide +kernel
theorem dX8_calledForth_46 : decode cX8_calledForth 46 = .ok (.aaload, 1) := by decide +kernel
theorem dX8_calledForth_47 : decode cX8_calledForth 47 = .ok (.getfield 56, 3) := by decide +kernel
theorem dX8_calledForth_50 : decode cX8_calledForth 50 = .ok (.ifCond .ne 16, 3) := by decide +kernel
theorem dX8_calledForth_53 : decode cX8_calledForth 53 = .ok (.iload_n 3, 1) := by decide +kernel
theorem dX8_calledForth_54 : decode cX8_calledForth 54 = .ok (.iload 5, 2) := by decide +kernel
theorem dX8_calledForth_56 : decode cX8_calledForth 56 = .ok (.invokestatic 60, 3) := by decide +kernel
theorem dX8_calledForth_59 : decode cX8_calledForth 59 = .ok (.ifCond .ne 7, 3) := by decide +kernel
theorem dX8_calledForth_62 : decode cX8_calledForth 62 = .ok (.iconst 1, 1) := by decide +kernel
theorem dX8_calledForth_63 : decode cX8_calledForth 63 = .ok (.goto 4, 3) := by decide +kernel
theorem dX8_calledForth_66 : decode cX8_calledForth 66 = .ok (.iconst 0, 1) := by decide +kernel
theorem dX8_calledForth_67 : decode cX8_calledForth 67 = .ok (.istore 6, 2) := by decide +kernel
theorem dX8_calledForth_69 : decode cX8_calledForth 69 = .ok (.iload 6, 2) := by decide +kernel
theorem dX8_calledForth_71 : decode cX8_calledForth 71 = .ok (.ifCond .eq 14, 3) := by decide +kernel
theorem dX8_calledForth_74 : decode cX8_calledForth 74 = .ok (.aload_n 0, 1) := by decide +kernel
theorem dX8_calledForth_75 : decode cX8_calledForth 75 = .ok (.iload 5, 2) := by decide +kernel
theorem dX8_calledForth_77 : decode cX8_calledForth 77 = .ok (.iload_n 1, 1) := by decide +kernel
theorem dX8_calledForth_78 : decode cX8_calledForth 78 = .ok (.iload_n 2, 1) := by decide +kernel
theorem dX8_calledForth_79 : decode cX8_calledForth 79 = .ok (.invokevirtual 64, 3) := by decide +kernel
theorem dX8_calledForth_82 : decode cX8_calledForth 82 = .ok (.goto 4, 3) := by decide +kernel
theorem dX8_calledForth_85 : decode cX8_calledForth 85 = .ok (.iconst 0, 1) := by decide +kernel
theorem dX8_calledForth_86 : decode cX8_calledForth 86 = .ok (.istore 7, 2) := by decide +kernel
theorem dX8_calledForth_88 : decode cX8_calledForth 88 = .ok (.iload 7, 2) := by decide +kernel
theorem dX8_calledForth_90 : decode cX8_calledForth 90 = .ok (.ifCond .le 28, 3) := by decide +kernel
theorem dX8_calledForth_93 : decode cX8_calledForth 93 = .ok (.aload_n 0, 1) := by decide +kernel
theorem dX8_calledForth_94 : decode cX8_calledForth 94 = .ok (.getfield 15, 3) := by decide +kernel
theorem dX8_calledForth_97 : decode cX8_calledForth 97 = .ok (.iload 5, 2) := by decide +kernel
theorem dX8_calledForth_99 : decode cX8_calledForth 99 = .ok (.iload_n 2, 1) := by decide +kernel
theorem dX8_calledForth_100 : decode cX8_calledForth 100 = .ok (.iconst 1, 1) := by decide +kernel
theorem dX8_calledForth_101 : decode cX8_calledForth 101 = .ok (.iload 7, 2) := by decide +kernel
theorem dX8_calledForth_103 : decode cX8_calledForth 103 = .ok (.invokevirtual 67, 3) := by decide +kernel
theorem dX8_calledForth_106 : decode cX8_calledForth 106 = .ok (.ifCond .eq 12, 3) := by decide +kernel
theorem dX8_calledForth_109 : decode cX8_calledForth 109 = .ok (.iload 4, 2) := by decide +kernel
theorem dX8_calledForth_111 : decode cX8_calledForth 111 = .ok (.iconst 1, 1) := by decide +kernel
theorem dX8_calledForth_112 : decode cX8_calledForth 112 = .ok (.iload 5, 2) := by decide +kernel
theorem dX8_calledForth_114 : decode cX8_calledForth 114 = .ok (.ishl, 1) := by decide +kernel
theorem dX8_calledForth_115 : decode cX8_calledForth 115 = .ok (.ior, 1) := by decide +kernel
theorem dX8_calledForth_116 : decode cX8_calledForth 116 = .ok (.istore 4, 2) := by decide +kernel
theorem dX8_calledForth_118 : decode cX8_calledForth 118 = .ok (.iinc 5 1, 3) := by decide +kernel
theorem dX8_calledForth_121 : decode cX8_calledForth 121 = .ok (.goto (-115), 3) := by decide +kernel
theorem dX8_calledForth_124 : decode cX8_calledForth 124 = .ok (.iload 4, 2) := by decide +kernel
theorem dX8_calledForth_126 : decode cX8_calledForth 126 = .ok (.ireturn, 1) := by decide +kernel
theorem dX8_heardBy_0 : decode cX8_heardBy 0 = .ok (.iconst 1, 1) := by decide +kernel
theorem dX8_heardBy_1 : decode cX8_heardBy 1 = .ok (.aload_n 0, 1) := by decide +kernel
theorem dX8_heardBy_2 : decode cX8_heardBy 2 = .ok (.getfield 9, 3) := by decide +kernel
theorem dX8_heardBy_5 : decode cX8_heardBy 5 = .ok (.getfield 43, 3) := by decide +kernel
theorem dX8_heardBy_8 : decode cX8_heardBy 8 = .ok (.iload_n 1, 1) := by decide +kernel
theorem dX8_heardBy_9 : decode cX8_heardBy 9 = .ok (.aaload, 1) := by decide +kernel
theorem dX8_heardBy_10 : decode cX8_heardBy 10 = .ok (.getfield 47, 3) := by decide +kernel
theorem dX8_heardBy_13 : decode cX8_heardBy 13 = .ok (.isub, 1) := by decide +kernel
theorem dX8_heardBy_14 : decode cX8_heardBy 14 = .ok (.istore 4, 2) := by decide +kernel
theorem dX8_heardBy_16 : decode cX8_heardBy 16 = .ok (.iconst 0, 1) := by decide +kernel
theorem dX8_heardBy_17 : decode cX8_heardBy 17 = .ok (.istore 5, 2) := by decide +kernel
theorem dX8_heardBy_19 : decode cX8_heardBy 19 = .ok (.iconst 0, 1) := by decide +kernel
theorem dX8_heardBy_20 : decode cX8_heardBy 20 = .ok (.istore 6, 2) := by decide +kernel
theorem dX8_heardBy_22 : decode cX8_heardBy 22 = .ok (.iload 6, 2) := by decide +kernel
theorem dX8_heardBy_24 : decode cX8_heardBy 24 = .ok (.aload_n 0, 1) := by decide +kernel
theorem dX8_heardBy_25 : decode cX8_heardBy 25 = .ok (.getfield 9, 3) := by decide +kernel
theorem dX8_heardBy_28 : decode cX8_heardBy 28 = .ok (.getfield 39, 3) := by decide +kernel
theorem dX8_heardBy_31 : decode cX8_heardBy 31 = .ok (.if_icmp .ge 71, 3) := by decide +kernel
theorem dX8_heardBy_34 : decode cX8_heardBy 34 = .ok (.iload_n 2, 1) := by decide +kernel
theorem dX8_heardBy_35 : decode cX8_heardBy 35 = .ok (.iload 6, 2) := by decide +kernel
theorem dX8_heardBy_37 : decode cX8_heardBy 37 = .ok (.invokestatic 60, 3) := by decide +kernel
theorem dX8_heardBy_40 : decode cX8_heardBy 40 = .ok (.ifCond .eq 56, 3) := by decide +kernel
theorem dX8_heardBy_43 : decode cX8_heardBy 43 = .ok (.aload_n 0, 1) := by decide +kernel
theorem dX8_heardBy_44 : decode cX8_heardBy 44 = .ok (.getfield 9, 3) := by decide +kernel
theorem dX8_heardBy_47 : decode cX8_heardBy 47 = .ok (.getfield 43, 3) := by decide +kernel
theorem dX8_heardBy_50 : decode cX8_heardBy 50 = .ok (.iload 6, 2) := by decide +kernel
theorem dX8_heardBy_52 : decode cX8_heardBy 52 = .ok (.aaload, 1) := by decide +kernel
theorem dX8_heardBy_53 : decode cX8_heardBy 53 = .ok (.getfield 47, 3) := by decide +kernel
theorem dX8_heardBy_56 : decode cX8_heardBy 56 = .ok (.iload 4, 2) := by decide +kernel
theorem dX8_heardBy_58 : decode cX8_heardBy 58 = .ok (.if_icmp .eq 6, 3) := by decide +kernel
theorem dX8_heardBy_61 : decode cX8_heardBy 61 = .ok (.goto 35, 3) := by decide +kernel
theorem dX8_heardBy_64 : decode cX8_heardBy 64 = .ok (.aload_n 0, 1) := by decide +kernel
theorem dX8_heardBy_65 : decode cX8_heardBy 65 = .ok (.getfield 9, 3) := by decide +kernel
theorem dX8_heardBy_68 : decode cX8_heardBy 68 = .ok (.iload_n 1, 1) := by decide +kernel
theorem dX8_heardBy_69 : decode cX8_heardBy 69 = .ok (.iload_n 3, 1) := by decide +kernel
theorem dX8_heardBy_70 : decode cX8_heardBy 70 = .ok (.aload_n 0, 1) := by decide +kernel
theorem dX8_heardBy_71 : decode cX8_heardBy 71 = .ok (.getfield 9, 3) := by decide +kernel
theorem dX8_heardBy_74 : decode cX8_heardBy 74 = .ok (.getfield 43, 3) := by decide +kernel
theorem dX8_heardBy_77 : decode cX8_heardBy 77 = .ok (.iload 6, 2) := by decide +kernel
theorem dX8_heardBy_79 : decode cX8_heardBy 79 = .ok (.aaload, 1) := by decide +kernel
theorem dX8_heardBy_80 : decode cX8_heardBy 80 = .ok (.iload_n 3, 1) := by decide +kernel
