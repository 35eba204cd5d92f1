theorem dX5_init_0 : decode cX5_init 0 = .ok (.aload_n 0, 1) := by decide +kernel
theorem dX5_init_1 : decode cX5_init 1 = .ok (.invokespecial 3, 3) := by decide +kernel
theorem dX5_init_4 : decode cX5_init 4 = .ok (.aload_n 0, 1) := by decide +kernel
theorem dX5_init_5 : decode cX5_init 5 = .ok (.iconst 4, 1) := by decide +kernel
theorem dX5_init_6 : decode cX5_init 6 = .ok (.newarray .int, 2) := by decide +kernel
theorem dX5_init_8 : decode cX5_init 8 = .ok (.putfield 9, 3) := by decide +kernel
theorem dX5_init_11 : decode cX5_init 11 = .ok (.aload_n 0, 1) := by decide +kernel
theorem dX5_init_12 : decode cX5_init 12 = .ok (.bipush 25, 2) := by decide +kernel
theorem dX5_init_14 : decode cX5_init 14 = .ok (.newarray .int, 2) := by decide +kernel
theorem dX5_init_16 : decode cX5_init 16 = .ok (.putfield 15, 3) := by decide +kernel
theorem dX5_init_19 : decode cX5_init 19 = .ok (.aload_n 0, 1) := by decide +kernel
theorem dX5_init_20 : decode cX5_init 20 = .ok (.bipush 25, 2) := by decide +kernel
theorem dX5_init_22 : decode cX5_init 22 = .ok (.newarray .int, 2) := by decide +kernel
theorem dX5_init_24 : decode cX5_init 24 = .ok (.putfield 18, 3) := by decide +kernel
theorem dX5_init_27 : decode cX5_init 27 = .ok (.aload_n 0, 1) := by decide +kernel
theorem dX5_init_28 : decode cX5_init 28 = .ok (.iconst 3, 1) := by decide +kernel
theorem dX5_init_29 : decode cX5_init 29 = .ok (.newarray .int, 2) := by decide +kernel
theorem dX5_init_31 : decode cX5_init 31 = .ok (.putfield 21, 3) := by decide +kernel
theorem dX5_init_34 : decode cX5_init 34 = .ok (.return_, 1) := by decide +kernel
theorem dX5_start_0 : decode cX5_start 0 = .ok (.aload_n 0, 1) := by decide +kernel
theorem dX5_start_1 : decode cX5_start 1 = .ok (.iload_n 1, 1) := by decide +kernel
theorem dX5_start_2 : decode cX5_start 2 = .ok (.putfield 24, 3) := by decide +kernel
theorem dX5_start_5 : decode cX5_start 5 = .ok (.aload_n 0, 1) := by decide +kernel
theorem dX5_start_6 : decode cX5_start 6 = .ok (.iconst 0, 1) := by decide +kernel
theorem dX5_start_7 : decode cX5_start 7 = .ok (.putfield 28, 3) := by decide +kernel
theorem dX5_start_10 : decode cX5_start 10 = .ok (.aload_n 0, 1) := by decide +kernel
theorem dX5_start_11 : decode cX5_start 11 = .ok (.iconst 0, 1) := by decide +kernel
theorem dX5_start_12 : decode cX5_start 12 = .ok (.putfield 32, 3) := by decide +kernel
theorem dX5_start_15 : decode cX5_start 15 = .ok (.aload_n 0, 1) := by decide +kernel
theorem dX5_start_16 : decode cX5_start 16 = .ok (.iconst 0, 1) := by decide +kernel
theorem dX5_start_17 : decode cX5_start 17 = .ok (.putfield 35, 3) := by decide +kernel
theorem dX5_start_20 : decode cX5_start 20 = .ok (.aload_n 0, 1) := by decide +kernel
theorem dX5_start_21 : decode cX5_start 21 = .ok (.iconst 0, 1) := by decide +kernel
theorem dX5_start_22 : decode cX5_start 22 = .ok (.putfield 38, 3) := by decide +kernel
theorem dX5_start_25 : decode cX5_start 25 = .ok (.aload_n 0, 1) := by decide +kernel
theorem dX5_start_26 : decode cX5_start 26 = .ok (.iconst 0, 1) := by decide +kernel
theorem dX5_start_27 : decode cX5_start 27 = .ok (.putfield 41, 3) := by decide +kernel
theorem dX5_start_30 : decode cX5_start 30 = .ok (.aload_n 0, 1) := by decide +kernel
theorem dX5_start_31 : decode cX5_start 31 = .ok (.getfield 9, 3) := by decide +kernel
theorem dX5_start_34 : decode cX5_start 34 = .ok (.iconst 0, 1) := by decide +kernel
theorem dX5_start_35 : decode cX5_start 35 = .ok (.invokestatic 44, 3) := by decide +kernel
theorem dX5_start_38 : decode cX5_start 38 = .ok (.aload_n 0, 1) := by decide +kernel
theorem dX5_start_39 : decode cX5_start 39 = .ok (.getfield 15, 3) := by decide +kernel
theorem dX5_start_42 : decode cX5_start 42 = .ok (.iconst 0, 1) := by decide +kernel
theorem dX5_start_43 : decode cX5_start 43 = .ok (.invokestatic 44, 3) := by decide +kernel
theorem dX5_start_46 : decode cX5_start 46 = .ok (.aload_n 0, 1) := by decide +kernel
theorem dX5_start_47 : decode cX5_start 47 = .ok (.getfield 18, 3) := by decide +kernel
theorem dX5_start_50 : decode cX5_start 50 = .ok (.iconst 0, 1) := by decide +kernel
theorem dX5_start_51 : decode cX5_start 51 = .ok (.invokestatic 44, 3) := by decide +kernel
theorem dX5_start_54 : decode cX5_start 54 = .ok (.aload_n 0, 1) := by decide +kernel
theorem dX5_start_55 : decode cX5_start 55 = .ok (.getfield 21, 3) := by decide +kernel
theorem dX5_start_58 : decode cX5_start 58 = .ok (.iconst 0, 1) := by decide +kernel
theorem dX5_start_59 : decode cX5_start 59 = .ok (.invokestatic 44, 3) := by decide +kernel
theorem dX5_start_62 : decode cX5_start 62 = .ok (.return_, 1) := by decide +kernel
theorem dX5_copyFrom_0 : decode cX5_copyFrom 0 = .ok (.aload_n 0, 1) := by decide +kernel
theorem dX5_copyFrom_1 : decode cX5_copyFrom 1 = .ok (.aload_n 1, 1) := by decide +kernel
theorem dX5_copyFrom_2 : decode cX5_copyFrom 2 = .ok (.getfield 24, 3) := by decide +kernel
theorem dX5_copyFrom_5 : decode cX5_copyFrom 5 = .ok (.putfield 24, 3) := by decide +kernel
theorem dX5_copyFrom_8 : decode cX5_copyFrom 8 = .ok (.aload_n 0, 1) := by decide +kernel
theorem dX5_copyFrom_9 : decode cX5_copyFrom 9 = .ok (.aload_n 1, 1) := by decide +kernel
theorem dX5_copyFrom_10 : decode cX5_copyFrom 10 = .ok (.getfield 28, 3) := by decide +kernel
theorem dX5_copyFrom_13 : decode cX5_copyFrom 13 = .ok (.putfield 28, 3) := by decide +kernel
theorem dX5_copyFrom_16 : decode cX5_copyFrom 16 = .ok (.aload_n 0, 1) := by decide +kernel
theorem dX5_copyFrom_17 : decode cX5_copyFrom 17 = .ok (.aload_n 1, 1) := by decide +kernel
theorem dX5_copyFrom_18 : decode cX5_copyFrom 18 = .ok (.getfield 32, 3) := by decide +kernel
theorem dX5_copyFrom_21 : decode cX5_copyFrom 21 = .ok (.putfield 32, 3) := by decide +kernel
theorem dX5_copyFrom_24 : decode cX5_copyFrom 24 = .ok (.aload_n 0, 1) := by decide +kernel
theorem dX5_copyFrom_25 : decode cX5_copyFrom 25 = .ok (.aload_n 1, 1) := by decide +kernel
theorem dX5_copyFrom_26 : decode cX5_copyFrom 26 = .ok (.getfield 35, 3) := by decide +kernel
theorem dX5_copyFrom_29 : decode cX5_copyFrom 29 = .ok (.putfield 35, 3) := by decide +kernel
theorem dX5_copyFrom_32 : decode cX5_copyFrom 32 = .ok (.aload_n 0, 1) := by decide +kernel
theorem dX5_copyFrom_33 : decode cX5_copyFrom 33 = .ok (.aload_n 1, 1) := by decide +kernel
theorem dX5_copyFrom_34 : decode cX5_copyFrom 34 = .ok (.getfield 38, 3) := by decide +kernel
theorem dX5_copyFrom_37 : decode cX5_copyFrom 37 = .ok (.putfield 38, 3) := by decide +kernel
theorem dX5_copyFrom_40 : decode cX5_copyFrom 40 = .ok (.aload_n 0, 1) := by decide +kernel
theorem dX5_copyFrom_41 : decode cX5_copyFrom 41 = .ok (.aload_n 1, 1) := by decide +kernel
theorem dX5_copyFrom_42 : decode cX5_copyFrom 42 = .ok (.getfield 41, 3) := by decide +kernel
theorem dX5_copyFrom_45 : decode cX5_copyFrom 45 = .ok (.putfield 41, 3) := by decide +kernel
theorem dX5_copyFrom_48 : decode cX5_copyFrom 48 = .ok (.aload_n 1, 1) := by decide +kernel
theorem dX5_copyFrom_49 : decode cX5_copyFrom 49 = .ok (.getfield 9, 3) := by decide +kernel
theorem dX5_copyFrom_52 : decode cX5_copyFrom 52 = .ok (.iconst 0, 1) := by decide +kernel
theorem dX5_copyFrom_53 : decode cX5_copyFrom 53 = .ok (.aload_n 0, 1) := by decide +kernel
theorem dX5_copyFrom_54 : decode cX5_copyFrom 54 = .ok (.getfield 9, 3) := by decide +kernel
theorem dX5_copyFrom_57 : decode cX5_copyFrom 57 = .ok (.iconst 0, 1) := by decide +kernel
theorem dX5_copyFrom_58 : decode cX5_copyFrom 58 = .ok (.iconst 4, 1) := by decide +kernel
theorem dX5_copyFrom_59 : decode cX5_copyFrom 59 = .ok (.invokestatic 50, 3) := by decide +kernel
theorem dX5_copyFrom_62 : decode cX5_copyFrom 62 = .ok (.aload_n 1, 1) := by decide +kernel
theorem dX5_copyFrom_63 : decode cX5_copyFrom 63 = .ok (.getfield 15, 3) := by decide +kernel
theorem dX5_copyFrom_66 : decode cX5_copyFrom 66 = .ok (.iconst 0, 1) := by decide +kernel
theorem dX5_copyFrom_67 : decode cX5_copyFrom 67 = .ok (.aload_n 0, 1) := by decide +kernel
theorem dX5_copyFrom_68 : decode cX5_copyFrom 68 = .ok (.getfield 15, 3) := by decide +kernel
theorem dX5_copyFrom_71 : decode cX5_copyFrom 71 = .ok (.iconst 0, 1) := by decide +kernel
theorem dX5_copyFrom_72 : decode cX5_copyFrom 72 = .ok (.bipush 25, 2) := by decide +kernel
theorem dX5_copyFrom_74 : decode cX5_copyFrom 74 = .ok (.invokestatic 50, 3) := by decide +kernel
theorem dX5_copyFrom_77 : decode cX5_copyFrom 77 = .ok (.aload_n 1, 1) := by decide +kernel
theorem dX5_copyFrom_78 : decode cX5_copyFrom 78 = .ok (.getfield 18, 3) := by decide +kernel
theorem dX5_copyFrom_81 : decode cX5_copyFrom 81 = .ok (.iconst 0, 1) := by decide +kernel
theorem dX5_copyFrom_82 : decode cX5_copyFrom 82 = .ok (.aload_n 0, 1) := by decide +kernel
theorem dX5_copyFrom_83 : decode cX5_copyFrom 83 = .ok (.getfield 18, 3) := by decide +kernel
theorem dX5_copyFrom_86 : decode cX5_copyFrom 86 = .ok (.iconst 0, 1) := by decide +kernel
theorem dX5_copyFrom_87 : decode cX5_copyFrom 87 = .ok (.bipush 25, 2) := by decide +kernel
theorem dX5_copyFrom_89 : decode cX5_copyFrom 89 = .ok (.invokestatic 50, 3) := by decide +kernel
theorem dX5_copyFrom_92 : decode cX5_copyFrom 92 = .ok (.aload_n 1, 1) := by decide +kernel
theorem dX5_copyFrom_93 : decode cX5_copyFrom 93 = .ok (.getfield 21, 3) := by decide +kernel
theorem dX5_copyFrom_96 : decode cX5_copyFrom 96 = .ok (.iconst 0, 1) := by decide +kernel
theorem dX5_copyFrom_97 : decode cX5_copyFrom 97 = .ok (.aload_n 0, 1) := by decide +kernel
theorem dX5_copyFrom_98 : decode cX5_copyFrom 98 = .ok (.getfield 21, 3) := by decide +kernel
theorem dX5_copyFrom_101 : decode cX5_copyFrom 101 = .ok (.iconst 0, 1) := by decide +kernel
theorem dX5_copyFrom_102 : decode cX5_copyFrom 102 = .ok (.iconst 3, 1) := by decide +kernel
theorem dX5_copyFrom_103 : decode cX5_copyFrom 103 = .ok (.invokestatic 50, 3) := by decide +kernel
theorem dX5_copyFrom_106 : decode cX5_copyFrom 106 = .ok (.return_, 1) := by decide +kernel
theorem dX5_equity_0 : decode cX5_equity 0 = .ok (.iconst 0, 1) := by decide +kernel
theorem dX5_equity_1 : decode cX5_equity 1 = .ok (.istore_n 1, 1) := by decide +kernel
theorem dX5_equity_2 : decode cX5_equity 2 = .ok (.iconst 0, 1) := by decide +kernel
theorem dX5_equity_3 : decode cX5_equity 3 = .ok (.istore_n 2, 1) := by decide +kernel
theorem dX5_equity_4 : decode cX5_equity 4 = .ok (.iload_n 2, 1) := by decide +kernel
theorem dX5_equity_5 : decode cX5_equity 5 = .ok (.bipush 25, 2) := by decide +kernel
theorem dX5_equity_7 : decode cX5_equity 7 = .ok (.if_icmp .ge 18, 3) := by decide +kernel
theorem dX5_equity_10 : decode cX5_equity 10 = .ok (.iload_n 1, 1) := by decide +kernel
theorem dX5_equity_11 : decode cX5_equity 11 = .ok (.aload_n 0, 1) := by decide +kernel
theorem dX5_equity_12 : decode cX5_equity 12 = .ok (.getfield 15, 3) := by decide +kernel
theorem dX5_equity_15 : decode cX5_equity 15 = .ok (.iload_n 2, 1) := by decide +kernel
theorem dX5_equity_16 : decode cX5_equity 16 = .ok (.iaload, 1) := by decide +kernel
theorem dX5_equity_17 : decode cX5_equity 17 = .ok (.iadd, 1) := by decide +kernel
theorem dX5_equity_18 : decode cX5_equity 18 = .ok (.istore_n 1, 1) := by decide +kernel
theorem dX5_equity_19 : decode cX5_equity 19 = .ok (.iinc 2 1, 3) := by decide +kernel
theorem dX5_equity_22 : decode cX5_equity 22 = .ok (.goto (-18), 3) := by decide +kernel
theorem dX5_equity_25 : decode cX5_equity 25 = .ok (.iload_n 1, 1) := by decide +kernel
theorem dX5_equity_26 : decode cX5_equity 26 = .ok (.ireturn, 1) := by decide +kernel
theorem dX5_equityOfKind_0 : decode cX5_equityOfKind 0 = .ok (.iconst 0, 1) := by decide +kernel
theorem dX5_equityOfKind_1 : decode cX5_equityOfKind 1 = .ok (.istore_n 2, 1) := by decide +kernel
theorem dX5_equityOfKind_2 : decode cX5_equityOfKind 2 = .ok (.iconst 0, 1) := by decide +kernel
theorem dX5_equityOfKind_3 : decode cX5_equityOfKind 3 = .ok (.istore_n 3, 1) := by decide +kernel
theorem dX5_equityOfKind_4 : decode cX5_equityOfKind 4 = .ok (.iload_n 3, 1) := by decide +kernel
theorem dX5_equityOfKind_5 : decode cX5_equityOfKind 5 = .ok (.bipush 25, 2) := by decide +kernel
theorem dX5_equityOfKind_7 : decode cX5_equityOfKind 7 = .ok (.if_icmp .ge 28, 3) := by decide +kernel
theorem dX5_equityOfKind_10 : decode cX5_equityOfKind 10 = .ok (.aload_n 0, 1) := by decide +kernel
theorem dX5_equityOfKind_11 : decode cX5_equityOfKind 11 = .ok (.getfield 18, 3) := by decide +kernel
theorem dX5_equityOfKind_14 : decode cX5_equityOfKind 14 = .ok (.iload_n 3, 1) := by decide +kernel
theorem dX5_equityOfKind_15 : decode cX5_equityOfKind 15 = .ok (.iaload, 1) := by decide +kernel
theorem dX5_equityOfKind_16 : decode cX5_equityOfKind 16 = .ok (.iload_n 1, 1) := by decide +kernel
theorem dX5_equityOfKind_17 : decode cX5_equityOfKind 17 = .ok (.if_icmp .ne 12, 3) := by decide +kernel
theorem dX5_equityOfKind_20 : decode cX5_equityOfKind 20 = .ok (.iload_n 2, 1) := by decide +kernel
theorem dX5_equityOfKind_21 : decode cX5_equityOfKind 21 = .ok (.aload_n 0, 1) := by decide +kernel
theorem dX5_equityOfKind_22 : decode cX5_equityOfKind 22 = .ok (.getfield 15, 3) := by decide +kernel
theorem dX5_equityOfKind_25 : decode cX5_equityOfKind 25 = .ok (.iload_n 3, 1) := by decide +kernel
theorem dX5_equityOfKind_26 : decode cX5_equityOfKind 26 = .ok (.iaload, 1) := by decide +kernel
theorem dX5_equityOfKind_27 : decode cX5_equityOfKind 27 = .ok (.iadd, 1) := by decide +kernel
theorem dX5_equityOfKind_28 : decode cX5_equityOfKind 28 = .ok (.istore_n 2, 1) := by decide +kernel
theorem dX5_equityOfKind_29 : decode cX5_equityOfKind 29 = .ok (.iinc 3 1, 3) := by decide +kernel
theorem dX5_equityOfKind_32 : decode cX5_equityOfKind 32 = .ok (.goto (-28), 3) := by decide +kernel
theorem dX5_equityOfKind_35 : decode cX5_equityOfKind 35 = .ok (.iload_n 2, 1) := by decide +kernel
theorem dX5_equityOfKind_36 : decode cX5_equityOfKind 36 = .ok (.ireturn, 1) := by decide +kernel
theorem dX5_weightedAge_0 : decode cX5_weightedAge 0 = .ok (.lconst 0, 1) := by decide +kernel
theorem dX5_weightedAge_1 : decode cX5_weightedAge 1 = .ok (.lstore_n 2, 1) := by decide +kernel
theorem dX5_weightedAge_2 : decode cX5_weightedAge 2 = .ok (.iconst 0, 1) := by decide +kernel
theorem dX5_weightedAge_3 : decode cX5_weightedAge 3 = .ok (.istore 4, 2) := by decide +kernel
theorem dX5_weightedAge_5 : decode cX5_weightedAge 5 = .ok (.iload 4, 2) := by decide +kernel
theorem dX5_weightedAge_7 : decode cX5_weightedAge 7 = .ok (.bipush 25, 2) := by decide +kernel
theorem dX5_weightedAge_9 : decode cX5_weightedAge 9 = .ok (.if_icmp .ge 26, 3) := by decide +kernel
theorem dX5_weightedAge_12 : decode cX5_weightedAge 12 = .ok (.lload_n 2, 1) := by decide +kernel
theorem dX5_weightedAge_13 : decode cX5_weightedAge 13 = .ok (.aload_n 0, 1) := by decide +kernel
theorem dX5_weightedAge_14 : decode cX5_weightedAge 14 = .ok (.getfield 15, 3) := by decide +kernel
theorem dX5_weightedAge_17 : decode cX5_weightedAge 17 = .ok (.iload 4, 2) := by decide +kernel
theorem dX5_weightedAge_19 : decode cX5_weightedAge 19 = .ok (.iaload, 1) := by decide +kernel
theorem dX5_weightedAge_20 : decode cX5_weightedAge 20 = .ok (.i2l, 1) := by decide +kernel
theorem dX5_weightedAge_21 : decode cX5_weightedAge 21 = .ok (.iload_n 1, 1) := by decide +kernel
theorem dX5_weightedAge_22 : decode cX5_weightedAge 22 = .ok (.iload 4, 2) := by decide +kernel
theorem dX5_weightedAge_24 : decode cX5_weightedAge 24 = .ok (.isub, 1) := by decide +kernel
theorem dX5_weightedAge_25 : decode cX5_weightedAge 25 = .ok (.i2l, 1) := by decide +kernel
theorem dX5_weightedAge_26 : decode cX5_weightedAge 26 = .ok (.lmul, 1) := by decide +kernel
theorem dX5_weightedAge_27 : decode cX5_weightedAge 27 = .ok (.ladd, 1) := by decide +kernel
theorem dX5_weightedAge_28 : decode cX5_weightedAge 28 = .ok (.lstore_n 2, 1) := by decide +kernel
theorem dX5_weightedAge_29 : decode cX5_weightedAge 29 = .ok (.iinc 4 1, 3) := by decide +kernel
theorem dX5_weightedAge_32 : decode cX5_weightedAge 32 = .ok (.goto (-27), 3) := by decide +kernel
theorem dX5_weightedAge_35 : decode cX5_weightedAge 35 = .ok (.lload_n 2, 1) := by decide +kernel
theorem dX5_weightedAge_36 : decode cX5_weightedAge 36 = .ok (.lreturn, 1) := by decide +kernel
theorem dX5_earliestYear_0 : decode cX5_earliestYear 0 = .ok (.iconst 0, 1) := by decide +kernel
theorem dX5_earliestYear_1 : decode cX5_earliestYear 1 = .ok (.istore_n 1, 1) := by decide +kernel
theorem dX5_earliestYear_2 : decode cX5_earliestYear 2 = .ok (.iload_n 1, 1) := by decide +kernel
theorem dX5_earliestYear_3 : decode cX5_earliestYear 3 = .ok (.bipush 25, 2) := by decide +kernel
theorem dX5_earliestYear_5 : decode cX5_earliestYear 5 = .ok (.if_icmp .ge 20, 3) := by decide +kernel
theorem dX5_earliestYear_8 : decode cX5_earliestYear 8 = .ok (.aload_n 0, 1) := by decide +kernel
theorem dX5_earliestYear_9 : decode cX5_earliestYear 9 = .ok (.getfield 15, 3) := by decide +kernel
theorem dX5_earliestYear_12 : decode cX5_earliestYear 12 = .ok (.iload_n 1, 1) := by decide +kernel
theorem dX5_earliestYear_13 : decode cX5_earliestYear 13 = .ok (.iaload, 1) := by decide +kernel
theorem dX5_earliestYear_14 : decode cX5_earliestYear 14 = .ok (.ifCond .le 5, 3) := by decide +kernel
theorem dX5_earliestYear_17 : decode cX5_earliestYear 17 = .ok (.iload_n 1, 1) := by decide +kernel
theorem dX5_earliestYear_18 : decode cX5_earliestYear 18 = .ok (.ireturn, 1) := by decide +kernel
theorem dX5_earliestYear_19 : decode cX5_earliestYear 19 = .ok (.iinc 1 1, 3) := by decide +kernel
theorem dX5_earliestYear_22 : decode cX5_earliestYear 22 = .ok (.goto (-20), 3) := by decide +kernel
theorem dX5_earliestYear_25 : decode cX5_earliestYear 25 = .ok (.iconst (-1), 1) := by decide +kernel
theorem dX5_earliestYear_26 : decode cX5_earliestYear 26 = .ok (.ireturn, 1) := by decide +kernel
theorem dX5_hasPatronage_0 : decode cX5_hasPatronage 0 = .ok (.iconst 0, 1) := by decide +kernel
theorem dX5_hasPatronage_1 : decode cX5_hasPatronage 1 = .ok (.istore_n 1, 1) := by decide +kernel
theorem dX5_hasPatronage_2 : decode cX5_hasPatronage 2 = .ok (.iload_n 1, 1) := by decide +kernel
theorem dX5_hasPatronage_3 : decode cX5_hasPatronage 3 = .ok (.iconst 4, 1) := by decide +kernel
theorem dX5_hasPatronage_4 : decode cX5_hasPatronage 4 = .ok (.if_icmp .ge 20, 3) := by decide +kernel
theorem dX5_hasPatronage_7 : decode cX5_hasPatronage 7 = .ok (.aload_n 0, 1) := by decide +kernel
theorem dX5_hasPatronage_8 : decode cX5_hasPatronage 8 = .ok (.getfield 9, 3) := by decide +kernel
theorem dX5_hasPatronage_11 : decode cX5_hasPatronage 11 = .ok (.iload_n 1, 1) := by decide +kernel
theorem dX5_hasPatronage_12 : decode cX5_hasPatronage 12 = .ok (.iaload, 1) := by decide +kernel
theorem dX5_hasPatronage_13 : decode cX5_hasPatronage 13 = .ok (.ifCond .le 5, 3) := by decide +kernel
theorem dX5_hasPatronage_16 : decode cX5_hasPatronage 16 = .ok (.iconst 1, 1) := by decide +kernel
theorem dX5_hasPatronage_17 : decode cX5_hasPatronage 17 = .ok (.ireturn, 1) := by decide +kernel
theorem dX5_hasPatronage_18 : decode cX5_hasPatronage 18 = .ok (.iinc 1 1, 3) := by decide +kernel
theorem dX5_hasPatronage_21 : decode cX5_hasPatronage 21 = .ok (.goto (-19), 3) := by decide +kernel
theorem dX5_hasPatronage_24 : decode cX5_hasPatronage 24 = .ok (.iconst 0, 1) := by decide +kernel
theorem dX5_hasPatronage_25 : decode cX5_hasPatronage 25 = .ok (.ireturn, 1) := by decide +kernel
theorem dX5_certify_0 : decode cX5_certify 0 = .ok (.iload_n 2, 1) := by decide +kernel
theorem dX5_certify_1 : decode cX5_certify 1 = .ok (.ifCond .le 27, 3) := by decide +kernel
theorem dX5_certify_4 : decode cX5_certify 4 = .ok (.iload_n 1, 1) := by decide +kernel
theorem dX5_certify_5 : decode cX5_certify 5 = .ok (.ifCond .lt 23, 3) := by decide +kernel
theorem dX5_certify_8 : decode cX5_certify 8 = .ok (.iload_n 1, 1) := by decide +kernel
theorem dX5_certify_9 : decode cX5_certify 9 = .ok (.bipush 25, 2) := by decide +kernel
theorem dX5_certify_11 : decode cX5_certify 11 = .ok (.if_icmp .ge 17, 3) := by decide +kernel
theorem dX5_certify_14 : decode cX5_certify 14 = .ok (.aload_n 0, 1) := by decide +kernel
theorem dX5_certify_15 : decode cX5_certify 15 = .ok (.getfield 15, 3) := by decide +kernel
theorem dX5_certify_18 : decode cX5_certify 18 = .ok (.iload_n 1, 1) := by decide +kernel
theorem dX5_certify_19 : decode cX5_certify 19 = .ok (.iload_n 2, 1) := by decide +kernel
theorem dX5_certify_20 : decode cX5_certify 20 = .ok (.iastore, 1) := by decide +kernel
theorem dX5_certify_21 : decode cX5_certify 21 = .ok (.aload_n 0, 1) := by decide +kernel
theorem dX5_certify_22 : decode cX5_certify 22 = .ok (.getfield 18, 3) := by decide +kernel
theorem dX5_certify_25 : decode cX5_certify 25 = .ok (.iload_n 1, 1) := by decide +kernel
theorem dX5_certify_26 : decode cX5_certify 26 = .ok (.iload_n 3, 1) := by decide +kernel
theorem dX5_certify_27 : decode cX5_certify 27 = .ok (.iastore, 1) := by decide +kernel
theorem dX5_certify_28 : decode cX5_certify 28 = .ok (.return_, 1) := by decide +kernel
theorem dX5_recaptureFrom_0 : decode cX5_recaptureFrom 0 = .ok (.iload_n 1, 1) := by decide +kernel
theorem dX5_recaptureFrom_1 : decode cX5_recaptureFrom 1 = .ok (.istore_n 2, 1) := by decide +kernel
theorem dX5_recaptureFrom_2 : decode cX5_recaptureFrom 2 = .ok (.bipush 24, 2) := by decide +kernel
theorem dX5_recaptureFrom_4 : decode cX5_recaptureFrom 4 = .ok (.istore_n 3, 1) := by decide +kernel
theorem dX5_recaptureFrom_5 : decode cX5_recaptureFrom 5 = .ok (.iload_n 3, 1) := by decide +kernel
theorem dX5_recaptureFrom_6 : decode cX5_recaptureFrom 6 = .ok (.ifCond .lt 41, 3) := by decide +kernel
theorem dX5_recaptureFrom_9 : decode cX5_recaptureFrom 9 = .ok (.iload_n 2, 1) := by decide +kernel
theorem dX5_recaptureFrom_10 : decode cX5_recaptureFrom 10 = .ok (.ifCond .le 37, 3) := by decide +kernel
theorem dX5_recaptureFrom_13 : decode cX5_recaptureFrom 13 = .ok (.iload_n 2, 1) := by decide +kernel
theorem dX5_recaptureFrom_14 : decode cX5_recaptureFrom 14 = .ok (.aload_n 0, 1) := by decide +kernel
theorem dX5_recaptureFrom_15 : decode cX5_recaptureFrom 15 = .ok (.getfield 15, 3) := by decide +kernel
theorem dX5_recaptureFrom_18 : decode cX5_recaptureFrom 18 = .ok (.iload_n 3, 1) := by decide +kernel
theorem dX5_recaptureFrom_19 : decode cX5_recaptureFrom 19 = .ok (.iaload, 1) := by decide +kernel
theorem dX5_recaptureFrom_20 : decode cX5_recaptureFrom 20 = .ok (.invokestatic 56, 3) := by decide +kernel
theorem dX5_recaptureFrom_23 : decode cX5_recaptureFrom 23 = .ok (.istore 4, 2) := by decide +kernel
theorem dX5_recaptureFrom_25 : decode cX5_recaptureFrom 25 = .ok (.aload_n 0, 1) := by decide +kernel
theorem dX5_recaptureFrom_26 : decode cX5_recaptureFrom 26 = .ok (.getfield 15, 3) := by decide +kernel
theorem dX5_recaptureFrom_29 : decode cX5_recaptureFrom 29 = .ok (.iload_n 3, 1) := by decide +kernel
theorem dX5_recaptureFrom_30 : decode cX5_recaptureFrom 30 = .ok (.dup2, 1) := by decide +kernel
theorem dX5_recaptureFrom_31 : decode cX5_recaptureFrom 31 = .ok (.iaload, 1) := by decide +kernel
theorem dX5_recaptureFrom_32 : decode cX5_recaptureFrom 32 = .ok (.iload 4, 2) := by decide +kernel
theorem dX5_recaptureFrom_34 : decode cX5_recaptureFrom 34 = .ok (.isub, 1) := by decide +kernel
theorem dX5_recaptureFrom_35 : decode cX5_recaptureFrom 35 = .ok (.iastore, 1) := by decide +kernel
theorem dX5_recaptureFrom_36 : decode cX5_recaptureFrom 36 = .ok (.iload_n 2, 1) := by decide +kernel
theorem dX5_recaptureFrom_37 : decode cX5_recaptureFrom 37 = .ok (.iload 4, 2) := by decide +kernel
theorem dX5_recaptureFrom_39 : decode cX5_recaptureFrom 39 = .ok (.isub, 1) := by decide +kernel
theorem dX5_recaptureFrom_40 : decode cX5_recaptureFrom 40 = .ok (.istore_n 2, 1) := by decide +kernel
theorem dX5_recaptureFrom_41 : decode cX5_recaptureFrom 41 = .ok (.iinc 3 (-1), 3) := by decide +kernel
theorem dX5_recaptureFrom_44 : decode cX5_recaptureFrom 44 = .ok (.goto (-39), 3) := by decide +kernel
theorem dX5_recaptureFrom_47 : decode cX5_recaptureFrom 47 = .ok (.iload_n 1, 1) := by decide +kernel
theorem dX5_recaptureFrom_48 : decode cX5_recaptureFrom 48 = .ok (.iload_n 2, 1) := by decide +kernel
theorem dX5_recaptureFrom_49 : decode cX5_recaptureFrom 49 = .ok (.isub, 1) := by decide +kernel
theorem dX5_recaptureFrom_50 : decode cX5_recaptureFrom 50 = .ok (.ireturn, 1) := by decide +kernel
theorem dX5_startLeaving_0 : decode cX5_startLeaving 0 = .ok (.aload_n 0, 1) := by decide +kernel
theorem dX5_startLeaving_1 : decode cX5_startLeaving 1 = .ok (.invokevirtual 62, 3) := by decide +kernel
theorem dX5_startLeaving_4 : decode cX5_startLeaving 4 = .ok (.ifCond .le 7, 3) := by decide +kernel
theorem dX5_startLeaving_7 : decode cX5_startLeaving 7 = .ok (.iconst 1, 1) := by decide +kernel
theorem dX5_startLeaving_8 : decode cX5_startLeaving 8 = .ok (.goto 4, 3) := by decide +kernel
theorem dX5_startLeaving_11 : decode cX5_startLeaving 11 = .ok (.iconst 0, 1) := by decide +kernel
theorem dX5_startLeaving_12 : decode cX5_startLeaving 12 = .ok (.istore_n 2, 1) := by decide +kernel
theorem dX5_startLeaving_13 : decode cX5_startLeaving 13 = .ok (.aload_n 0, 1) := by decide +kernel
theorem dX5_startLeaving_14 : decode cX5_startLeaving 14 = .ok (.iload_n 2, 1) := by decide +kernel
theorem dX5_startLeaving_15 : decode cX5_startLeaving 15 = .ok (.ifCond .eq 7, 3) := by decide +kernel
theorem dX5_startLeaving_18 : decode cX5_startLeaving 18 = .ok (.iconst 1, 1) := by decide +kernel
theorem dX5_startLeaving_19 : decode cX5_startLeaving 19 = .ok (.goto 4, 3) := by decide +kernel
theorem dX5_startLeaving_22 : decode cX5_startLeaving 22 = .ok (.iconst 2, 1) := by decide +kernel
theorem dX5_startLeaving_23 : decode cX5_startLeaving 23 = .ok (.putfield 32, 3) := by decide +kernel
theorem dX5_startLeaving_26 : decode cX5_startLeaving 26 = .ok (.aload_n 0, 1) := by decide +kernel
theorem dX5_startLeaving_27 : decode cX5_startLeaving 27 = .ok (.iload_n 2, 1) := by decide +kernel
theorem dX5_startLeaving_28 : decode cX5_startLeaving 28 = .ok (.ifCond .eq 7, 3) := by decide +kernel
theorem dX5_startLeaving_31 : decode cX5_startLeaving 31 = .ok (.iload_n 1, 1) := by decide +kernel
theorem dX5_startLeaving_32 : decode cX5_startLeaving 32 = .ok (.goto 4, 3) := by decide +kernel
theorem dX5_startLeaving_35 : decode cX5_startLeaving 35 = .ok (.iconst 0, 1) := by decide +kernel
theorem dX5_startLeaving_36 : decode cX5_startLeaving 36 = .ok (.putfield 35, 3) := by decide +kernel
theorem dX5_startLeaving_39 : decode cX5_startLeaving 39 = .ok (.return_, 1) := by decide +kernel
theorem dX5_payInstallment_0 : decode cX5_payInstallment 0 = .ok (.aload_n 0, 1) := by decide +kernel
theorem dX5_payInstallment_1 : decode cX5_payInstallment 1 = .ok (.invokevirtual 62, 3) := by decide +kernel
theorem dX5_payInstallment_4 : decode cX5_payInstallment 4 = .ok (.aload_n 0, 1) := by decide +kernel
theorem dX5_payInstallment_5 : decode cX5_payInstallment 5 = .ok (.getfield 35, 3) := by decide +kernel
theorem dX5_payInstallment_8 : decode cX5_payInstallment 8 = .ok (.invokestatic 66, 3) := by decide +kernel
theorem dX5_payInstallment_11 : decode cX5_payInstallment 11 = .ok (.istore_n 1, 1) := by decide +kernel
theorem dX5_payInstallment_12 : decode cX5_payInstallment 12 = .ok (.iload_n 1, 1) := by decide +kernel
theorem dX5_payInstallment_13 : decode cX5_payInstallment 13 = .ok (.istore_n 2, 1) := by decide +kernel
theorem dX5_payInstallment_14 : decode cX5_payInstallment 14 = .ok (.iconst 0, 1) := by decide +kernel
theorem dX5_payInstallment_15 : decode cX5_payInstallment 15 = .ok (.istore_n 3, 1) := by decide +kernel
theorem dX5_payInstallment_16 : decode cX5_payInstallment 16 = .ok (.iload_n 3, 1) := by decide +kernel
theorem dX5_payInstallment_17 : decode cX5_payInstallment 17 = .ok (.bipush 25, 2) := by decide +kernel
theorem dX5_payInstallment_19 : decode cX5_payInstallment 19 = .ok (.if_icmp .ge 41, 3) := by decide +kernel
theorem dX5_payInstallment_22 : decode cX5_payInstallment 22 = .ok (.iload_n 2, 1) := by decide +kernel
theorem dX5_payInstallment_23 : decode cX5_payInstallment 23 = .ok (.ifCond .le 37, 3) := by decide +kernel
theorem dX5_payInstallment_26 : decode cX5_payInstallment 26 = .ok (.iload_n 2, 1) := by decide +kernel
theorem dX5_payInstallment_27 : decode cX5_payInstallment 27 = .ok (.aload_n 0, 1) := by decide +kernel
theorem dX5_payInstallment_28 : decode cX5_payInstallment 28 = .ok (.getfield 15, 3) := by decide +kernel
theorem dX5_payInstallment_31 : decode cX5_payInstallment 31 = .ok (.iload_n 3, 1) := by decide +kernel
theorem dX5_payInstallment_32 : decode cX5_payInstallment 32 = .ok (.iaload, 1) := by decide +kernel
theorem dX5_payInstallment_33 : decode cX5_payInstallment 33 = .ok (.invokestatic 56, 3) := by decide +kernel
theorem dX5_payInstallment_36 : decode cX5_payInstallment 36 = .ok (.istore 4, 2) := by decide +kernel
theorem dX5_payInstallment_38 : decode cX5_payInstallment 38 = .ok (.aload_n 0, 1) := by decide +kernel
theorem dX5_payInstallment_39 : decode cX5_payInstallment 39 = .ok (.getfield 15, 3) := by decide +kernel
theorem dX5_payInstallment_42 : decode cX5_payInstallment 42 = .ok (.iload_n 3, 1) := by decide +kernel
theorem dX5_payInstallment_43 : decode cX5_payInstallment 43 = .ok (.dup2, 1) := by decide +kernel
theorem dX5_payInstallment_44 : decode cX5_payInstallment 44 = .ok (.iaload, 1) := by decide +kernel
theorem dX5_payInstallment_45 : decode cX5_payInstallment 45 = .ok (.iload 4, 2) := by decide +kernel
theorem dX5_payInstallment_47 : decode cX5_payInstallment 47 = .ok (.isub, 1) := by decide +kernel
theorem dX5_payInstallment_48 : decode cX5_payInstallment 48 = .ok (.iastore, 1) := by decide +kernel
theorem dX5_payInstallment_49 : decode cX5_payInstallment 49 = .ok (.iload_n 2, 1) := by decide +kernel
theorem dX5_payInstallment_50 : decode cX5_payInstallment 50 = .ok (.iload 4, 2) := by decide +kernel
theorem dX5_payInstallment_52 : decode cX5_payInstallment 52 = .ok (.isub, 1) := by decide +kernel
theorem dX5_payInstallment_53 : decode cX5_payInstallment 53 = .ok (.istore_n 2, 1) := by decide +kernel
theorem dX5_payInstallment_54 : decode cX5_payInstallment 54 = .ok (.iinc 3 1, 3) := by decide +kernel
theorem dX5_payInstallment_57 : decode cX5_payInstallment 57 = .ok (.goto (-41), 3) := by decide +kernel
theorem dX5_payInstallment_60 : decode cX5_payInstallment 60 = .ok (.aload_n 0, 1) := by decide +kernel
theorem dX5_payInstallment_61 : decode cX5_payInstallment 61 = .ok (.getfield 21, 3) := by decide +kernel
theorem dX5_payInstallment_64 : decode cX5_payInstallment 64 = .ok (.iconst 2, 1) := by decide +kernel
theorem dX5_payInstallment_65 : decode cX5_payInstallment 65 = .ok (.dup2, 1) := by decide +kernel
theorem dX5_payInstallment_66 : decode cX5_payInstallment 66 = .ok (.iaload, 1) := by decide +kernel
theorem dX5_payInstallment_67 : decode cX5_payInstallment 67 = .ok (.iload_n 1, 1) := by decide +kernel
theorem dX5_payInstallment_68 : decode cX5_payInstallment 68 = .ok (.iadd, 1) := by decide +kernel
theorem dX5_payInstallment_69 : decode cX5_payInstallment 69 = .ok (.iastore, 1) := by decide +kernel
theorem dX5_payInstallment_70 : decode cX5_payInstallment 70 = .ok (.aload_n 0, 1) := by decide +kernel
theorem dX5_payInstallment_71 : decode cX5_payInstallment 71 = .ok (.dup, 1) := by decide +kernel
theorem dX5_payInstallment_72 : decode cX5_payInstallment 72 = .ok (.getfield 35, 3) := by decide +kernel
theorem dX5_payInstallment_75 : decode cX5_payInstallment 75 = .ok (.iconst 1, 1) := by decide +kernel
theorem dX5_payInstallment_76 : decode cX5_payInstallment 76 = .ok (.isub, 1) := by decide +kernel
theorem dX5_payInstallment_77 : decode cX5_payInstallment 77 = .ok (.putfield 35, 3) := by decide +kernel
theorem dX5_payInstallment_80 : decode cX5_payInstallment 80 = .ok (.aload_n 0, 1) := by decide +kernel
theorem dX5_payInstallment_81 : decode cX5_payInstallment 81 = .ok (.getfield 35, 3) := by decide +kernel
theorem dX5_payInstallment_84 : decode cX5_payInstallment 84 = .ok (.ifCond .gt 13, 3) := by decide +kernel
theorem dX5_payInstallment_87 : decode cX5_payInstallment 87 = .ok (.aload_n 0, 1) := by decide +kernel
theorem dX5_payInstallment_88 : decode cX5_payInstallment 88 = .ok (.iconst 0, 1) := by decide +kernel
theorem dX5_payInstallment_89 : decode cX5_payInstallment 89 = .ok (.putfield 35, 3) := by decide +kernel
theorem dX5_payInstallment_92 : decode cX5_payInstallment 92 = .ok (.aload_n 0, 1) := by decide +kernel
theorem dX5_payInstallment_93 : decode cX5_payInstallment 93 = .ok (.iconst 2, 1) := by decide +kernel
theorem dX5_payInstallment_94 : decode cX5_payInstallment 94 = .ok (.putfield 32, 3) := by decide +kernel
theorem dX5_payInstallment_97 : decode cX5_payInstallment 97 = .ok (.return_, 1) := by decide +kernel
theorem dX5_installmentAfter_0 : decode cX5_installmentAfter 0 = .ok (.iload_n 1, 1) := by decide +kernel
theorem dX5_installmentAfter_1 : decode cX5_installmentAfter 1 = .ok (.ifCond .lt 11, 3) := by decide +kernel
theorem dX5_installmentAfter_4 : decode cX5_installmentAfter 4 = .ok (.iload_n 1, 1) := by decide +kernel
theorem dX5_installmentAfter_5 : decode cX5_installmentAfter 5 = .ok (.aload_n 0, 1) := by decide +kernel
theorem dX5_installmentAfter_6 : decode cX5_installmentAfter 6 = .ok (.getfield 35, 3) := by decide +kernel
theorem dX5_installmentAfter_9 : decode cX5_installmentAfter 9 = .ok (.if_icmp .lt 5, 3) := by decide +kernel
theorem dX5_installmentAfter_12 : decode cX5_installmentAfter 12 = .ok (.iconst (-1), 1) := by decide +kernel
theorem dX5_installmentAfter_13 : decode cX5_installmentAfter 13 = .ok (.ireturn, 1) := by decide +kernel
theorem dX5_installmentAfter_14 : decode cX5_installmentAfter 14 = .ok (.aload_n 0, 1) := by decide +kernel
theorem dX5_installmentAfter_15 : decode cX5_installmentAfter 15 = .ok (.invokevirtual 62, 3) := by decide +kernel
theorem dX5_installmentAfter_18 : decode cX5_installmentAfter 18 = .ok (.istore_n 2, 1) := by decide +kernel
theorem dX5_installmentAfter_19 : decode cX5_installmentAfter 19 = .ok (.iconst 0, 1) := by decide +kernel
theorem dX5_installmentAfter_20 : decode cX5_installmentAfter 20 = .ok (.istore_n 3, 1) := by decide +kernel
theorem dX5_installmentAfter_21 : decode cX5_installmentAfter 21 = .ok (.iload_n 3, 1) := by decide +kernel
theorem dX5_installmentAfter_22 : decode cX5_installmentAfter 22 = .ok (.iload_n 1, 1) := by decide +kernel
theorem dX5_installmentAfter_23 : decode cX5_installmentAfter 23 = .ok (.if_icmp .ge 22, 3) := by decide +kernel
theorem dX5_installmentAfter_26 : decode cX5_installmentAfter 26 = .ok (.iload_n 2, 1) := by decide +kernel
theorem dX5_installmentAfter_27 : decode cX5_installmentAfter 27 = .ok (.iload_n 2, 1) := by decide +kernel
theorem dX5_installmentAfter_28 : decode cX5_installmentAfter 28 = .ok (.aload_n 0, 1) := by decide +kernel
theorem dX5_installmentAfter_29 : decode cX5_installmentAfter 29 = .ok (.getfield 35, 3) := by decide +kernel
theorem dX5_installmentAfter_32 : decode cX5_installmentAfter 32 = .ok (.iload_n 3, 1) := by decide +kernel
theorem dX5_installmentAfter_33 : decode cX5_installmentAfter 33 = .ok (.isub, 1) := by decide +kernel
theorem dX5_installmentAfter_34 : decode cX5_installmentAfter 34 = .ok (.invokestatic 66, 3) := by decide +kernel
theorem dX5_installmentAfter_37 : decode cX5_installmentAfter 37 = .ok (.isub, 1) := by decide +kernel
theorem dX5_installmentAfter_38 : decode cX5_installmentAfter 38 = .ok (.istore_n 2, 1) := by decide +kernel
theorem dX5_installmentAfter_39 : decode cX5_installmentAfter 39 = .ok (.iinc 3 1, 3) := by decide +kernel
theorem dX5_installmentAfter_42 : decode cX5_installmentAfter 42 = .ok (.goto (-21), 3) := by decide +kernel
theorem dX5_installmentAfter_45 : decode cX5_installmentAfter 45 = .ok (.iload_n 2, 1) := by decide +kernel
theorem dX5_installmentAfter_46 : decode cX5_installmentAfter 46 = .ok (.aload_n 0, 1) := by decide +kernel
theorem dX5_installmentAfter_47 : decode cX5_installmentAfter 47 = .ok (.getfield 35, 3) := by decide +kernel
theorem dX5_installmentAfter_50 : decode cX5_installmentAfter 50 = .ok (.iload_n 1, 1) := by decide +kernel
theorem dX5_installmentAfter_51 : decode cX5_installmentAfter 51 = .ok (.isub, 1) := by decide +kernel
theorem dX5_installmentAfter_52 : decode cX5_installmentAfter 52 = .ok (.invokestatic 66, 3) := by decide +kernel
theorem dX5_installmentAfter_55 : decode cX5_installmentAfter 55 = .ok (.ireturn, 1) := by decide +kernel
theorem dX5_roundedUp_0 : decode cX5_roundedUp 0 = .ok (.iload_n 1, 1) := by decide +kernel
theorem dX5_roundedUp_1 : decode cX5_roundedUp 1 = .ok (.ifCond .le 13, 3) := by decide +kernel
theorem dX5_roundedUp_4 : decode cX5_roundedUp 4 = .ok (.iload_n 0, 1) := by decide +kernel
theorem dX5_roundedUp_5 : decode cX5_roundedUp 5 = .ok (.iload_n 1, 1) := by decide +kernel
theorem dX5_roundedUp_6 : decode cX5_roundedUp 6 = .ok (.iadd, 1) := by decide +kernel
theorem dX5_roundedUp_7 : decode cX5_roundedUp 7 = .ok (.iconst 1, 1) := by decide +kernel
theorem dX5_roundedUp_8 : decode cX5_roundedUp 8 = .ok (.isub, 1) := by decide +kernel
theorem dX5_roundedUp_9 : decode cX5_roundedUp 9 = .ok (.iload_n 1, 1) := by decide +kernel
theorem dX5_roundedUp_10 : decode cX5_roundedUp 10 = .ok (.idiv, 1) := by decide +kernel
theorem dX5_roundedUp_11 : decode cX5_roundedUp 11 = .ok (.goto 4, 3) := by decide +kernel
theorem dX5_roundedUp_14 : decode cX5_roundedUp 14 = .ok (.iload_n 0, 1) := by decide +kernel
theorem dX5_roundedUp_15 : decode cX5_roundedUp 15 = .ok (.ireturn, 1) := by decide +kernel
