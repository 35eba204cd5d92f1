theorem dX0_init_0 : decode cX0_init 0 = .ok (.aload_n 0, 1) := by decide +kernel
theorem dX0_init_1 : decode cX0_init 1 = .ok (.invokespecial 3, 3) := by decide +kernel
theorem dX0_init_4 : decode cX0_init 4 = .ok (.aload_n 0, 1) := by decide +kernel
theorem dX0_init_5 : decode cX0_init 5 = .ok (.bipush 8, 2) := by decide +kernel
theorem dX0_init_7 : decode cX0_init 7 = .ok (.anewarray 9, 3) := by decide +kernel
theorem dX0_init_10 : decode cX0_init 10 = .ok (.putfield 11, 3) := by decide +kernel
theorem dX0_init_13 : decode cX0_init 13 = .ok (.aload_n 0, 1) := by decide +kernel
theorem dX0_init_14 : decode cX0_init 14 = .ok (.iconst 4, 1) := by decide +kernel
theorem dX0_init_15 : decode cX0_init 15 = .ok (.anewarray 17, 3) := by decide +kernel
theorem dX0_init_18 : decode cX0_init 18 = .ok (.putfield 19, 3) := by decide +kernel
theorem dX0_init_21 : decode cX0_init 21 = .ok (.aload_n 0, 1) := by decide +kernel
theorem dX0_init_22 : decode cX0_init 22 = .ok (.iconst 5, 1) := by decide +kernel
theorem dX0_init_23 : decode cX0_init 23 = .ok (.newarray .int, 2) := by decide +kernel
theorem dX0_init_25 : decode cX0_init 25 = .ok (.putfield 23, 3) := by decide +kernel
theorem dX0_init_28 : decode cX0_init 28 = .ok (.iconst 0, 1) := by decide +kernel
theorem dX0_init_29 : decode cX0_init 29 = .ok (.istore_n 1, 1) := by decide +kernel
theorem dX0_init_30 : decode cX0_init 30 = .ok (.iload_n 1, 1) := by decide +kernel
theorem dX0_init_31 : decode cX0_init 31 = .ok (.bipush 8, 2) := by decide +kernel
theorem dX0_init_33 : decode cX0_init 33 = .ok (.if_icmp .ge 22, 3) := by decide +kernel
theorem dX0_init_36 : decode cX0_init 36 = .ok (.aload_n 0, 1) := by decide +kernel
theorem dX0_init_37 : decode cX0_init 37 = .ok (.getfield 11, 3) := by decide +kernel
theorem dX0_init_40 : decode cX0_init 40 = .ok (.iload_n 1, 1) := by decide +kernel
theorem dX0_init_41 : decode cX0_init 41 = .ok (.new 9, 3) := by decide +kernel
theorem dX0_init_44 : decode cX0_init 44 = .ok (.dup, 1) := by decide +kernel
theorem dX0_init_45 : decode cX0_init 45 = .ok (.invokespecial 27, 3) := by decide +kernel
theorem dX0_init_48 : decode cX0_init 48 = .ok (.aastore, 1) := by decide +kernel
theorem dX0_init_49 : decode cX0_init 49 = .ok (.iinc 1 1, 3) := by decide +kernel
theorem dX0_init_52 : decode cX0_init 52 = .ok (.goto (-22), 3) := by decide +kernel
theorem dX0_init_55 : decode cX0_init 55 = .ok (.iconst 0, 1) := by decide +kernel
theorem dX0_init_56 : decode cX0_init 56 = .ok (.istore_n 1, 1) := by decide +kernel
theorem dX0_init_57 : decode cX0_init 57 = .ok (.iload_n 1, 1) := by decide +kernel
theorem dX0_init_58 : decode cX0_init 58 = .ok (.iconst 4, 1) := by decide +kernel
theorem dX0_init_59 : decode cX0_init 59 = .ok (.if_icmp .ge 22, 3) := by decide +kernel
theorem dX0_init_62 : decode cX0_init 62 = .ok (.aload_n 0, 1) := by decide +kernel
theorem dX0_init_63 : decode cX0_init 63 = .ok (.getfield 19, 3) := by decide +kernel
theorem dX0_init_66 : decode cX0_init 66 = .ok (.iload_n 1, 1) := by decide +kernel
theorem dX0_init_67 : decode cX0_init 67 = .ok (.new 17, 3) := by decide +kernel
theorem dX0_init_70 : decode cX0_init 70 = .ok (.dup, 1) := by decide +kernel
theorem dX0_init_71 : decode cX0_init 71 = .ok (.invokespecial 28, 3) := by decide +kernel
theorem dX0_init_74 : decode cX0_init 74 = .ok (.aastore, 1) := by decide +kernel
theorem dX0_init_75 : decode cX0_init 75 = .ok (.iinc 1 1, 3) := by decide +kernel
theorem dX0_init_78 : decode cX0_init 78 = .ok (.goto (-21), 3) := by decide +kernel
theorem dX0_init_81 : decode cX0_init 81 = .ok (.getstatic 29, 3) := by decide +kernel
theorem dX0_init_84 : decode cX0_init 84 = .ok (.iconst 0, 1) := by decide +kernel
theorem dX0_init_85 : decode cX0_init 85 = .ok (.aload_n 0, 1) := by decide +kernel
theorem dX0_init_86 : decode cX0_init 86 = .ok (.getfield 23, 3) := by decide +kernel
theorem dX0_init_89 : decode cX0_init 89 = .ok (.iconst 0, 1) := by decide +kernel
theorem dX0_init_90 : decode cX0_init 90 = .ok (.iconst 5, 1) := by decide +kernel
theorem dX0_init_91 : decode cX0_init 91 = .ok (.invokestatic 32, 3) := by decide +kernel
theorem dX0_init_94 : decode cX0_init 94 = .ok (.return_, 1) := by decide +kernel
theorem dX0_startAnew_0 : decode cX0_startAnew 0 = .ok (.aload_n 0, 1) := by decide +kernel
theorem dX0_startAnew_1 : decode cX0_startAnew 1 = .ok (.iconst 0, 1) := by decide +kernel
theorem dX0_startAnew_2 : decode cX0_startAnew 2 = .ok (.putfield 38, 3) := by decide +kernel
theorem dX0_startAnew_5 : decode cX0_startAnew 5 = .ok (.aload_n 0, 1) := by decide +kernel
theorem dX0_startAnew_6 : decode cX0_startAnew 6 = .ok (.iconst 0, 1) := by decide +kernel
theorem dX0_startAnew_7 : decode cX0_startAnew 7 = .ok (.putfield 42, 3) := by decide +kernel
theorem dX0_startAnew_10 : decode cX0_startAnew 10 = .ok (.aload_n 0, 1) := by decide +kernel
theorem dX0_startAnew_11 : decode cX0_startAnew 11 = .ok (.iconst 0, 1) := by decide +kernel
theorem dX0_startAnew_12 : decode cX0_startAnew 12 = .ok (.putfield 45, 3) := by decide +kernel
theorem dX0_startAnew_15 : decode cX0_startAnew 15 = .ok (.aload_n 0, 1) := by decide +kernel
theorem dX0_startAnew_16 : decode cX0_startAnew 16 = .ok (.iconst 0, 1) := by decide +kernel
theorem dX0_startAnew_17 : decode cX0_startAnew 17 = .ok (.putfield 48, 3) := by decide +kernel
theorem dX0_startAnew_20 : decode cX0_startAnew 20 = .ok (.aload_n 0, 1) := by decide +kernel
theorem dX0_startAnew_21 : decode cX0_startAnew 21 = .ok (.iconst 0, 1) := by decide +kernel
theorem dX0_startAnew_22 : decode cX0_startAnew 22 = .ok (.putfield 51, 3) := by decide +kernel
theorem dX0_startAnew_25 : decode cX0_startAnew 25 = .ok (.aload_n 0, 1) := by decide +kernel
theorem dX0_startAnew_26 : decode cX0_startAnew 26 = .ok (.iconst 0, 1) := by decide +kernel
theorem dX0_startAnew_27 : decode cX0_startAnew 27 = .ok (.putfield 54, 3) := by decide +kernel
theorem dX0_startAnew_30 : decode cX0_startAnew 30 = .ok (.getstatic 29, 3) := by decide +kernel
theorem dX0_startAnew_33 : decode cX0_startAnew 33 = .ok (.iconst 0, 1) := by decide +kernel
theorem dX0_startAnew_34 : decode cX0_startAnew 34 = .ok (.aload_n 0, 1) := by decide +kernel
theorem dX0_startAnew_35 : decode cX0_startAnew 35 = .ok (.getfield 23, 3) := by decide +kernel
theorem dX0_startAnew_38 : decode cX0_startAnew 38 = .ok (.iconst 0, 1) := by decide +kernel
theorem dX0_startAnew_39 : decode cX0_startAnew 39 = .ok (.iconst 5, 1) := by decide +kernel
theorem dX0_startAnew_40 : decode cX0_startAnew 40 = .ok (.invokestatic 32, 3) := by decide +kernel
theorem dX0_startAnew_43 : decode cX0_startAnew 43 = .ok (.return_, 1) := by decide +kernel
theorem dX0_copyFrom_0 : decode cX0_copyFrom 0 = .ok (.aload_n 0, 1) := by decide +kernel
theorem dX0_copyFrom_1 : decode cX0_copyFrom 1 = .ok (.aload_n 1, 1) := by decide +kernel
theorem dX0_copyFrom_2 : decode cX0_copyFrom 2 = .ok (.getfield 38, 3) := by decide +kernel
theorem dX0_copyFrom_5 : decode cX0_copyFrom 5 = .ok (.putfield 38, 3) := by decide +kernel
theorem dX0_copyFrom_8 : decode cX0_copyFrom 8 = .ok (.aload_n 0, 1) := by decide +kernel
theorem dX0_copyFrom_9 : decode cX0_copyFrom 9 = .ok (.aload_n 1, 1) := by decide +kernel
theorem dX0_copyFrom_10 : decode cX0_copyFrom 10 = .ok (.getfield 42, 3) := by decide +kernel
theorem dX0_copyFrom_13 : decode cX0_copyFrom 13 = .ok (.putfield 42, 3) := by decide +kernel
theorem dX0_copyFrom_16 : decode cX0_copyFrom 16 = .ok (.aload_n 0, 1) := by decide +kernel
theorem dX0_copyFrom_17 : decode cX0_copyFrom 17 = .ok (.aload_n 1, 1) := by decide +kernel
theorem dX0_copyFrom_18 : decode cX0_copyFrom 18 = .ok (.getfield 45, 3) := by decide +kernel
theorem dX0_copyFrom_21 : decode cX0_copyFrom 21 = .ok (.putfield 45, 3) := by decide +kernel
theorem dX0_copyFrom_24 : decode cX0_copyFrom 24 = .ok (.aload_n 0, 1) := by decide +kernel
theorem dX0_copyFrom_25 : decode cX0_copyFrom 25 = .ok (.aload_n 1, 1) := by decide +kernel
theorem dX0_copyFrom_26 : decode cX0_copyFrom 26 = .ok (.getfield 48, 3) := by decide +kernel
theorem dX0_copyFrom_29 : decode cX0_copyFrom 29 = .ok (.putfield 48, 3) := by decide +kernel
theorem dX0_copyFrom_32 : decode cX0_copyFrom 32 = .ok (.aload_n 0, 1) := by decide +kernel
theorem dX0_copyFrom_33 : decode cX0_copyFrom 33 = .ok (.aload_n 1, 1) := by decide +kernel
theorem dX0_copyFrom_34 : decode cX0_copyFrom 34 = .ok (.getfield 51, 3) := by decide +kernel
theorem dX0_copyFrom_37 : decode cX0_copyFrom 37 = .ok (.putfield 51, 3) := by decide +kernel
theorem dX0_copyFrom_40 : decode cX0_copyFrom 40 = .ok (.aload_n 0, 1) := by decide +kernel
theorem dX0_copyFrom_41 : decode cX0_copyFrom 41 = .ok (.aload_n 1, 1) := by decide +kernel
theorem dX0_copyFrom_42 : decode cX0_copyFrom 42 = .ok (.getfield 54, 3) := by decide +kernel
theorem dX0_copyFrom_45 : decode cX0_copyFrom 45 = .ok (.putfield 54, 3) := by decide +kernel
theorem dX0_copyFrom_48 : decode cX0_copyFrom 48 = .ok (.aload_n 1, 1) := by decide +kernel
theorem dX0_copyFrom_49 : decode cX0_copyFrom 49 = .ok (.getfield 23, 3) := by decide +kernel
theorem dX0_copyFrom_52 : decode cX0_copyFrom 52 = .ok (.iconst 0, 1) := by decide +kernel
theorem dX0_copyFrom_53 : decode cX0_copyFrom 53 = .ok (.aload_n 0, 1) := by decide +kernel
theorem dX0_copyFrom_54 : decode cX0_copyFrom 54 = .ok (.getfield 23, 3) := by decide +kernel
theorem dX0_copyFrom_57 : decode cX0_copyFrom 57 = .ok (.iconst 0, 1) := by decide +kernel
theorem dX0_copyFrom_58 : decode cX0_copyFrom 58 = .ok (.iconst 5, 1) := by decide +kernel
theorem dX0_copyFrom_59 : decode cX0_copyFrom 59 = .ok (.invokestatic 32, 3) := by decide +kernel
theorem dX0_copyFrom_62 : decode cX0_copyFrom 62 = .ok (.iconst 0, 1) := by decide +kernel
theorem dX0_copyFrom_63 : decode cX0_copyFrom 63 = .ok (.istore_n 2, 1) := by decide +kernel
theorem dX0_copyFrom_64 : decode cX0_copyFrom 64 = .ok (.iload_n 2, 1) := by decide +kernel
theorem dX0_copyFrom_65 : decode cX0_copyFrom 65 = .ok (.aload_n 0, 1) := by decide +kernel
theorem dX0_copyFrom_66 : decode cX0_copyFrom 66 = .ok (.getfield 38, 3) := by decide +kernel
theorem dX0_copyFrom_69 : decode cX0_copyFrom 69 = .ok (.if_icmp .ge 24, 3) := by decide +kernel
theorem dX0_copyFrom_72 : decode cX0_copyFrom 72 = .ok (.aload_n 0, 1) := by decide +kernel
theorem dX0_copyFrom_73 : decode cX0_copyFrom 73 = .ok (.getfield 11, 3) := by decide +kernel
theorem dX0_copyFrom_76 : decode cX0_copyFrom 76 = .ok (.iload_n 2, 1) := by decide +kernel
theorem dX0_copyFrom_77 : decode cX0_copyFrom 77 = .ok (.aaload, 1) := by decide +kernel
theorem dX0_copyFrom_78 : decode cX0_copyFrom 78 = .ok (.aload_n 1, 1) := by decide +kernel
theorem dX0_copyFrom_79 : decode cX0_copyFrom 79 = .ok (.getfield 11, 3) := by decide +kernel
theorem dX0_copyFrom_82 : decode cX0_copyFrom 82 = .ok (.iload_n 2, 1) := by decide +kernel
theorem dX0_copyFrom_83 : decode cX0_copyFrom 83 = .ok (.aaload, 1) := by decide +kernel
theorem dX0_copyFrom_84 : decode cX0_copyFrom 84 = .ok (.invokevirtual 57, 3) := by decide +kernel
theorem dX0_copyFrom_87 : decode cX0_copyFrom 87 = .ok (.iinc 2 1, 3) := by decide +kernel
theorem dX0_copyFrom_90 : decode cX0_copyFrom 90 = .ok (.goto (-26), 3) := by decide +kernel
theorem dX0_copyFrom_93 : decode cX0_copyFrom 93 = .ok (.iconst 0, 1) := by decide +kernel
theorem dX0_copyFrom_94 : decode cX0_copyFrom 94 = .ok (.istore_n 2, 1) := by decide +kernel
theorem dX0_copyFrom_95 : decode cX0_copyFrom 95 = .ok (.iload_n 2, 1) := by decide +kernel
theorem dX0_copyFrom_96 : decode cX0_copyFrom 96 = .ok (.aload_n 0, 1) := by decide +kernel
theorem dX0_copyFrom_97 : decode cX0_copyFrom 97 = .ok (.getfield 42, 3) := by decide +kernel
theorem dX0_copyFrom_100 : decode cX0_copyFrom 100 = .ok (.if_icmp .ge 24, 3) := by decide +kernel
theorem dX0_copyFrom_103 : decode cX0_copyFrom 103 = .ok (.aload_n 0, 1) := by decide +kernel
theorem dX0_copyFrom_104 : decode cX0_copyFrom 104 = .ok (.getfield 19, 3) := by decide +kernel
theorem dX0_copyFrom_107 : decode cX0_copyFrom 107 = .ok (.iload_n 2, 1) := by decide +kernel
theorem dX0_copyFrom_108 : decode cX0_copyFrom 108 = .ok (.aaload, 1) := by decide +kernel
theorem dX0_copyFrom_109 : decode cX0_copyFrom 109 = .ok (.aload_n 1, 1) := by decide +kernel
theorem dX0_copyFrom_110 : decode cX0_copyFrom 110 = .ok (.getfield 19, 3) := by decide +kernel
theorem dX0_copyFrom_113 : decode cX0_copyFrom 113 = .ok (.iload_n 2, 1) := by decide +kernel
theorem dX0_copyFrom_114 : decode cX0_copyFrom 114 = .ok (.aaload, 1) := by decide +kernel
theorem dX0_copyFrom_115 : decode cX0_copyFrom 115 = .ok (.invokevirtual 61, 3) := by decide +kernel
theorem dX0_copyFrom_118 : decode cX0_copyFrom 118 = .ok (.iinc 2 1, 3) := by decide +kernel
theorem dX0_copyFrom_121 : decode cX0_copyFrom 121 = .ok (.goto (-26), 3) := by decide +kernel
theorem dX0_copyFrom_124 : decode cX0_copyFrom 124 = .ok (.return_, 1) := by decide +kernel
theorem dX0_addMember_0 : decode cX0_addMember 0 = .ok (.aload_n 0, 1) := by decide +kernel
theorem dX0_addMember_1 : decode cX0_addMember 1 = .ok (.getfield 38, 3) := by decide +kernel
theorem dX0_addMember_4 : decode cX0_addMember 4 = .ok (.bipush 8, 2) := by decide +kernel
theorem dX0_addMember_6 : decode cX0_addMember 6 = .ok (.if_icmp .ge 26, 3) := by decide +kernel
theorem dX0_addMember_9 : decode cX0_addMember 9 = .ok (.aload_n 0, 1) := by decide +kernel
theorem dX0_addMember_10 : decode cX0_addMember 10 = .ok (.getfield 11, 3) := by decide +kernel
theorem dX0_addMember_13 : decode cX0_addMember 13 = .ok (.aload_n 0, 1) := by decide +kernel
theorem dX0_addMember_14 : decode cX0_addMember 14 = .ok (.getfield 38, 3) := by decide +kernel
theorem dX0_addMember_17 : decode cX0_addMember 17 = .ok (.aaload, 1) := by decide +kernel
theorem dX0_addMember_18 : decode cX0_addMember 18 = .ok (.iload_n 1, 1) := by decide +kernel
theorem dX0_addMember_19 : decode cX0_addMember 19 = .ok (.invokevirtual 64, 3) := by decide +kernel
theorem dX0_addMember_22 : decode cX0_addMember 22 = .ok (.aload_n 0, 1) := by decide +kernel
theorem dX0_addMember_23 : decode cX0_addMember 23 = .ok (.dup, 1) := by decide +kernel
theorem dX0_addMember_24 : decode cX0_addMember 24 = .ok (.getfield 38, 3) := by decide +kernel
theorem dX0_addMember_27 : decode cX0_addMember 27 = .ok (.iconst 1, 1) := by decide +kernel
theorem dX0_addMember_28 : decode cX0_addMember 28 = .ok (.iadd, 1) := by decide +kernel
theorem dX0_addMember_29 : decode cX0_addMember 29 = .ok (.putfield 38, 3) := by decide +kernel
theorem dX0_addMember_32 : decode cX0_addMember 32 = .ok (.return_, 1) := by decide +kernel
theorem dX0_addDepartment_0 : decode cX0_addDepartment 0 = .ok (.aload_n 0, 1) := by decide +kernel
theorem dX0_addDepartment_1 : decode cX0_addDepartment 1 = .ok (.getfield 42, 3) := by decide +kernel
theorem dX0_addDepartment_4 : decode cX0_addDepartment 4 = .ok (.iconst 4, 1) := by decide +kernel
theorem dX0_addDepartment_5 : decode cX0_addDepartment 5 = .ok (.if_icmp .ge 26, 3) := by decide +kernel
theorem dX0_addDepartment_8 : decode cX0_addDepartment 8 = .ok (.aload_n 0, 1) := by decide +kernel
theorem dX0_addDepartment_9 : decode cX0_addDepartment 9 = .ok (.getfield 19, 3) := by decide +kernel
theorem dX0_addDepartment_12 : decode cX0_addDepartment 12 = .ok (.aload_n 0, 1) := by decide +kernel
theorem dX0_addDepartment_13 : decode cX0_addDepartment 13 = .ok (.getfield 42, 3) := by decide +kernel
theorem dX0_addDepartment_16 : decode cX0_addDepartment 16 = .ok (.aaload, 1) := by decide +kernel
theorem dX0_addDepartment_17 : decode cX0_addDepartment 17 = .ok (.iload_n 1, 1) := by decide +kernel
theorem dX0_addDepartment_18 : decode cX0_addDepartment 18 = .ok (.invokevirtual 68, 3) := by decide +kernel
theorem dX0_addDepartment_21 : decode cX0_addDepartment 21 = .ok (.aload_n 0, 1) := by decide +kernel
theorem dX0_addDepartment_22 : decode cX0_addDepartment 22 = .ok (.dup, 1) := by decide +kernel
theorem dX0_addDepartment_23 : decode cX0_addDepartment 23 = .ok (.getfield 42, 3) := by decide +kernel
theorem dX0_addDepartment_26 : decode cX0_addDepartment 26 = .ok (.iconst 1, 1) := by decide +kernel
theorem dX0_addDepartment_27 : decode cX0_addDepartment 27 = .ok (.iadd, 1) := by decide +kernel
theorem dX0_addDepartment_28 : decode cX0_addDepartment 28 = .ok (.putfield 42, 3) := by decide +kernel
theorem dX0_addDepartment_31 : decode cX0_addDepartment 31 = .ok (.return_, 1) := by decide +kernel
theorem dX0_findMember_0 : decode cX0_findMember 0 = .ok (.iconst 0, 1) := by decide +kernel
theorem dX0_findMember_1 : decode cX0_findMember 1 = .ok (.istore_n 2, 1) := by decide +kernel
theorem dX0_findMember_2 : decode cX0_findMember 2 = .ok (.iload_n 2, 1) := by decide +kernel
theorem dX0_findMember_3 : decode cX0_findMember 3 = .ok (.aload_n 0, 1) := by decide +kernel
theorem dX0_findMember_4 : decode cX0_findMember 4 = .ok (.getfield 38, 3) := by decide +kernel
theorem dX0_findMember_7 : decode cX0_findMember 7 = .ok (.if_icmp .ge 24, 3) := by decide +kernel
theorem dX0_findMember_10 : decode cX0_findMember 10 = .ok (.aload_n 0, 1) := by decide +kernel
theorem dX0_findMember_11 : decode cX0_findMember 11 = .ok (.getfield 11, 3) := by decide +kernel
theorem dX0_findMember_14 : decode cX0_findMember 14 = .ok (.iload_n 2, 1) := by decide +kernel
theorem dX0_findMember_15 : decode cX0_findMember 15 = .ok (.aaload, 1) := by decide +kernel
theorem dX0_findMember_16 : decode cX0_findMember 16 = .ok (.getfield 69, 3) := by decide +kernel
theorem dX0_findMember_19 : decode cX0_findMember 19 = .ok (.iload_n 1, 1) := by decide +kernel
theorem dX0_findMember_20 : decode cX0_findMember 20 = .ok (.if_icmp .ne 5, 3) := by decide +kernel
theorem dX0_findMember_23 : decode cX0_findMember 23 = .ok (.iload_n 2, 1) := by decide +kernel
theorem dX0_findMember_24 : decode cX0_findMember 24 = .ok (.ireturn, 1) := by decide +kernel
theorem dX0_findMember_25 : decode cX0_findMember 25 = .ok (.iinc 2 1, 3) := by decide +kernel
theorem dX0_findMember_28 : decode cX0_findMember 28 = .ok (.goto (-26), 3) := by decide +kernel
theorem dX0_findMember_31 : decode cX0_findMember 31 = .ok (.iconst (-1), 1) := by decide +kernel
theorem dX0_findMember_32 : decode cX0_findMember 32 = .ok (.ireturn, 1) := by decide +kernel
theorem dX0_findDepartment_0 : decode cX0_findDepartment 0 = .ok (.iconst 0, 1) := by decide +kernel
theorem dX0_findDepartment_1 : decode cX0_findDepartment 1 = .ok (.istore_n 2, 1) := by decide +kernel
theorem dX0_findDepartment_2 : decode cX0_findDepartment 2 = .ok (.iload_n 2, 1) := by decide +kernel
theorem dX0_findDepartment_3 : decode cX0_findDepartment 3 = .ok (.aload_n 0, 1) := by decide +kernel
theorem dX0_findDepartment_4 : decode cX0_findDepartment 4 = .ok (.getfield 42, 3) := by decide +kernel
theorem dX0_findDepartment_7 : decode cX0_findDepartment 7 = .ok (.if_icmp .ge 24, 3) := by decide +kernel
theorem dX0_findDepartment_10 : decode cX0_findDepartment 10 = .ok (.aload_n 0, 1) := by decide +kernel
theorem dX0_findDepartment_11 : decode cX0_findDepartment 11 = .ok (.getfield 19, 3) := by decide +kernel
theorem dX0_findDepartment_14 : decode cX0_findDepartment 14 = .ok (.iload_n 2, 1) := by decide +kernel
theorem dX0_findDepartment_15 : decode cX0_findDepartment 15 = .ok (.aaload, 1) := by decide +kernel
theorem dX0_findDepartment_16 : decode cX0_findDepartment 16 = .ok (.getfield 72, 3) := by decide +kernel
theorem dX0_findDepartment_19 : decode cX0_findDepartment 19 = .ok (.iload_n 1, 1) := by decide +kernel
theorem dX0_findDepartment_20 : decode cX0_findDepartment 20 = .ok (.if_icmp .ne 5, 3) := by decide +kernel
theorem dX0_findDepartment_23 : decode cX0_findDepartment 23 = .ok (.iload_n 2, 1) := by decide +kernel
theorem dX0_findDepartment_24 : decode cX0_findDepartment 24 = .ok (.ireturn, 1) := by decide +kernel
theorem dX0_findDepartment_25 : decode cX0_findDepartment 25 = .ok (.iinc 2 1, 3) := by decide +kernel
theorem dX0_findDepartment_28 : decode cX0_findDepartment 28 = .ok (.goto (-26), 3) := by decide +kernel
theorem dX0_findDepartment_31 : decode cX0_findDepartment 31 = .ok (.iconst (-1), 1) := by decide +kernel
theorem dX0_findDepartment_32 : decode cX0_findDepartment 32 = .ok (.ireturn, 1) := by decide +kernel
theorem dX0_patronageIn_0 : decode cX0_patronageIn 0 = .ok (.iconst 0, 1) := by decide +kernel
theorem dX0_patronageIn_1 : decode cX0_patronageIn 1 = .ok (.istore_n 2, 1) := by decide +kernel
theorem dX0_patronageIn_2 : decode cX0_patronageIn 2 = .ok (.iconst 0, 1) := by decide +kernel
theorem dX0_patronageIn_3 : decode cX0_patronageIn 3 = .ok (.istore_n 3, 1) := by decide +kernel
theorem dX0_patronageIn_4 : decode cX0_patronageIn 4 = .ok (.iload_n 3, 1) := by decide +kernel
theorem dX0_patronageIn_5 : decode cX0_patronageIn 5 = .ok (.aload_n 0, 1) := by decide +kernel
theorem dX0_patronageIn_6 : decode cX0_patronageIn 6 = .ok (.getfield 38, 3) := by decide +kernel
theorem dX0_patronageIn_9 : decode cX0_patronageIn 9 = .ok (.if_icmp .ge 23, 3) := by decide +kernel
theorem dX0_patronageIn_12 : decode cX0_patronageIn 12 = .ok (.iload_n 2, 1) := by decide +kernel
theorem dX0_patronageIn_13 : decode cX0_patronageIn 13 = .ok (.aload_n 0, 1) := by decide +kernel
theorem dX0_patronageIn_14 : decode cX0_patronageIn 14 = .ok (.getfield 11, 3) := by decide +kernel
theorem dX0_patronageIn_17 : decode cX0_patronageIn 17 = .ok (.iload_n 3, 1) := by decide +kernel
theorem dX0_patronageIn_18 : decode cX0_patronageIn 18 = .ok (.aaload, 1) := by decide +kernel
theorem dX0_patronageIn_19 : decode cX0_patronageIn 19 = .ok (.getfield 73, 3) := by decide +kernel
theorem dX0_patronageIn_22 : decode cX0_patronageIn 22 = .ok (.iload_n 1, 1) := by decide +kernel
theorem dX0_patronageIn_23 : decode cX0_patronageIn 23 = .ok (.iaload, 1) := by decide +kernel
theorem dX0_patronageIn_24 : decode cX0_patronageIn 24 = .ok (.iadd, 1) := by decide +kernel
theorem dX0_patronageIn_25 : decode cX0_patronageIn 25 = .ok (.istore_n 2, 1) := by decide +kernel
theorem dX0_patronageIn_26 : decode cX0_patronageIn 26 = .ok (.iinc 3 1, 3) := by decide +kernel
theorem dX0_patronageIn_29 : decode cX0_patronageIn 29 = .ok (.goto (-25), 3) := by decide +kernel
theorem dX0_patronageIn_32 : decode cX0_patronageIn 32 = .ok (.iload_n 2, 1) := by decide +kernel
theorem dX0_patronageIn_33 : decode cX0_patronageIn 33 = .ok (.ireturn, 1) := by decide +kernel
theorem dX0_equityOfAll_0 : decode cX0_equityOfAll 0 = .ok (.iconst 0, 1) := by decide +kernel
theorem dX0_equityOfAll_1 : decode cX0_equityOfAll 1 = .ok (.istore_n 1, 1) := by decide +kernel
theorem dX0_equityOfAll_2 : decode cX0_equityOfAll 2 = .ok (.iconst 0, 1) := by decide +kernel
theorem dX0_equityOfAll_3 : decode cX0_equityOfAll 3 = .ok (.istore_n 2, 1) := by decide +kernel
theorem dX0_equityOfAll_4 : decode cX0_equityOfAll 4 = .ok (.iload_n 2, 1) := by decide +kernel
theorem dX0_equityOfAll_5 : decode cX0_equityOfAll 5 = .ok (.aload_n 0, 1) := by decide +kernel
theorem dX0_equityOfAll_6 : decode cX0_equityOfAll 6 = .ok (.getfield 38, 3) := by decide +kernel
theorem dX0_equityOfAll_9 : decode cX0_equityOfAll 9 = .ok (.if_icmp .ge 21, 3) := by decide +kernel
theorem dX0_equityOfAll_12 : decode cX0_equityOfAll 12 = .ok (.iload_n 1, 1) := by decide +kernel
theorem dX0_equityOfAll_13 : decode cX0_equityOfAll 13 = .ok (.aload_n 0, 1) := by decide +kernel
theorem dX0_equityOfAll_14 : decode cX0_equityOfAll 14 = .ok (.getfield 11, 3) := by decide +kernel
theorem dX0_equityOfAll_17 : decode cX0_equityOfAll 17 = .ok (.iload_n 2, 1) := by decide +kernel
theorem dX0_equityOfAll_18 : decode cX0_equityOfAll 18 = .ok (.aaload, 1) := by decide +kernel
theorem dX0_equityOfAll_19 : decode cX0_equityOfAll 19 = .ok (.invokevirtual 76, 3) := by decide +kernel
theorem dX0_equityOfAll_22 : decode cX0_equityOfAll 22 = .ok (.iadd, 1) := by decide +kernel
theorem dX0_equityOfAll_23 : decode cX0_equityOfAll 23 = .ok (.istore_n 1, 1) := by decide +kernel
theorem dX0_equityOfAll_24 : decode cX0_equityOfAll 24 = .ok (.iinc 2 1, 3) := by decide +kernel
theorem dX0_equityOfAll_27 : decode cX0_equityOfAll 27 = .ok (.goto (-23), 3) := by decide +kernel
theorem dX0_equityOfAll_30 : decode cX0_equityOfAll 30 = .ok (.iload_n 1, 1) := by decide +kernel
theorem dX0_equityOfAll_31 : decode cX0_equityOfAll 31 = .ok (.ireturn, 1) := by decide +kernel
theorem dX0_equityOfActive_0 : decode cX0_equityOfActive 0 = .ok (.iconst 0, 1) := by decide +kernel
theorem dX0_equityOfActive_1 : decode cX0_equityOfActive 1 = .ok (.istore_n 1, 1) := by decide +kernel
theorem dX0_equityOfActive_2 : decode cX0_equityOfActive 2 = .ok (.iconst 0, 1) := by decide +kernel
theorem dX0_equityOfActive_3 : decode cX0_equityOfActive 3 = .ok (.istore_n 2, 1) := by decide +kernel
theorem dX0_equityOfActive_4 : decode cX0_equityOfActive 4 = .ok (.iload_n 2, 1) := by decide +kernel
theorem dX0_equityOfActive_5 : decode cX0_equityOfActive 5 = .ok (.aload_n 0, 1) := by decide +kernel
theorem dX0_equityOfActive_6 : decode cX0_equityOfActive 6 = .ok (.getfield 38, 3) := by decide +kernel
theorem dX0_equityOfActive_9 : decode cX0_equityOfActive 9 = .ok (.if_icmp .ge 33, 3) := by decide +kernel
theorem dX0_equityOfActive_12 : decode cX0_equityOfActive 12 = .ok (.aload_n 0, 1) := by decide +kernel
theorem dX0_equityOfActive_13 : decode cX0_equityOfActive 13 = .ok (.getfield 11, 3) := by decide +kernel
theorem dX0_equityOfActive_16 : decode cX0_equityOfActive 16 = .ok (.iload_n 2, 1) := by decide +kernel
theorem dX0_equityOfActive_17 : decode cX0_equityOfActive 17 = .ok (.aaload, 1) := by decide +kernel
theorem dX0_equityOfActive_18 : decode cX0_equityOfActive 18 = .ok (.getfield 80, 3) := by decide +kernel
theorem dX0_equityOfActive_21 : decode cX0_equityOfActive 21 = .ok (.ifCond .ne 15, 3) := by decide +kernel
theorem dX0_equityOfActive_24 : decode cX0_equityOfActive 24 = .ok (.iload_n 1, 1) := by decide +kernel
theorem dX0_equityOfActive_25 : decode cX0_equityOfActive 25 = .ok (.aload_n 0, 1) := by decide +kernel
theorem dX0_equityOfActive_26 : decode cX0_equityOfActive 26 = .ok (.getfield 11, 3) := by decide +kernel
theorem dX0_equityOfActive_29 : decode cX0_equityOfActive 29 = .ok (.iload_n 2, 1) := by decide +kernel
theorem dX0_equityOfActive_30 : decode cX0_equityOfActive 30 = .ok (.aaload, 1) := by decide +kernel
theorem dX0_equityOfActive_31 : decode cX0_equityOfActive 31 = .ok (.invokevirtual 76, 3) := by decide +kernel
theorem dX0_equityOfActive_34 : decode cX0_equityOfActive 34 = .ok (.iadd, 1) := by decide +kernel
theorem dX0_equityOfActive_35 : decode cX0_equityOfActive 35 = .ok (.istore_n 1, 1) := by decide +kernel
theorem dX0_equityOfActive_36 : decode cX0_equityOfActive 36 = .ok (.iinc 2 1, 3) := by decide +kernel
theorem dX0_equityOfActive_39 : decode cX0_equityOfActive 39 = .ok (.goto (-35), 3) := by decide +kernel
theorem dX0_equityOfActive_42 : decode cX0_equityOfActive 42 = .ok (.iload_n 1, 1) := by decide +kernel
theorem dX0_equityOfActive_43 : decode cX0_equityOfActive 43 = .ok (.ireturn, 1) := by decide +kernel
theorem dX0_paidInAll_0 : decode cX0_paidInAll 0 = .ok (.iconst 0, 1) := by decide +kernel
theorem dX0_paidInAll_1 : decode cX0_paidInAll 1 = .ok (.istore_n 2, 1) := by decide +kernel
theorem dX0_paidInAll_2 : decode cX0_paidInAll 2 = .ok (.iconst 0, 1) := by decide +kernel
theorem dX0_paidInAll_3 : decode cX0_paidInAll 3 = .ok (.istore_n 3, 1) := by decide +kernel
theorem dX0_paidInAll_4 : decode cX0_paidInAll 4 = .ok (.iload_n 3, 1) := by decide +kernel
theorem dX0_paidInAll_5 : decode cX0_paidInAll 5 = .ok (.aload_n 0, 1) := by decide +kernel
theorem dX0_paidInAll_6 : decode cX0_paidInAll 6 = .ok (.getfield 38, 3) := by decide +kernel
theorem dX0_paidInAll_9 : decode cX0_paidInAll 9 = .ok (.if_icmp .ge 23, 3) := by decide +kernel
theorem dX0_paidInAll_12 : decode cX0_paidInAll 12 = .ok (.iload_n 2, 1) := by decide +kernel
theorem dX0_paidInAll_13 : decode cX0_paidInAll 13 = .ok (.aload_n 0, 1) := by decide +kernel
theorem dX0_paidInAll_14 : decode cX0_paidInAll 14 = .ok (.getfield 11, 3) := by decide +kernel
theorem dX0_paidInAll_17 : decode cX0_paidInAll 17 = .ok (.iload_n 3, 1) := by decide +kernel
theorem dX0_paidInAll_18 : decode cX0_paidInAll 18 = .ok (.aaload, 1) := by decide +kernel
theorem dX0_paidInAll_19 : decode cX0_paidInAll 19 = .ok (.getfield 83, 3) := by decide +kernel
theorem dX0_paidInAll_22 : decode cX0_paidInAll 22 = .ok (.iload_n 1, 1) := by decide +kernel
theorem dX0_paidInAll_23 : decode cX0_paidInAll 23 = .ok (.iaload, 1) := by decide +kernel
theorem dX0_paidInAll_24 : decode cX0_paidInAll 24 = .ok (.iadd, 1) := by decide +kernel
theorem dX0_paidInAll_25 : decode cX0_paidInAll 25 = .ok (.istore_n 2, 1) := by decide +kernel
theorem dX0_paidInAll_26 : decode cX0_paidInAll 26 = .ok (.iinc 3 1, 3) := by decide +kernel
theorem dX0_paidInAll_29 : decode cX0_paidInAll 29 = .ok (.goto (-25), 3) := by decide +kernel
theorem dX0_paidInAll_32 : decode cX0_paidInAll 32 = .ok (.iload_n 2, 1) := by decide +kernel
theorem dX0_paidInAll_33 : decode cX0_paidInAll 33 = .ok (.ireturn, 1) := by decide +kernel
theorem dX0_canRedeem_0 : decode cX0_canRedeem 0 = .ok (.aload_n 1, 1) := by decide +kernel
theorem dX0_canRedeem_1 : decode cX0_canRedeem 1 = .ok (.getfield 80, 3) := by decide +kernel
theorem dX0_canRedeem_4 : decode cX0_canRedeem 4 = .ok (.ifCond .ne 31, 3) := by decide +kernel
theorem dX0_canRedeem_7 : decode cX0_canRedeem 7 = .ok (.aload_n 1, 1) := by decide +kernel
theorem dX0_canRedeem_8 : decode cX0_canRedeem 8 = .ok (.getfield 86, 3) := by decide +kernel
theorem dX0_canRedeem_11 : decode cX0_canRedeem 11 = .ok (.iload_n 2, 1) := by decide +kernel
theorem dX0_canRedeem_12 : decode cX0_canRedeem 12 = .ok (.iaload, 1) := by decide +kernel
theorem dX0_canRedeem_13 : decode cX0_canRedeem 13 = .ok (.ifCond .le 22, 3) := by decide +kernel
theorem dX0_canRedeem_16 : decode cX0_canRedeem 16 = .ok (.aload_n 0, 1) := by decide +kernel
theorem dX0_canRedeem_17 : decode cX0_canRedeem 17 = .ok (.getfield 45, 3) := by decide +kernel
theorem dX0_canRedeem_20 : decode cX0_canRedeem 20 = .ok (.iload_n 2, 1) := by decide +kernel
theorem dX0_canRedeem_21 : decode cX0_canRedeem 21 = .ok (.isub, 1) := by decide +kernel
theorem dX0_canRedeem_22 : decode cX0_canRedeem 22 = .ok (.aload_n 0, 1) := by decide +kernel
theorem dX0_canRedeem_23 : decode cX0_canRedeem 23 = .ok (.getfield 23, 3) := by decide +kernel
theorem dX0_canRedeem_26 : decode cX0_canRedeem 26 = .ok (.iconst 3, 1) := by decide +kernel
theorem dX0_canRedeem_27 : decode cX0_canRedeem 27 = .ok (.iaload, 1) := by decide +kernel
theorem dX0_canRedeem_28 : decode cX0_canRedeem 28 = .ok (.if_icmp .lt 7, 3) := by decide +kernel
theorem dX0_canRedeem_31 : decode cX0_canRedeem 31 = .ok (.iconst 1, 1) := by decide +kernel
theorem dX0_canRedeem_32 : decode cX0_canRedeem 32 = .ok (.goto 4, 3) := by decide +kernel
theorem dX0_canRedeem_35 : decode cX0_canRedeem 35 = .ok (.iconst 0, 1) := by decide +kernel
theorem dX0_canRedeem_36 : decode cX0_canRedeem 36 = .ok (.ireturn, 1) := by decide +kernel
theorem dX0_redeemableThrough_0 : decode cX0_redeemableThrough 0 = .ok (.iconst 0, 1) := by decide +kernel
theorem dX0_redeemableThrough_1 : decode cX0_redeemableThrough 1 = .ok (.istore_n 2, 1) := by decide +kernel
theorem dX0_redeemableThrough_2 : decode cX0_redeemableThrough 2 = .ok (.iconst 0, 1) := by decide +kernel
theorem dX0_redeemableThrough_3 : decode cX0_redeemableThrough 3 = .ok (.istore_n 3, 1) := by decide +kernel
theorem dX0_redeemableThrough_4 : decode cX0_redeemableThrough 4 = .ok (.iload_n 3, 1) := by decide +kernel
theorem dX0_redeemableThrough_5 : decode cX0_redeemableThrough 5 = .ok (.bipush 25, 2) := by decide +kernel
theorem dX0_redeemableThrough_7 : decode cX0_redeemableThrough 7 = .ok (.if_icmp .ge 62, 3) := by decide +kernel
theorem dX0_redeemableThrough_10 : decode cX0_redeemableThrough 10 = .ok (.iload_n 3, 1) := by decide +kernel
theorem dX0_redeemableThrough_11 : decode cX0_redeemableThrough 11 = .ok (.iload_n 1, 1) := by decide +kernel
theorem dX0_redeemableThrough_12 : decode cX0_redeemableThrough 12 = .ok (.if_icmp .gt 57, 3) := by decide +kernel
theorem dX0_redeemableThrough_15 : decode cX0_redeemableThrough 15 = .ok (.iconst 0, 1) := by decide +kernel
theorem dX0_redeemableThrough_16 : decode cX0_redeemableThrough 16 = .ok (.istore 4, 2) := by decide +kernel
theorem dX0_redeemableThrough_18 : decode cX0_redeemableThrough 18 = .ok (.iload 4, 2) := by decide +kernel
theorem dX0_redeemableThrough_20 : decode cX0_redeemableThrough 20 = .ok (.aload_n 0, 1) := by decide +kernel
theorem dX0_redeemableThrough_21 : decode cX0_redeemableThrough 21 = .ok (.getfield 38, 3) := by decide +kernel
theorem dX0_redeemableThrough_24 : decode cX0_redeemableThrough 24 = .ok (.if_icmp .ge 39, 3) := by decide +kernel
theorem dX0_redeemableThrough_27 : decode cX0_redeemableThrough 27 = .ok (.aload_n 0, 1) := by decide +kernel
theorem dX0_redeemableThrough_28 : decode cX0_redeemableThrough 28 = .ok (.aload_n 0, 1) := by decide +kernel
theorem dX0_redeemableThrough_29 : decode cX0_redeemableThrough 29 = .ok (.getfield 11, 3) := by decide +kernel
theorem dX0_redeemableThrough_32 : decode cX0_redeemableThrough 32 = .ok (.iload 4, 2) := by decide +kernel
theorem dX0_redeemableThrough_34 : decode cX0_redeemableThrough 34 = .ok (.aaload, 1) := by decide +kernel
theorem dX0_redeemableThrough_35 : decode cX0_redeemableThrough 35 = .ok (.iload_n 3, 1) := by decide +kernel
theorem dX0_redeemableThrough_36 : decode cX0_redeemableThrough 36 = .ok (.invokevirtual 89, 3) := by decide +kernel
theorem dX0_redeemableThrough_39 : decode cX0_redeemableThrough 39 = .ok (.ifCond .eq 18, 3) := by decide +kernel
theorem dX0_redeemableThrough_42 : decode cX0_redeemableThrough 42 = .ok (.iload_n 2, 1) := by decide +kernel
theorem dX0_redeemableThrough_43 : decode cX0_redeemableThrough 43 = .ok (.aload_n 0, 1) := by decide +kernel
theorem dX0_redeemableThrough_44 : decode cX0_redeemableThrough 44 = .ok (.getfield 11, 3) := by decide +kernel
theorem dX0_redeemableThrough_47 : decode cX0_redeemableThrough 47 = .ok (.iload 4, 2) := by decide +kernel
theorem dX0_redeemableThrough_49 : decode cX0_redeemableThrough 49 = .ok (.aaload, 1) := by decide +kernel
theorem dX0_redeemableThrough_50 : decode cX0_redeemableThrough 50 = .ok (.getfield 86, 3) := by decide +kernel
theorem dX0_redeemableThrough_53 : decode cX0_redeemableThrough 53 = .ok (.iload_n 3, 1) := by decide +kernel
theorem dX0_redeemableThrough_54 : decode cX0_redeemableThrough 54 = .ok (.iaload, 1) := by decide +kernel
theorem dX0_redeemableThrough_55 : decode cX0_redeemableThrough 55 = .ok (.iadd, 1) := by decide +kernel
theorem dX0_redeemableThrough_56 : decode cX0_redeemableThrough 56 = .ok (.istore_n 2, 1) := by decide +kernel
theorem dX0_redeemableThrough_57 : decode cX0_redeemableThrough 57 = .ok (.iinc 4 1, 3) := by decide +kernel
theorem dX0_redeemableThrough_60 : decode cX0_redeemableThrough 60 = .ok (.goto (-42), 3) := by decide +kernel
theorem dX0_redeemableThrough_63 : decode cX0_redeemableThrough 63 = .ok (.iinc 3 1, 3) := by decide +kernel
theorem dX0_redeemableThrough_66 : decode cX0_redeemableThrough 66 = .ok (.goto (-62), 3) := by decide +kernel
theorem dX0_redeemableThrough_69 : decode cX0_redeemableThrough 69 = .ok (.iload_n 2, 1) := by decide +kernel
theorem dX0_redeemableThrough_70 : decode cX0_redeemableThrough 70 = .ok (.ireturn, 1) := by decide +kernel
