theorem dX4_init_0 : decode cX4_init 0 = .ok (.aload_n 0, 1) := by decide +kernel
theorem dX4_init_1 : decode cX4_init 1 = .ok (.invokespecial 3, 3) := by decide +kernel
theorem dX4_init_4 : decode cX4_init 4 = .ok (.aload_n 0, 1) := by decide +kernel
theorem dX4_init_5 : decode cX4_init 5 = .ok (.iconst 4, 1) := by decide +kernel
theorem dX4_init_6 : decode cX4_init 6 = .ok (.newarray .int, 2) := by decide +kernel
theorem dX4_init_8 : decode cX4_init 8 = .ok (.putfield 9, 3) := by decide +kernel
theorem dX4_init_11 : decode cX4_init 11 = .ok (.aload_n 0, 1) := by decide +kernel
theorem dX4_init_12 : decode cX4_init 12 = .ok (.iconst 5, 1) := by decide +kernel
theorem dX4_init_13 : decode cX4_init 13 = .ok (.newarray .boolean, 2) := by decide +kernel
theorem dX4_init_15 : decode cX4_init 15 = .ok (.putfield 15, 3) := by decide +kernel
theorem dX4_init_18 : decode cX4_init 18 = .ok (.aload_n 0, 1) := by decide +kernel
theorem dX4_init_19 : decode cX4_init 19 = .ok (.aload_n 1, 1) := by decide +kernel
theorem dX4_init_20 : decode cX4_init 20 = .ok (.putfield 19, 3) := by decide +kernel
theorem dX4_init_23 : decode cX4_init 23 = .ok (.aload_n 0, 1) := by decide +kernel
theorem dX4_init_24 : decode cX4_init 24 = .ok (.aload_n 2, 1) := by decide +kernel
theorem dX4_init_25 : decode cX4_init 25 = .ok (.putfield 23, 3) := by decide +kernel
theorem dX4_init_28 : decode cX4_init 28 = .ok (.aload_n 0, 1) := by decide +kernel
theorem dX4_init_29 : decode cX4_init 29 = .ok (.aload_n 3, 1) := by decide +kernel
theorem dX4_init_30 : decode cX4_init 30 = .ok (.putfield 27, 3) := by decide +kernel
theorem dX4_init_33 : decode cX4_init 33 = .ok (.return_, 1) := by decide +kernel
theorem dX4_readText_0 : decode cX4_readText 0 = .ok (.aload_n 0, 1) := by decide +kernel
theorem dX4_readText_1 : decode cX4_readText 1 = .ok (.getfield 27, 3) := by decide +kernel
theorem dX4_readText_4 : decode cX4_readText 4 = .ok (.invokevirtual 31, 3) := by decide +kernel
theorem dX4_readText_7 : decode cX4_readText 7 = .ok (.iconst 0, 1) := by decide +kernel
theorem dX4_readText_8 : decode cX4_readText 8 = .ok (.istore_n 2, 1) := by decide +kernel
theorem dX4_readText_9 : decode cX4_readText 9 = .ok (.iload_n 2, 1) := by decide +kernel
theorem dX4_readText_10 : decode cX4_readText 10 = .ok (.iconst 5, 1) := by decide +kernel
theorem dX4_readText_11 : decode cX4_readText 11 = .ok (.if_icmp .ge 16, 3) := by decide +kernel
theorem dX4_readText_14 : decode cX4_readText 14 = .ok (.aload_n 0, 1) := by decide +kernel
theorem dX4_readText_15 : decode cX4_readText 15 = .ok (.getfield 15, 3) := by decide +kernel
theorem dX4_readText_18 : decode cX4_readText 18 = .ok (.iload_n 2, 1) := by decide +kernel
theorem dX4_readText_19 : decode cX4_readText 19 = .ok (.iconst 0, 1) := by decide +kernel
theorem dX4_readText_20 : decode cX4_readText 20 = .ok (.bastore, 1) := by decide +kernel
theorem dX4_readText_21 : decode cX4_readText 21 = .ok (.iinc 2 1, 3) := by decide +kernel
theorem dX4_readText_24 : decode cX4_readText 24 = .ok (.goto (-15), 3) := by decide +kernel
theorem dX4_readText_27 : decode cX4_readText 27 = .ok (.aload_n 0, 1) := by decide +kernel
theorem dX4_readText_28 : decode cX4_readText 28 = .ok (.getfield 19, 3) := by decide +kernel
theorem dX4_readText_31 : decode cX4_readText 31 = .ok (.iload_n 1, 1) := by decide +kernel
theorem dX4_readText_32 : decode cX4_readText 32 = .ok (.invokevirtual 36, 3) := by decide +kernel
theorem dX4_readText_35 : decode cX4_readText 35 = .ok (.iconst 0, 1) := by decide +kernel
theorem dX4_readText_36 : decode cX4_readText 36 = .ok (.istore_n 2, 1) := by decide +kernel
theorem dX4_readText_37 : decode cX4_readText 37 = .ok (.aload_n 0, 1) := by decide +kernel
theorem dX4_readText_38 : decode cX4_readText 38 = .ok (.getfield 19, 3) := by decide +kernel
theorem dX4_readText_41 : decode cX4_readText 41 = .ok (.getfield 42, 3) := by decide +kernel
theorem dX4_readText_44 : decode cX4_readText 44 = .ok (.ifCond .eq 48, 3) := by decide +kernel
theorem dX4_readText_47 : decode cX4_readText 47 = .ok (.iload_n 2, 1) := by decide +kernel
theorem dX4_readText_48 : decode cX4_readText 48 = .ok (.sipush 900, 3) := by decide +kernel
theorem dX4_readText_51 : decode cX4_readText 51 = .ok (.if_icmp .ge 41, 3) := by decide +kernel
theorem dX4_readText_54 : decode cX4_readText 54 = .ok (.aload_n 0, 1) := by decide +kernel
theorem dX4_readText_55 : decode cX4_readText 55 = .ok (.invokevirtual 46, 3) := by decide +kernel
theorem dX4_readText_58 : decode cX4_readText 58 = .ok (.istore_n 3, 1) := by decide +kernel
theorem dX4_readText_59 : decode cX4_readText 59 = .ok (.iload_n 3, 1) := by decide +kernel
theorem dX4_readText_60 : decode cX4_readText 60 = .ok (.ifCond .eq 5, 3) := by decide +kernel
theorem dX4_readText_63 : decode cX4_readText 63 = .ok (.iload_n 3, 1) := by decide +kernel
theorem dX4_readText_64 : decode cX4_readText 64 = .ok (.ireturn, 1) := by decide +kernel
theorem dX4_readText_65 : decode cX4_readText 65 = .ok (.aload_n 0, 1) := by decide +kernel
theorem dX4_readText_66 : decode cX4_readText 66 = .ok (.getfield 19, 3) := by decide +kernel
theorem dX4_readText_69 : decode cX4_readText 69 = .ok (.getfield 42, 3) := by decide +kernel
theorem dX4_readText_72 : decode cX4_readText 72 = .ok (.iconst 3, 1) := by decide +kernel
theorem dX4_readText_73 : decode cX4_readText 73 = .ok (.if_icmp .eq 6, 3) := by decide +kernel
theorem dX4_readText_76 : decode cX4_readText 76 = .ok (.bipush (-11), 2) := by decide +kernel
theorem dX4_readText_78 : decode cX4_readText 78 = .ok (.ireturn, 1) := by decide +kernel
theorem dX4_readText_79 : decode cX4_readText 79 = .ok (.aload_n 0, 1) := by decide +kernel
theorem dX4_readText_80 : decode cX4_readText 80 = .ok (.getfield 19, 3) := by decide +kernel
theorem dX4_readText_83 : decode cX4_readText 83 = .ok (.invokevirtual 50, 3) := by decide +kernel
theorem dX4_readText_86 : decode cX4_readText 86 = .ok (.iinc 2 1, 3) := by decide +kernel
theorem dX4_readText_89 : decode cX4_readText 89 = .ok (.goto (-52), 3) := by decide +kernel
theorem dX4_readText_92 : decode cX4_readText 92 = .ok (.iload_n 2, 1) := by decide +kernel
theorem dX4_readText_93 : decode cX4_readText 93 = .ok (.ireturn, 1) := by decide +kernel
theorem dX4_readStatement_0 : decode cX4_readStatement 0 = .ok (.aload_n 0, 1) := by decide +kernel
theorem dX4_readStatement_1 : decode cX4_readStatement 1 = .ok (.getfield 19, 3) := by decide +kernel
theorem dX4_readStatement_4 : decode cX4_readStatement 4 = .ok (.ldc 53, 2) := by decide +kernel
theorem dX4_readStatement_6 : decode cX4_readStatement 6 = .ok (.invokevirtual 55, 3) := by decide +kernel
theorem dX4_readStatement_9 : decode cX4_readStatement 9 = .ok (.ifCond .eq 8, 3) := by decide +kernel
theorem dX4_readStatement_12 : decode cX4_readStatement 12 = .ok (.aload_n 0, 1) := by decide +kernel
theorem dX4_readStatement_13 : decode cX4_readStatement 13 = .ok (.invokevirtual 59, 3) := by decide +kernel
theorem dX4_readStatement_16 : decode cX4_readStatement 16 = .ok (.ireturn, 1) := by decide +kernel
theorem dX4_readStatement_17 : decode cX4_readStatement 17 = .ok (.aload_n 0, 1) := by decide +kernel
theorem dX4_readStatement_18 : decode cX4_readStatement 18 = .ok (.getfield 19, 3) := by decide +kernel
theorem dX4_readStatement_21 : decode cX4_readStatement 21 = .ok (.ldc 62, 2) := by decide +kernel
theorem dX4_readStatement_23 : decode cX4_readStatement 23 = .ok (.invokevirtual 55, 3) := by decide +kernel
theorem dX4_readStatement_26 : decode cX4_readStatement 26 = .ok (.ifCond .eq 8, 3) := by decide +kernel
theorem dX4_readStatement_29 : decode cX4_readStatement 29 = .ok (.aload_n 0, 1) := by decide +kernel
theorem dX4_readStatement_30 : decode cX4_readStatement 30 = .ok (.invokevirtual 64, 3) := by decide +kernel
theorem dX4_readStatement_33 : decode cX4_readStatement 33 = .ok (.ireturn, 1) := by decide +kernel
theorem dX4_readStatement_34 : decode cX4_readStatement 34 = .ok (.aload_n 0, 1) := by decide +kernel
theorem dX4_readStatement_35 : decode cX4_readStatement 35 = .ok (.getfield 19, 3) := by decide +kernel
theorem dX4_readStatement_38 : decode cX4_readStatement 38 = .ok (.ldc 67, 2) := by decide +kernel
theorem dX4_readStatement_40 : decode cX4_readStatement 40 = .ok (.invokevirtual 55, 3) := by decide +kernel
theorem dX4_readStatement_43 : decode cX4_readStatement 43 = .ok (.ifCond .eq 8, 3) := by decide +kernel
theorem dX4_readStatement_46 : decode cX4_readStatement 46 = .ok (.aload_n 0, 1) := by decide +kernel
theorem dX4_readStatement_47 : decode cX4_readStatement 47 = .ok (.invokevirtual 69, 3) := by decide +kernel
theorem dX4_readStatement_50 : decode cX4_readStatement 50 = .ok (.ireturn, 1) := by decide +kernel
theorem dX4_readStatement_51 : decode cX4_readStatement 51 = .ok (.aload_n 0, 1) := by decide +kernel
theorem dX4_readStatement_52 : decode cX4_readStatement 52 = .ok (.getfield 19, 3) := by decide +kernel
theorem dX4_readStatement_55 : decode cX4_readStatement 55 = .ok (.ldc 72, 2) := by decide +kernel
theorem dX4_readStatement_57 : decode cX4_readStatement 57 = .ok (.invokevirtual 55, 3) := by decide +kernel
theorem dX4_readStatement_60 : decode cX4_readStatement 60 = .ok (.ifCond .eq 8, 3) := by decide +kernel
theorem dX4_readStatement_63 : decode cX4_readStatement 63 = .ok (.aload_n 0, 1) := by decide +kernel
theorem dX4_readStatement_64 : decode cX4_readStatement 64 = .ok (.invokevirtual 74, 3) := by decide +kernel
theorem dX4_readStatement_67 : decode cX4_readStatement 67 = .ok (.ireturn, 1) := by decide +kernel
theorem dX4_readStatement_68 : decode cX4_readStatement 68 = .ok (.aload_n 0, 1) := by decide +kernel
theorem dX4_readStatement_69 : decode cX4_readStatement 69 = .ok (.getfield 19, 3) := by decide +kernel
theorem dX4_readStatement_72 : decode cX4_readStatement 72 = .ok (.ldc 77, 2) := by decide +kernel
theorem dX4_readStatement_74 : decode cX4_readStatement 74 = .ok (.invokevirtual 55, 3) := by decide +kernel
theorem dX4_readStatement_77 : decode cX4_readStatement 77 = .ok (.ifCond .eq 8, 3) := by decide +kernel
theorem dX4_readStatement_80 : decode cX4_readStatement 80 = .ok (.aload_n 0, 1) := by decide +kernel
theorem dX4_readStatement_81 : decode cX4_readStatement 81 = .ok (.invokevirtual 79, 3) := by decide +kernel
theorem dX4_readStatement_84 : decode cX4_readStatement 84 = .ok (.ireturn, 1) := by decide +kernel
theorem dX4_readStatement_85 : decode cX4_readStatement 85 = .ok (.bipush (-11), 2) := by decide +kernel
theorem dX4_readStatement_87 : decode cX4_readStatement 87 = .ok (.ireturn, 1) := by decide +kernel
theorem dX4_readMember_0 : decode cX4_readMember 0 = .ok (.aload_n 0, 1) := by decide +kernel
theorem dX4_readMember_1 : decode cX4_readMember 1 = .ok (.getfield 27, 3) := by decide +kernel
theorem dX4_readMember_4 : decode cX4_readMember 4 = .ok (.getfield 82, 3) := by decide +kernel
theorem dX4_readMember_7 : decode cX4_readMember 7 = .ok (.bipush 8, 2) := by decide +kernel
theorem dX4_readMember_9 : decode cX4_readMember 9 = .ok (.if_icmp .lt 6, 3) := by decide +kernel
theorem dX4_readMember_12 : decode cX4_readMember 12 = .ok (.bipush (-16), 2) := by decide +kernel
theorem dX4_readMember_14 : decode cX4_readMember 14 = .ok (.ireturn, 1) := by decide +kernel
theorem dX4_readMember_15 : decode cX4_readMember 15 = .ok (.aload_n 0, 1) := by decide +kernel
theorem dX4_readMember_16 : decode cX4_readMember 16 = .ok (.getfield 19, 3) := by decide +kernel
theorem dX4_readMember_19 : decode cX4_readMember 19 = .ok (.invokevirtual 50, 3) := by decide +kernel
theorem dX4_readMember_22 : decode cX4_readMember 22 = .ok (.aload_n 0, 1) := by decide +kernel
theorem dX4_readMember_23 : decode cX4_readMember 23 = .ok (.invokevirtual 85, 3) := by decide +kernel
theorem dX4_readMember_26 : decode cX4_readMember 26 = .ok (.istore_n 1, 1) := by decide +kernel
theorem dX4_readMember_27 : decode cX4_readMember 27 = .ok (.iload_n 1, 1) := by decide +kernel
theorem dX4_readMember_28 : decode cX4_readMember 28 = .ok (.ifCond .eq 5, 3) := by decide +kernel
theorem dX4_readMember_31 : decode cX4_readMember 31 = .ok (.iload_n 1, 1) := by decide +kernel
theorem dX4_readMember_32 : decode cX4_readMember 32 = .ok (.ireturn, 1) := by decide +kernel
theorem dX4_readMember_33 : decode cX4_readMember 33 = .ok (.aload_n 0, 1) := by decide +kernel
theorem dX4_readMember_34 : decode cX4_readMember 34 = .ok (.getfield 27, 3) := by decide +kernel
theorem dX4_readMember_37 : decode cX4_readMember 37 = .ok (.getfield 82, 3) := by decide +kernel
theorem dX4_readMember_40 : decode cX4_readMember 40 = .ok (.istore_n 2, 1) := by decide +kernel
theorem dX4_readMember_41 : decode cX4_readMember 41 = .ok (.aload_n 0, 1) := by decide +kernel
theorem dX4_readMember_42 : decode cX4_readMember 42 = .ok (.getfield 27, 3) := by decide +kernel
theorem dX4_readMember_45 : decode cX4_readMember 45 = .ok (.aload_n 0, 1) := by decide +kernel
theorem dX4_readMember_46 : decode cX4_readMember 46 = .ok (.getfield 19, 3) := by decide +kernel
theorem dX4_readMember_49 : decode cX4_readMember 49 = .ok (.invokevirtual 88, 3) := by decide +kernel
theorem dX4_readMember_52 : decode cX4_readMember 52 = .ok (.invokevirtual 91, 3) := by decide +kernel
theorem dX4_readMember_55 : decode cX4_readMember 55 = .ok (.aload_n 0, 1) := by decide +kernel
theorem dX4_readMember_56 : decode cX4_readMember 56 = .ok (.getfield 19, 3) := by decide +kernel
theorem dX4_readMember_59 : decode cX4_readMember 59 = .ok (.invokevirtual 50, 3) := by decide +kernel
theorem dX4_readMember_62 : decode cX4_readMember 62 = .ok (.aload_n 0, 1) := by decide +kernel
theorem dX4_readMember_63 : decode cX4_readMember 63 = .ok (.getfield 19, 3) := by decide +kernel
theorem dX4_readMember_66 : decode cX4_readMember 66 = .ok (.ldc 94, 2) := by decide +kernel
theorem dX4_readMember_68 : decode cX4_readMember 68 = .ok (.invokevirtual 55, 3) := by decide +kernel
theorem dX4_readMember_71 : decode cX4_readMember 71 = .ok (.ifCond .eq 23, 3) := by decide +kernel
theorem dX4_readMember_74 : decode cX4_readMember 74 = .ok (.aload_n 0, 1) := by decide +kernel
theorem dX4_readMember_75 : decode cX4_readMember 75 = .ok (.getfield 27, 3) := by decide +kernel
theorem dX4_readMember_78 : decode cX4_readMember 78 = .ok (.getfield 96, 3) := by decide +kernel
theorem dX4_readMember_81 : decode cX4_readMember 81 = .ok (.iload_n 2, 1) := by decide +kernel
theorem dX4_readMember_82 : decode cX4_readMember 82 = .ok (.aaload, 1) := by decide +kernel
theorem dX4_readMember_83 : decode cX4_readMember 83 = .ok (.iconst 1, 1) := by decide +kernel
theorem dX4_readMember_84 : decode cX4_readMember 84 = .ok (.putfield 100, 3) := by decide +kernel
theorem dX4_readMember_87 : decode cX4_readMember 87 = .ok (.aload_n 0, 1) := by decide +kernel
theorem dX4_readMember_88 : decode cX4_readMember 88 = .ok (.getfield 19, 3) := by decide +kernel
theorem dX4_readMember_91 : decode cX4_readMember 91 = .ok (.invokevirtual 50, 3) := by decide +kernel
theorem dX4_readMember_94 : decode cX4_readMember 94 = .ok (.iconst 0, 1) := by decide +kernel
theorem dX4_readMember_95 : decode cX4_readMember 95 = .ok (.ireturn, 1) := by decide +kernel
theorem dX4_readSection_0 : decode cX4_readSection 0 = .ok (.aload_n 0, 1) := by decide +kernel
theorem dX4_readSection_1 : decode cX4_readSection 1 = .ok (.getfield 27, 3) := by decide +kernel
theorem dX4_readSection_4 : decode cX4_readSection 4 = .ok (.getfield 106, 3) := by decide +kernel
theorem dX4_readSection_7 : decode cX4_readSection 7 = .ok (.ifCond .le 6, 3) := by decide +kernel
theorem dX4_readSection_10 : decode cX4_readSection 10 = .ok (.bipush (-15), 2) := by decide +kernel
theorem dX4_readSection_12 : decode cX4_readSection 12 = .ok (.ireturn, 1) := by decide +kernel
theorem dX4_readSection_13 : decode cX4_readSection 13 = .ok (.aload_n 0, 1) := by decide +kernel
theorem dX4_readSection_14 : decode cX4_readSection 14 = .ok (.getfield 27, 3) := by decide +kernel
theorem dX4_readSection_17 : decode cX4_readSection 17 = .ok (.getfield 109, 3) := by decide +kernel
theorem dX4_readSection_20 : decode cX4_readSection 20 = .ok (.iconst 4, 1) := by decide +kernel
theorem dX4_readSection_21 : decode cX4_readSection 21 = .ok (.if_icmp .lt 6, 3) := by decide +kernel
theorem dX4_readSection_24 : decode cX4_readSection 24 = .ok (.bipush (-16), 2) := by decide +kernel
theorem dX4_readSection_26 : decode cX4_readSection 26 = .ok (.ireturn, 1) := by decide +kernel
theorem dX4_readSection_27 : decode cX4_readSection 27 = .ok (.aload_n 0, 1) := by decide +kernel
theorem dX4_readSection_28 : decode cX4_readSection 28 = .ok (.getfield 19, 3) := by decide +kernel
theorem dX4_readSection_31 : decode cX4_readSection 31 = .ok (.invokevirtual 50, 3) := by decide +kernel
theorem dX4_readSection_34 : decode cX4_readSection 34 = .ok (.aload_n 0, 1) := by decide +kernel
theorem dX4_readSection_35 : decode cX4_readSection 35 = .ok (.invokevirtual 85, 3) := by decide +kernel
theorem dX4_readSection_38 : decode cX4_readSection 38 = .ok (.istore_n 1, 1) := by decide +kernel
theorem dX4_readSection_39 : decode cX4_readSection 39 = .ok (.iload_n 1, 1) := by decide +kernel
theorem dX4_readSection_40 : decode cX4_readSection 40 = .ok (.ifCond .eq 5, 3) := by decide +kernel
theorem dX4_readSection_43 : decode cX4_readSection 43 = .ok (.iload_n 1, 1) := by decide +kernel
theorem dX4_readSection_44 : decode cX4_readSection 44 = .ok (.ireturn, 1) := by decide +kernel
theorem dX4_readSection_45 : decode cX4_readSection 45 = .ok (.aload_n 0, 1) := by decide +kernel
theorem dX4_readSection_46 : decode cX4_readSection 46 = .ok (.getfield 27, 3) := by decide +kernel
theorem dX4_readSection_49 : decode cX4_readSection 49 = .ok (.aload_n 0, 1) := by decide +kernel
theorem dX4_readSection_50 : decode cX4_readSection 50 = .ok (.getfield 19, 3) := by decide +kernel
theorem dX4_readSection_53 : decode cX4_readSection 53 = .ok (.invokevirtual 88, 3) := by decide +kernel
theorem dX4_readSection_56 : decode cX4_readSection 56 = .ok (.invokevirtual 112, 3) := by decide +kernel
theorem dX4_readSection_59 : decode cX4_readSection 59 = .ok (.aload_n 0, 1) := by decide +kernel
theorem dX4_readSection_60 : decode cX4_readSection 60 = .ok (.getfield 19, 3) := by decide +kernel
theorem dX4_readSection_63 : decode cX4_readSection 63 = .ok (.invokevirtual 50, 3) := by decide +kernel
theorem dX4_readSection_66 : decode cX4_readSection 66 = .ok (.iconst 0, 1) := by decide +kernel
theorem dX4_readSection_67 : decode cX4_readSection 67 = .ok (.ireturn, 1) := by decide +kernel
theorem dX4_checkNewName_0 : decode cX4_checkNewName 0 = .ok (.aload_n 0, 1) := by decide +kernel
theorem dX4_checkNewName_1 : decode cX4_checkNewName 1 = .ok (.getfield 19, 3) := by decide +kernel
theorem dX4_checkNewName_4 : decode cX4_checkNewName 4 = .ok (.invokevirtual 115, 3) := by decide +kernel
theorem dX4_checkNewName_7 : decode cX4_checkNewName 7 = .ok (.ifCond .ne 6, 3) := by decide +kernel
theorem dX4_checkNewName_10 : decode cX4_checkNewName 10 = .ok (.bipush (-11), 2) := by decide +kernel
theorem dX4_checkNewName_12 : decode cX4_checkNewName 12 = .ok (.ireturn, 1) := by decide +kernel
theorem dX4_checkNewName_13 : decode cX4_checkNewName 13 = .ok (.aload_n 0, 1) := by decide +kernel
theorem dX4_checkNewName_14 : decode cX4_checkNewName 14 = .ok (.getfield 19, 3) := by decide +kernel
theorem dX4_checkNewName_17 : decode cX4_checkNewName 17 = .ok (.invokevirtual 88, 3) := by decide +kernel
theorem dX4_checkNewName_20 : decode cX4_checkNewName 20 = .ok (.istore_n 1, 1) := by decide +kernel
theorem dX4_checkNewName_21 : decode cX4_checkNewName 21 = .ok (.aload_n 0, 1) := by decide +kernel
theorem dX4_checkNewName_22 : decode cX4_checkNewName 22 = .ok (.getfield 27, 3) := by decide +kernel
theorem dX4_checkNewName_25 : decode cX4_checkNewName 25 = .ok (.iload_n 1, 1) := by decide +kernel
theorem dX4_checkNewName_26 : decode cX4_checkNewName 26 = .ok (.invokevirtual 119, 3) := by decide +kernel
theorem dX4_checkNewName_29 : decode cX4_checkNewName 29 = .ok (.ifCond .ge 14, 3) := by decide +kernel
theorem dX4_checkNewName_32 : decode cX4_checkNewName 32 = .ok (.aload_n 0, 1) := by decide +kernel
theorem dX4_checkNewName_33 : decode cX4_checkNewName 33 = .ok (.getfield 27, 3) := by decide +kernel
theorem dX4_checkNewName_36 : decode cX4_checkNewName 36 = .ok (.iload_n 1, 1) := by decide +kernel
theorem dX4_checkNewName_37 : decode cX4_checkNewName 37 = .ok (.invokevirtual 123, 3) := by decide +kernel
theorem dX4_checkNewName_40 : decode cX4_checkNewName 40 = .ok (.ifCond .lt 7, 3) := by decide +kernel
theorem dX4_checkNewName_43 : decode cX4_checkNewName 43 = .ok (.iconst 1, 1) := by decide +kernel
theorem dX4_checkNewName_44 : decode cX4_checkNewName 44 = .ok (.goto 4, 3) := by decide +kernel
theorem dX4_checkNewName_47 : decode cX4_checkNewName 47 = .ok (.iconst 0, 1) := by decide +kernel
theorem dX4_checkNewName_48 : decode cX4_checkNewName 48 = .ok (.istore_n 2, 1) := by decide +kernel
theorem dX4_checkNewName_49 : decode cX4_checkNewName 49 = .ok (.iload_n 2, 1) := by decide +kernel
theorem dX4_checkNewName_50 : decode cX4_checkNewName 50 = .ok (.ifCond .eq 8, 3) := by decide +kernel
theorem dX4_checkNewName_53 : decode cX4_checkNewName 53 = .ok (.bipush (-14), 2) := by decide +kernel
theorem dX4_checkNewName_55 : decode cX4_checkNewName 55 = .ok (.goto 4, 3) := by decide +kernel
theorem dX4_checkNewName_58 : decode cX4_checkNewName 58 = .ok (.iconst 0, 1) := by decide +kernel
theorem dX4_checkNewName_59 : decode cX4_checkNewName 59 = .ok (.ireturn, 1) := by decide +kernel
theorem dX4_readTrade_0 : decode cX4_readTrade 0 = .ok (.aload_n 0, 1) := by decide +kernel
theorem dX4_readTrade_1 : decode cX4_readTrade 1 = .ok (.getfield 19, 3) := by decide +kernel
theorem dX4_readTrade_4 : decode cX4_readTrade 4 = .ok (.invokevirtual 50, 3) := by decide +kernel
theorem dX4_readTrade_7 : decode cX4_readTrade 7 = .ok (.aload_n 0, 1) := by decide +kernel
theorem dX4_readTrade_8 : decode cX4_readTrade 8 = .ok (.getfield 19, 3) := by decide +kernel
theorem dX4_readTrade_11 : decode cX4_readTrade 11 = .ok (.invokevirtual 115, 3) := by decide +kernel
theorem dX4_readTrade_14 : decode cX4_readTrade 14 = .ok (.ifCond .ne 6, 3) := by decide +kernel
theorem dX4_readTrade_17 : decode cX4_readTrade 17 = .ok (.bipush (-11), 2) := by decide +kernel
theorem dX4_readTrade_19 : decode cX4_readTrade 19 = .ok (.ireturn, 1) := by decide +kernel
theorem dX4_readTrade_20 : decode cX4_readTrade 20 = .ok (.aload_n 0, 1) := by decide +kernel
theorem dX4_readTrade_21 : decode cX4_readTrade 21 = .ok (.getfield 27, 3) := by decide +kernel
theorem dX4_readTrade_24 : decode cX4_readTrade 24 = .ok (.aload_n 0, 1) := by decide +kernel
theorem dX4_readTrade_25 : decode cX4_readTrade 25 = .ok (.getfield 19, 3) := by decide +kernel
theorem dX4_readTrade_28 : decode cX4_readTrade 28 = .ok (.invokevirtual 88, 3) := by decide +kernel
theorem dX4_readTrade_31 : decode cX4_readTrade 31 = .ok (.invokevirtual 119, 3) := by decide +kernel
theorem dX4_readTrade_34 : decode cX4_readTrade 34 = .ok (.istore_n 1, 1) := by decide +kernel
theorem dX4_readTrade_35 : decode cX4_readTrade 35 = .ok (.iload_n 1, 1) := by decide +kernel
theorem dX4_readTrade_36 : decode cX4_readTrade 36 = .ok (.ifCond .ge 6, 3) := by decide +kernel
theorem dX4_readTrade_39 : decode cX4_readTrade 39 = .ok (.bipush (-13), 2) := by decide +kernel
theorem dX4_readTrade_41 : decode cX4_readTrade 41 = .ok (.ireturn, 1) := by decide +kernel
theorem dX4_readTrade_42 : decode cX4_readTrade 42 = .ok (.aload_n 0, 1) := by decide +kernel
theorem dX4_readTrade_43 : decode cX4_readTrade 43 = .ok (.getfield 19, 3) := by decide +kernel
theorem dX4_readTrade_46 : decode cX4_readTrade 46 = .ok (.invokevirtual 50, 3) := by decide +kernel
theorem dX4_readTrade_49 : decode cX4_readTrade 49 = .ok (.aload_n 0, 1) := by decide +kernel
theorem dX4_readTrade_50 : decode cX4_readTrade 50 = .ok (.getfield 19, 3) := by decide +kernel
theorem dX4_readTrade_53 : decode cX4_readTrade 53 = .ok (.invokevirtual 115, 3) := by decide +kernel
theorem dX4_readTrade_56 : decode cX4_readTrade 56 = .ok (.ifCond .ne 6, 3) := by decide +kernel
theorem dX4_readTrade_59 : decode cX4_readTrade 59 = .ok (.bipush (-11), 2) := by decide +kernel
theorem dX4_readTrade_61 : decode cX4_readTrade 61 = .ok (.ireturn, 1) := by decide +kernel
theorem dX4_readTrade_62 : decode cX4_readTrade 62 = .ok (.aload_n 0, 1) := by decide +kernel
theorem dX4_readTrade_63 : decode cX4_readTrade 63 = .ok (.getfield 27, 3) := by decide +kernel
theorem dX4_readTrade_66 : decode cX4_readTrade 66 = .ok (.aload_n 0, 1) := by decide +kernel
theorem dX4_readTrade_67 : decode cX4_readTrade 67 = .ok (.getfield 19, 3) := by decide +kernel
theorem dX4_readTrade_70 : decode cX4_readTrade 70 = .ok (.invokevirtual 88, 3) := by decide +kernel
theorem dX4_readTrade_73 : decode cX4_readTrade 73 = .ok (.invokevirtual 123, 3) := by decide +kernel
theorem dX4_readTrade_76 : decode cX4_readTrade 76 = .ok (.istore_n 2, 1) := by decide +kernel
theorem dX4_readTrade_77 : decode cX4_readTrade 77 = .ok (.iload_n 2, 1) := by decide +kernel
theorem dX4_readTrade_78 : decode cX4_readTrade 78 = .ok (.ifCond .ge 6, 3) := by decide +kernel
theorem dX4_readTrade_81 : decode cX4_readTrade 81 = .ok (.bipush (-13), 2) := by decide +kernel
theorem dX4_readTrade_83 : decode cX4_readTrade 83 = .ok (.ireturn, 1) := by decide +kernel
theorem dX4_readTrade_84 : decode cX4_readTrade 84 = .ok (.aload_n 0, 1) := by decide +kernel
theorem dX4_readTrade_85 : decode cX4_readTrade 85 = .ok (.getfield 19, 3) := by decide +kernel
theorem dX4_readTrade_88 : decode cX4_readTrade 88 = .ok (.invokevirtual 50, 3) := by decide +kernel
theorem dX4_readTrade_91 : decode cX4_readTrade 91 = .ok (.aload_n 0, 1) := by decide +kernel
theorem dX4_readTrade_92 : decode cX4_readTrade 92 = .ok (.iconst 1, 1) := by decide +kernel
theorem dX4_readTrade_93 : decode cX4_readTrade 93 = .ok (.ldc 126, 2) := by decide +kernel
theorem dX4_readTrade_95 : decode cX4_readTrade 95 = .ok (.invokevirtual 127, 3) := by decide +kernel
theorem dX4_readTrade_98 : decode cX4_readTrade 98 = .ok (.istore_n 3, 1) := by decide +kernel
theorem dX4_readTrade_99 : decode cX4_readTrade 99 = .ok (.iload_n 3, 1) := by decide +kernel
theorem dX4_readTrade_100 : decode cX4_readTrade 100 = .ok (.ifCond .eq 5, 3) := by decide +kernel
theorem dX4_readTrade_103 : decode cX4_readTrade 103 = .ok (.iload_n 3, 1) := by decide +kernel
theorem dX4_readTrade_104 : decode cX4_readTrade 104 = .ok (.ireturn, 1) := by decide +kernel
theorem dX4_readTrade_105 : decode cX4_readTrade 105 = .ok (.aload_n 0, 1) := by decide +kernel
theorem dX4_readTrade_106 : decode cX4_readTrade 106 = .ok (.getfield 27, 3) := by decide +kernel
theorem dX4_readTrade_109 : decode cX4_readTrade 109 = .ok (.getfield 96, 3) := by decide +kernel
theorem dX4_readTrade_112 : decode cX4_readTrade 112 = .ok (.iload_n 1, 1) := by decide +kernel
theorem dX4_readTrade_113 : decode cX4_readTrade 113 = .ok (.aaload, 1) := by decide +kernel
theorem dX4_readTrade_114 : decode cX4_readTrade 114 = .ok (.getfield 131, 3) := by decide +kernel
theorem dX4_readTrade_117 : decode cX4_readTrade 117 = .ok (.iload_n 2, 1) := by decide +kernel
theorem dX4_readTrade_118 : decode cX4_readTrade 118 = .ok (.iaload, 1) := by decide +kernel
theorem dX4_readTrade_119 : decode cX4_readTrade 119 = .ok (.aload_n 0, 1) := by decide +kernel
theorem dX4_readTrade_120 : decode cX4_readTrade 120 = .ok (.getfield 19, 3) := by decide +kernel
theorem dX4_readTrade_123 : decode cX4_readTrade 123 = .ok (.invokevirtual 134, 3) := by decide +kernel
theorem dX4_readTrade_126 : decode cX4_readTrade 126 = .ok (.iadd, 1) := by decide +kernel
theorem dX4_readTrade_127 : decode cX4_readTrade 127 = .ok (.istore 4, 2) := by decide +kernel
theorem dX4_readTrade_129 : decode cX4_readTrade 129 = .ok (.iload 4, 2) := by decide +kernel
theorem dX4_readTrade_131 : decode cX4_readTrade 131 = .ok (.ldc 137, 2) := by decide +kernel
theorem dX4_readTrade_133 : decode cX4_readTrade 133 = .ok (.if_icmp .le 6, 3) := by decide +kernel
theorem dX4_readTrade_136 : decode cX4_readTrade 136 = .ok (.bipush (-16), 2) := by decide +kernel
theorem dX4_readTrade_138 : decode cX4_readTrade 138 = .ok (.ireturn, 1) := by decide +kernel
theorem dX4_readTrade_139 : decode cX4_readTrade 139 = .ok (.aload_n 0, 1) := by decide +kernel
theorem dX4_readTrade_140 : decode cX4_readTrade 140 = .ok (.getfield 27, 3) := by decide +kernel
theorem dX4_readTrade_143 : decode cX4_readTrade 143 = .ok (.getfield 96, 3) := by decide +kernel
theorem dX4_readTrade_146 : decode cX4_readTrade 146 = .ok (.iload_n 1, 1) := by decide +kernel
theorem dX4_readTrade_147 : decode cX4_readTrade 147 = .ok (.aaload, 1) := by decide +kernel
theorem dX4_readTrade_148 : decode cX4_readTrade 148 = .ok (.getfield 131, 3) := by decide +kernel
theorem dX4_readTrade_151 : decode cX4_readTrade 151 = .ok (.iload_n 2, 1) := by decide +kernel
theorem dX4_readTrade_152 : decode cX4_readTrade 152 = .ok (.iload 4, 2) := by decide +kernel
theorem dX4_readTrade_154 : decode cX4_readTrade 154 = .ok (.iastore, 1) := by decide +kernel
theorem dX4_readTrade_155 : decode cX4_readTrade 155 = .ok (.aload_n 0, 1) := by decide +kernel
theorem dX4_readTrade_156 : decode cX4_readTrade 156 = .ok (.getfield 19, 3) := by decide +kernel
theorem dX4_readTrade_159 : decode cX4_readTrade 159 = .ok (.invokevirtual 50, 3) := by decide +kernel
theorem dX4_readTrade_162 : decode cX4_readTrade 162 = .ok (.iconst 0, 1) := by decide +kernel
theorem dX4_readTrade_163 : decode cX4_readTrade 163 = .ok (.ireturn, 1) := by decide +kernel
theorem dX4_readClose_0 : decode cX4_readClose 0 = .ok (.aload_n 0, 1) := by decide +kernel
theorem dX4_readClose_1 : decode cX4_readClose 1 = .ok (.getfield 27, 3) := by decide +kernel
theorem dX4_readClose_4 : decode cX4_readClose 4 = .ok (.getfield 106, 3) := by decide +kernel
theorem dX4_readClose_7 : decode cX4_readClose 7 = .ok (.bipush 24, 2) := by decide +kernel
theorem dX4_readClose_9 : decode cX4_readClose 9 = .ok (.if_icmp .lt 6, 3) := by decide +kernel
theorem dX4_readClose_12 : decode cX4_readClose 12 = .ok (.bipush (-16), 2) := by decide +kernel
theorem dX4_readClose_14 : decode cX4_readClose 14 = .ok (.ireturn, 1) := by decide +kernel
theorem dX4_readClose_15 : decode cX4_readClose 15 = .ok (.aload_n 0, 1) := by decide +kernel
theorem dX4_readClose_16 : decode cX4_readClose 16 = .ok (.getfield 19, 3) := by decide +kernel
theorem dX4_readClose_19 : decode cX4_readClose 19 = .ok (.invokevirtual 50, 3) := by decide +kernel
theorem dX4_readClose_22 : decode cX4_readClose 22 = .ok (.iconst 0, 1) := by decide +kernel
theorem dX4_readClose_23 : decode cX4_readClose 23 = .ok (.istore_n 1, 1) := by decide +kernel
theorem dX4_readClose_24 : decode cX4_readClose 24 = .ok (.iload_n 1, 1) := by decide +kernel
theorem dX4_readClose_25 : decode cX4_readClose 25 = .ok (.aload_n 0, 1) := by decide +kernel
theorem dX4_readClose_26 : decode cX4_readClose 26 = .ok (.getfield 27, 3) := by decide +kernel
theorem dX4_readClose_29 : decode cX4_readClose 29 = .ok (.getfield 109, 3) := by decide +kernel
theorem dX4_readClose_32 : decode cX4_readClose 32 = .ok (.if_icmp .ge 86, 3) := by decide +kernel
theorem dX4_readClose_35 : decode cX4_readClose 35 = .ok (.aload_n 0, 1) := by decide +kernel
theorem dX4_readClose_36 : decode cX4_readClose 36 = .ok (.getfield 19, 3) := by decide +kernel
theorem dX4_readClose_39 : decode cX4_readClose 39 = .ok (.getfield 42, 3) := by decide +kernel
theorem dX4_readClose_42 : decode cX4_readClose 42 = .ok (.iconst 4, 1) := by decide +kernel
theorem dX4_readClose_43 : decode cX4_readClose 43 = .ok (.if_icmp .ne 7, 3) := by decide +kernel
theorem dX4_readClose_46 : decode cX4_readClose 46 = .ok (.iconst 1, 1) := by decide +kernel
theorem dX4_readClose_47 : decode cX4_readClose 47 = .ok (.goto 4, 3) := by decide +kernel
theorem dX4_readClose_50 : decode cX4_readClose 50 = .ok (.iconst 0, 1) := by decide +kernel
theorem dX4_readClose_51 : decode cX4_readClose 51 = .ok (.istore_n 2, 1) := by decide +kernel
theorem dX4_readClose_52 : decode cX4_readClose 52 = .ok (.iload_n 2, 1) := by decide +kernel
theorem dX4_readClose_53 : decode cX4_readClose 53 = .ok (.ifCond .eq 10, 3) := by decide +kernel
theorem dX4_readClose_56 : decode cX4_readClose 56 = .ok (.aload_n 0, 1) := by decide +kernel
theorem dX4_readClose_57 : decode cX4_readClose 57 = .ok (.getfield 19, 3) := by decide +kernel
theorem dX4_readClose_60 : decode cX4_readClose 60 = .ok (.invokevirtual 50, 3) := by decide +kernel
theorem dX4_readClose_63 : decode cX4_readClose 63 = .ok (.aload_n 0, 1) := by decide +kernel
theorem dX4_readClose_64 : decode cX4_readClose 64 = .ok (.iconst 0, 1) := by decide +kernel
theorem dX4_readClose_65 : decode cX4_readClose 65 = .ok (.ldc 137, 2) := by decide +kernel
theorem dX4_readClose_67 : decode cX4_readClose 67 = .ok (.invokevirtual 127, 3) := by decide +kernel
theorem dX4_readClose_70 : decode cX4_readClose 70 = .ok (.istore_n 3, 1) := by decide +kernel
theorem dX4_readClose_71 : decode cX4_readClose 71 = .ok (.iload_n 3, 1) := by decide +kernel
theorem dX4_readClose_72 : decode cX4_readClose 72 = .ok (.ifCond .eq 5, 3) := by decide +kernel
theorem dX4_readClose_75 : decode cX4_readClose 75 = .ok (.iload_n 3, 1) := by decide +kernel
theorem dX4_readClose_76 : decode cX4_readClose 76 = .ok (.ireturn, 1) := by decide +kernel
theorem dX4_readClose_77 : decode cX4_readClose 77 = .ok (.aload_n 0, 1) := by decide +kernel
theorem dX4_readClose_78 : decode cX4_readClose 78 = .ok (.getfield 9, 3) := by decide +kernel
theorem dX4_readClose_81 : decode cX4_readClose 81 = .ok (.iload_n 1, 1) := by decide +kernel
theorem dX4_readClose_82 : decode cX4_readClose 82 = .ok (.iload_n 2, 1) := by decide +kernel
theorem dX4_readClose_83 : decode cX4_readClose 83 = .ok (.ifCond .eq 14, 3) := by decide +kernel
theorem dX4_readClose_86 : decode cX4_readClose 86 = .ok (.aload_n 0, 1) := by decide +kernel
theorem dX4_readClose_87 : decode cX4_readClose 87 = .ok (.getfield 19, 3) := by decide +kernel
theorem dX4_readClose_90 : decode cX4_readClose 90 = .ok (.invokevirtual 134, 3) := by decide +kernel
theorem dX4_readClose_93 : decode cX4_readClose 93 = .ok (.ineg, 1) := by decide +kernel
theorem dX4_readClose_94 : decode cX4_readClose 94 = .ok (.goto 10, 3) := by decide +kernel
theorem dX4_readClose_97 : decode cX4_readClose 97 = .ok (.aload_n 0, 1) := by decide +kernel
theorem dX4_readClose_98 : decode cX4_readClose 98 = .ok (.getfield 19, 3) := by decide +kernel
theorem dX4_readClose_101 : decode cX4_readClose 101 = .ok (.invokevirtual 134, 3) := by decide +kernel
theorem dX4_readClose_104 : decode cX4_readClose 104 = .ok (.iastore, 1) := by decide +kernel
theorem dX4_readClose_105 : decode cX4_readClose 105 = .ok (.aload_n 0, 1) := by decide +kernel
theorem dX4_readClose_106 : decode cX4_readClose 106 = .ok (.getfield 19, 3) := by decide +kernel
theorem dX4_readClose_109 : decode cX4_readClose 109 = .ok (.invokevirtual 50, 3) := by decide +kernel
theorem dX4_readClose_112 : decode cX4_readClose 112 = .ok (.iinc 1 1, 3) := by decide +kernel
theorem dX4_readClose_115 : decode cX4_readClose 115 = .ok (.goto (-91), 3) := by decide +kernel
theorem dX4_readClose_118 : decode cX4_readClose 118 = .ok (.aload_n 0, 1) := by decide +kernel
theorem dX4_readClose_119 : decode cX4_readClose 119 = .ok (.getfield 23, 3) := by decide +kernel
theorem dX4_readClose_122 : decode cX4_readClose 122 = .ok (.aload_n 0, 1) := by decide +kernel
theorem dX4_readClose_123 : decode cX4_readClose 123 = .ok (.getfield 27, 3) := by decide +kernel
theorem dX4_readClose_126 : decode cX4_readClose 126 = .ok (.aload_n 0, 1) := by decide +kernel
theorem dX4_readClose_127 : decode cX4_readClose 127 = .ok (.getfield 9, 3) := by decide +kernel
theorem dX4_readClose_130 : decode cX4_readClose 130 = .ok (.invokevirtual 138, 3) := by decide +kernel
theorem dX4_readClose_133 : decode cX4_readClose 133 = .ok (.iconst 0, 1) := by decide +kernel
theorem dX4_readClose_134 : decode cX4_readClose 134 = .ok (.ireturn, 1) := by decide +kernel
theorem dX4_readSet_0 : decode cX4_readSet 0 = .ok (.aload_n 0, 1) := by decide +kernel
theorem dX4_readSet_1 : decode cX4_readSet 1 = .ok (.getfield 19, 3) := by decide +kernel
theorem dX4_readSet_4 : decode cX4_readSet 4 = .ok (.invokevirtual 50, 3) := by decide +kernel
theorem dX4_readSet_7 : decode cX4_readSet 7 = .ok (.aload_n 0, 1) := by decide +kernel
theorem dX4_readSet_8 : decode cX4_readSet 8 = .ok (.invokevirtual 144, 3) := by decide +kernel
theorem dX4_readSet_11 : decode cX4_readSet 11 = .ok (.istore_n 1, 1) := by decide +kernel
theorem dX4_readSet_12 : decode cX4_readSet 12 = .ok (.iload_n 1, 1) := by decide +kernel
theorem dX4_readSet_13 : decode cX4_readSet 13 = .ok (.ifCond .ge 6, 3) := by decide +kernel
theorem dX4_readSet_16 : decode cX4_readSet 16 = .ok (.bipush (-11), 2) := by decide +kernel
theorem dX4_readSet_18 : decode cX4_readSet 18 = .ok (.ireturn, 1) := by decide +kernel
theorem dX4_readSet_19 : decode cX4_readSet 19 = .ok (.aload_n 0, 1) := by decide +kernel
theorem dX4_readSet_20 : decode cX4_readSet 20 = .ok (.getfield 15, 3) := by decide +kernel
theorem dX4_readSet_23 : decode cX4_readSet 23 = .ok (.iload_n 1, 1) := by decide +kernel
theorem dX4_readSet_24 : decode cX4_readSet 24 = .ok (.baload, 1) := by decide +kernel
theorem dX4_readSet_25 : decode cX4_readSet 25 = .ok (.ifCond .eq 6, 3) := by decide +kernel
theorem dX4_readSet_28 : decode cX4_readSet 28 = .ok (.bipush (-14), 2) := by decide +kernel
theorem dX4_readSet_30 : decode cX4_readSet 30 = .ok (.ireturn, 1) := by decide +kernel
theorem dX4_readSet_31 : decode cX4_readSet 31 = .ok (.aload_n 0, 1) := by decide +kernel
theorem dX4_readSet_32 : decode cX4_readSet 32 = .ok (.getfield 15, 3) := by decide +kernel
theorem dX4_readSet_35 : decode cX4_readSet 35 = .ok (.iload_n 1, 1) := by decide +kernel
theorem dX4_readSet_36 : decode cX4_readSet 36 = .ok (.iconst 1, 1) := by decide +kernel
theorem dX4_readSet_37 : decode cX4_readSet 37 = .ok (.bastore, 1) := by decide +kernel
theorem dX4_readSet_38 : decode cX4_readSet 38 = .ok (.aload_n 0, 1) := by decide +kernel
theorem dX4_readSet_39 : decode cX4_readSet 39 = .ok (.getfield 19, 3) := by decide +kernel
theorem dX4_readSet_42 : decode cX4_readSet 42 = .ok (.invokevirtual 50, 3) := by decide +kernel
theorem dX4_readSet_45 : decode cX4_readSet 45 = .ok (.aload_n 0, 1) := by decide +kernel
theorem dX4_readSet_46 : decode cX4_readSet 46 = .ok (.getstatic 147, 3) := by decide +kernel
theorem dX4_readSet_49 : decode cX4_readSet 49 = .ok (.iload_n 1, 1) := by decide +kernel
theorem dX4_readSet_50 : decode cX4_readSet 50 = .ok (.iaload, 1) := by decide +kernel
theorem dX4_readSet_51 : decode cX4_readSet 51 = .ok (.getstatic 150, 3) := by decide +kernel
theorem dX4_readSet_54 : decode cX4_readSet 54 = .ok (.iload_n 1, 1) := by decide +kernel
theorem dX4_readSet_55 : decode cX4_readSet 55 = .ok (.iaload, 1) := by decide +kernel
theorem dX4_readSet_56 : decode cX4_readSet 56 = .ok (.invokevirtual 127, 3) := by decide +kernel
theorem dX4_readSet_59 : decode cX4_readSet 59 = .ok (.istore_n 2, 1) := by decide +kernel
theorem dX4_readSet_60 : decode cX4_readSet 60 = .ok (.iload_n 2, 1) := by decide +kernel
theorem dX4_readSet_61 : decode cX4_readSet 61 = .ok (.ifCond .eq 5, 3) := by decide +kernel
theorem dX4_readSet_64 : decode cX4_readSet 64 = .ok (.iload_n 2, 1) := by decide +kernel
theorem dX4_readSet_65 : decode cX4_readSet 65 = .ok (.ireturn, 1) := by decide +kernel
theorem dX4_readSet_66 : decode cX4_readSet 66 = .ok (.aload_n 0, 1) := by decide +kernel
theorem dX4_readSet_67 : decode cX4_readSet 67 = .ok (.getfield 27, 3) := by decide +kernel
theorem dX4_readSet_70 : decode cX4_readSet 70 = .ok (.getfield 153, 3) := by decide +kernel
theorem dX4_readSet_73 : decode cX4_readSet 73 = .ok (.iload_n 1, 1) := by decide +kernel
theorem dX4_readSet_74 : decode cX4_readSet 74 = .ok (.aload_n 0, 1) := by decide +kernel
theorem dX4_readSet_75 : decode cX4_readSet 75 = .ok (.getfield 19, 3) := by decide +kernel
theorem dX4_readSet_78 : decode cX4_readSet 78 = .ok (.invokevirtual 134, 3) := by decide +kernel
theorem dX4_readSet_81 : decode cX4_readSet 81 = .ok (.iastore, 1) := by decide +kernel
theorem dX4_readSet_82 : decode cX4_readSet 82 = .ok (.aload_n 0, 1) := by decide +kernel
theorem dX4_readSet_83 : decode cX4_readSet 83 = .ok (.getfield 19, 3) := by decide +kernel
theorem dX4_readSet_86 : decode cX4_readSet 86 = .ok (.invokevirtual 50, 3) := by decide +kernel
theorem dX4_readSet_89 : decode cX4_readSet 89 = .ok (.iconst 0, 1) := by decide +kernel
theorem dX4_readSet_90 : decode cX4_readSet 90 = .ok (.ireturn, 1) := by decide +kernel
theorem dX4_settingAtToken_0 : decode cX4_settingAtToken 0 = .ok (.aload_n 0, 1) := by decide +kernel
theorem dX4_settingAtToken_1 : decode cX4_settingAtToken 1 = .ok (.getfield 19, 3) := by decide +kernel
theorem dX4_settingAtToken_4 : decode cX4_settingAtToken 4 = .ok (.ldc 156, 2) := by decide +kernel
theorem dX4_settingAtToken_6 : decode cX4_settingAtToken 6 = .ok (.invokevirtual 55, 3) := by decide +kernel
theorem dX4_settingAtToken_9 : decode cX4_settingAtToken 9 = .ok (.ifCond .eq 5, 3) := by decide +kernel
theorem dX4_settingAtToken_12 : decode cX4_settingAtToken 12 = .ok (.iconst 0, 1) := by decide +kernel
theorem dX4_settingAtToken_13 : decode cX4_settingAtToken 13 = .ok (.ireturn, 1) := by decide +kernel
theorem dX4_settingAtToken_14 : decode cX4_settingAtToken 14 = .ok (.aload_n 0, 1) := by decide +kernel
theorem dX4_settingAtToken_15 : decode cX4_settingAtToken 15 = .ok (.getfield 19, 3) := by decide +kernel
theorem dX4_settingAtToken_18 : decode cX4_settingAtToken 18 = .ok (.ldc 158, 2) := by decide +kernel
theorem dX4_settingAtToken_20 : decode cX4_settingAtToken 20 = .ok (.invokevirtual 55, 3) := by decide +kernel
theorem dX4_settingAtToken_23 : decode cX4_settingAtToken 23 = .ok (.ifCond .eq 5, 3) := by decide +kernel
theorem dX4_settingAtToken_26 : decode cX4_settingAtToken 26 = .ok (.iconst 1, 1) := by decide +kernel
theorem dX4_settingAtToken_27 : decode cX4_settingAtToken 27 = .ok (.ireturn, 1) := by decide +kernel
theorem dX4_settingAtToken_28 : decode cX4_settingAtToken 28 = .ok (.aload_n 0, 1) := by decide +kernel
theorem dX4_settingAtToken_29 : decode cX4_settingAtToken 29 = .ok (.getfield 19, 3) := by decide +kernel
theorem dX4_settingAtToken_32 : decode cX4_settingAtToken 32 = .ok (.ldc 160, 2) := by decide +kernel
theorem dX4_settingAtToken_34 : decode cX4_settingAtToken 34 = .ok (.invokevirtual 55, 3) := by decide +kernel
theorem dX4_settingAtToken_37 : decode cX4_settingAtToken 37 = .ok (.ifCond .eq 5, 3) := by decide +kernel
theorem dX4_settingAtToken_40 : decode cX4_settingAtToken 40 = .ok (.iconst 2, 1) := by decide +kernel
theorem dX4_settingAtToken_41 : decode cX4_settingAtToken 41 = .ok (.ireturn, 1) := by decide +kernel
theorem dX4_settingAtToken_42 : decode cX4_settingAtToken 42 = .ok (.aload_n 0, 1) := by decide +kernel
theorem dX4_settingAtToken_43 : decode cX4_settingAtToken 43 = .ok (.getfield 19, 3) := by decide +kernel
theorem dX4_settingAtToken_46 : decode cX4_settingAtToken 46 = .ok (.ldc 162, 2) := by decide +kernel
theorem dX4_settingAtToken_48 : decode cX4_settingAtToken 48 = .ok (.invokevirtual 55, 3) := by decide +kernel
theorem dX4_settingAtToken_51 : decode cX4_settingAtToken 51 = .ok (.ifCond .eq 5, 3) := by decide +kernel
theorem dX4_settingAtToken_54 : decode cX4_settingAtToken 54 = .ok (.iconst 3, 1) := by decide +kernel
theorem dX4_settingAtToken_55 : decode cX4_settingAtToken 55 = .ok (.ireturn, 1) := by decide +kernel
theorem dX4_settingAtToken_56 : decode cX4_settingAtToken 56 = .ok (.aload_n 0, 1) := by decide +kernel
theorem dX4_settingAtToken_57 : decode cX4_settingAtToken 57 = .ok (.getfield 19, 3) := by decide +kernel
theorem dX4_settingAtToken_60 : decode cX4_settingAtToken 60 = .ok (.ldc 164, 2) := by decide +kernel
theorem dX4_settingAtToken_62 : decode cX4_settingAtToken 62 = .ok (.invokevirtual 55, 3) := by decide +kernel
theorem dX4_settingAtToken_65 : decode cX4_settingAtToken 65 = .ok (.ifCond .eq 7, 3) := by decide +kernel
theorem dX4_settingAtToken_68 : decode cX4_settingAtToken 68 = .ok (.iconst 4, 1) := by decide +kernel
theorem dX4_settingAtToken_69 : decode cX4_settingAtToken 69 = .ok (.goto 4, 3) := by decide +kernel
theorem dX4_settingAtToken_72 : decode cX4_settingAtToken 72 = .ok (.iconst (-1), 1) := by decide +kernel
theorem dX4_settingAtToken_73 : decode cX4_settingAtToken 73 = .ok (.ireturn, 1) := by decide +kernel
theorem dX4_checkInteger_0 : decode cX4_checkInteger 0 = .ok (.aload_n 0, 1) := by decide +kernel
theorem dX4_checkInteger_1 : decode cX4_checkInteger 1 = .ok (.getfield 19, 3) := by decide +kernel
theorem dX4_checkInteger_4 : decode cX4_checkInteger 4 = .ok (.getfield 42, 3) := by decide +kernel
theorem dX4_checkInteger_7 : decode cX4_checkInteger 7 = .ok (.iconst 2, 1) := by decide +kernel
theorem dX4_checkInteger_8 : decode cX4_checkInteger 8 = .ok (.if_icmp .eq 6, 3) := by decide +kernel
theorem dX4_checkInteger_11 : decode cX4_checkInteger 11 = .ok (.bipush (-11), 2) := by decide +kernel
theorem dX4_checkInteger_13 : decode cX4_checkInteger 13 = .ok (.ireturn, 1) := by decide +kernel
theorem dX4_checkInteger_14 : decode cX4_checkInteger 14 = .ok (.aload_n 0, 1) := by decide +kernel
theorem dX4_checkInteger_15 : decode cX4_checkInteger 15 = .ok (.getfield 19, 3) := by decide +kernel
theorem dX4_checkInteger_18 : decode cX4_checkInteger 18 = .ok (.invokevirtual 134, 3) := by decide +kernel
theorem dX4_checkInteger_21 : decode cX4_checkInteger 21 = .ok (.istore_n 3, 1) := by decide +kernel
theorem dX4_checkInteger_22 : decode cX4_checkInteger 22 = .ok (.iload_n 3, 1) := by decide +kernel
theorem dX4_checkInteger_23 : decode cX4_checkInteger 23 = .ok (.iload_n 1, 1) := by decide +kernel
theorem dX4_checkInteger_24 : decode cX4_checkInteger 24 = .ok (.if_icmp .lt 8, 3) := by decide +kernel
theorem dX4_checkInteger_27 : decode cX4_checkInteger 27 = .ok (.iload_n 3, 1) := by decide +kernel
theorem dX4_checkInteger_28 : decode cX4_checkInteger 28 = .ok (.iload_n 2, 1) := by decide +kernel
theorem dX4_checkInteger_29 : decode cX4_checkInteger 29 = .ok (.if_icmp .le 8, 3) := by decide +kernel
theorem dX4_checkInteger_32 : decode cX4_checkInteger 32 = .ok (.bipush (-12), 2) := by decide +kernel
theorem dX4_checkInteger_34 : decode cX4_checkInteger 34 = .ok (.goto 4, 3) := by decide +kernel
theorem dX4_checkInteger_37 : decode cX4_checkInteger 37 = .ok (.iconst 0, 1) := by decide +kernel
theorem dX4_checkInteger_38 : decode cX4_checkInteger 38 = .ok (.ireturn, 1) := by decide +kernel
