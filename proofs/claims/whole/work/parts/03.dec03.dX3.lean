theorem dX3_init_0 : decode cX3_init 0 = .ok (.aload_n 0, 1) := by decide +kernel
theorem dX3_init_1 : decode cX3_init 1 = .ok (.invokespecial 3, 3) := by decide +kernel
theorem dX3_init_4 : decode cX3_init 4 = .ok (.aload_n 0, 1) := by decide +kernel
theorem dX3_init_5 : decode cX3_init 5 = .ok (.bipush 10, 2) := by decide +kernel
theorem dX3_init_7 : decode cX3_init 7 = .ok (.anewarray 9, 3) := by decide +kernel
theorem dX3_init_10 : decode cX3_init 10 = .ok (.putfield 11, 3) := by decide +kernel
theorem dX3_init_13 : decode cX3_init 13 = .ok (.return_, 1) := by decide +kernel
theorem dX3_forget_0 : decode cX3_forget 0 = .ok (.aload_n 0, 1) := by decide +kernel
theorem dX3_forget_1 : decode cX3_forget 1 = .ok (.iconst 0, 1) := by decide +kernel
theorem dX3_forget_2 : decode cX3_forget 2 = .ok (.putfield 17, 3) := by decide +kernel
theorem dX3_forget_5 : decode cX3_forget 5 = .ok (.return_, 1) := by decide +kernel
theorem dX3_keep_0 : decode cX3_keep 0 = .ok (.aload_n 0, 1) := by decide +kernel
theorem dX3_keep_1 : decode cX3_keep 1 = .ok (.getfield 17, 3) := by decide +kernel
theorem dX3_keep_4 : decode cX3_keep 4 = .ok (.bipush 10, 2) := by decide +kernel
theorem dX3_keep_6 : decode cX3_keep 6 = .ok (.if_icmp .ne 26, 3) := by decide +kernel
theorem dX3_keep_9 : decode cX3_keep 9 = .ok (.aload_n 0, 1) := by decide +kernel
theorem dX3_keep_10 : decode cX3_keep 10 = .ok (.aload_n 0, 1) := by decide +kernel
theorem dX3_keep_11 : decode cX3_keep 11 = .ok (.getfield 21, 3) := by decide +kernel
theorem dX3_keep_14 : decode cX3_keep 14 = .ok (.iconst 1, 1) := by decide +kernel
theorem dX3_keep_15 : decode cX3_keep 15 = .ok (.iadd, 1) := by decide +kernel
theorem dX3_keep_16 : decode cX3_keep 16 = .ok (.bipush 10, 2) := by decide +kernel
theorem dX3_keep_18 : decode cX3_keep 18 = .ok (.irem, 1) := by decide +kernel
theorem dX3_keep_19 : decode cX3_keep 19 = .ok (.putfield 21, 3) := by decide +kernel
theorem dX3_keep_22 : decode cX3_keep 22 = .ok (.aload_n 0, 1) := by decide +kernel
theorem dX3_keep_23 : decode cX3_keep 23 = .ok (.dup, 1) := by decide +kernel
theorem dX3_keep_24 : decode cX3_keep 24 = .ok (.getfield 17, 3) := by decide +kernel
theorem dX3_keep_27 : decode cX3_keep 27 = .ok (.iconst 1, 1) := by decide +kernel
theorem dX3_keep_28 : decode cX3_keep 28 = .ok (.isub, 1) := by decide +kernel
theorem dX3_keep_29 : decode cX3_keep 29 = .ok (.putfield 17, 3) := by decide +kernel
theorem dX3_keep_32 : decode cX3_keep 32 = .ok (.aload_n 0, 1) := by decide +kernel
theorem dX3_keep_33 : decode cX3_keep 33 = .ok (.getfield 21, 3) := by decide +kernel
theorem dX3_keep_36 : decode cX3_keep 36 = .ok (.aload_n 0, 1) := by decide +kernel
theorem dX3_keep_37 : decode cX3_keep 37 = .ok (.getfield 17, 3) := by decide +kernel
theorem dX3_keep_40 : decode cX3_keep 40 = .ok (.iadd, 1) := by decide +kernel
theorem dX3_keep_41 : decode cX3_keep 41 = .ok (.bipush 10, 2) := by decide +kernel
theorem dX3_keep_43 : decode cX3_keep 43 = .ok (.irem, 1) := by decide +kernel
theorem dX3_keep_44 : decode cX3_keep 44 = .ok (.istore_n 2, 1) := by decide +kernel
theorem dX3_keep_45 : decode cX3_keep 45 = .ok (.aload_n 0, 1) := by decide +kernel
theorem dX3_keep_46 : decode cX3_keep 46 = .ok (.getfield 11, 3) := by decide +kernel
theorem dX3_keep_49 : decode cX3_keep 49 = .ok (.iload_n 2, 1) := by decide +kernel
theorem dX3_keep_50 : decode cX3_keep 50 = .ok (.aaload, 1) := by decide +kernel
theorem dX3_keep_51 : decode cX3_keep 51 = .ok (.ifnonnull 16, 3) := by decide +kernel
theorem dX3_keep_54 : decode cX3_keep 54 = .ok (.aload_n 0, 1) := by decide +kernel
theorem dX3_keep_55 : decode cX3_keep 55 = .ok (.getfield 11, 3) := by decide +kernel
theorem dX3_keep_58 : decode cX3_keep 58 = .ok (.iload_n 2, 1) := by decide +kernel
theorem dX3_keep_59 : decode cX3_keep 59 = .ok (.new 9, 3) := by decide +kernel
theorem dX3_keep_62 : decode cX3_keep 62 = .ok (.dup, 1) := by decide +kernel
theorem dX3_keep_63 : decode cX3_keep 63 = .ok (.invokespecial 24, 3) := by decide +kernel
theorem dX3_keep_66 : decode cX3_keep 66 = .ok (.aastore, 1) := by decide +kernel
theorem dX3_keep_67 : decode cX3_keep 67 = .ok (.aload_n 0, 1) := by decide +kernel
theorem dX3_keep_68 : decode cX3_keep 68 = .ok (.getfield 11, 3) := by decide +kernel
theorem dX3_keep_71 : decode cX3_keep 71 = .ok (.iload_n 2, 1) := by decide +kernel
theorem dX3_keep_72 : decode cX3_keep 72 = .ok (.aaload, 1) := by decide +kernel
theorem dX3_keep_73 : decode cX3_keep 73 = .ok (.aload_n 1, 1) := by decide +kernel
theorem dX3_keep_74 : decode cX3_keep 74 = .ok (.invokevirtual 25, 3) := by decide +kernel
theorem dX3_keep_77 : decode cX3_keep 77 = .ok (.aload_n 0, 1) := by decide +kernel
theorem dX3_keep_78 : decode cX3_keep 78 = .ok (.dup, 1) := by decide +kernel
theorem dX3_keep_79 : decode cX3_keep 79 = .ok (.getfield 17, 3) := by decide +kernel
theorem dX3_keep_82 : decode cX3_keep 82 = .ok (.iconst 1, 1) := by decide +kernel
theorem dX3_keep_83 : decode cX3_keep 83 = .ok (.iadd, 1) := by decide +kernel
theorem dX3_keep_84 : decode cX3_keep 84 = .ok (.putfield 17, 3) := by decide +kernel
theorem dX3_keep_87 : decode cX3_keep 87 = .ok (.return_, 1) := by decide +kernel
theorem dX3_restore_0 : decode cX3_restore 0 = .ok (.aload_n 0, 1) := by decide +kernel
theorem dX3_restore_1 : decode cX3_restore 1 = .ok (.getfield 17, 3) := by decide +kernel
theorem dX3_restore_4 : decode cX3_restore 4 = .ok (.ifCond .ne 5, 3) := by decide +kernel
theorem dX3_restore_7 : decode cX3_restore 7 = .ok (.iconst 0, 1) := by decide +kernel
theorem dX3_restore_8 : decode cX3_restore 8 = .ok (.ireturn, 1) := by decide +kernel
theorem dX3_restore_9 : decode cX3_restore 9 = .ok (.aload_n 0, 1) := by decide +kernel
theorem dX3_restore_10 : decode cX3_restore 10 = .ok (.getfield 11, 3) := by decide +kernel
theorem dX3_restore_13 : decode cX3_restore 13 = .ok (.aload_n 0, 1) := by decide +kernel
theorem dX3_restore_14 : decode cX3_restore 14 = .ok (.getfield 21, 3) := by decide +kernel
theorem dX3_restore_17 : decode cX3_restore 17 = .ok (.aload_n 0, 1) := by decide +kernel
theorem dX3_restore_18 : decode cX3_restore 18 = .ok (.getfield 17, 3) := by decide +kernel
theorem dX3_restore_21 : decode cX3_restore 21 = .ok (.iadd, 1) := by decide +kernel
theorem dX3_restore_22 : decode cX3_restore 22 = .ok (.iconst 1, 1) := by decide +kernel
theorem dX3_restore_23 : decode cX3_restore 23 = .ok (.isub, 1) := by decide +kernel
theorem dX3_restore_24 : decode cX3_restore 24 = .ok (.bipush 10, 2) := by decide +kernel
theorem dX3_restore_26 : decode cX3_restore 26 = .ok (.irem, 1) := by decide +kernel
theorem dX3_restore_27 : decode cX3_restore 27 = .ok (.aaload, 1) := by decide +kernel
theorem dX3_restore_28 : decode cX3_restore 28 = .ok (.astore_n 2, 1) := by decide +kernel
theorem dX3_restore_29 : decode cX3_restore 29 = .ok (.aload_n 2, 1) := by decide +kernel
theorem dX3_restore_30 : decode cX3_restore 30 = .ok (.ifnonnull 5, 3) := by decide +kernel
theorem dX3_restore_33 : decode cX3_restore 33 = .ok (.iconst 0, 1) := by decide +kernel
theorem dX3_restore_34 : decode cX3_restore 34 = .ok (.ireturn, 1) := by decide +kernel
theorem dX3_restore_35 : decode cX3_restore 35 = .ok (.aload_n 1, 1) := by decide +kernel
theorem dX3_restore_36 : decode cX3_restore 36 = .ok (.aload_n 2, 1) := by decide +kernel
theorem dX3_restore_37 : decode cX3_restore 37 = .ok (.invokevirtual 25, 3) := by decide +kernel
theorem dX3_restore_40 : decode cX3_restore 40 = .ok (.aload_n 0, 1) := by decide +kernel
theorem dX3_restore_41 : decode cX3_restore 41 = .ok (.dup, 1) := by decide +kernel
theorem dX3_restore_42 : decode cX3_restore 42 = .ok (.getfield 17, 3) := by decide +kernel
theorem dX3_restore_45 : decode cX3_restore 45 = .ok (.iconst 1, 1) := by decide +kernel
theorem dX3_restore_46 : decode cX3_restore 46 = .ok (.isub, 1) := by decide +kernel
theorem dX3_restore_47 : decode cX3_restore 47 = .ok (.putfield 17, 3) := by decide +kernel
theorem dX3_restore_50 : decode cX3_restore 50 = .ok (.iconst 1, 1) := by decide +kernel
theorem dX3_restore_51 : decode cX3_restore 51 = .ok (.ireturn, 1) := by decide +kernel
