theorem dX9_init_0 : decode cX9_init 0 = .ok (.aload_n 0, 1) := by decide +kernel
theorem dX9_init_1 : decode cX9_init 1 = .ok (.invokespecial 3, 3) := by decide +kernel
theorem dX9_init_4 : decode cX9_init 4 = .ok (.new 9, 3) := by decide +kernel
theorem dX9_init_7 : decode cX9_init 7 = .ok (.dup, 1) := by decide +kernel
theorem dX9_init_8 : decode cX9_init 8 = .ok (.invokespecial 11, 3) := by decide +kernel
theorem dX9_init_11 : decode cX9_init 11 = .ok (.astore_n 1, 1) := by decide +kernel
theorem dX9_init_12 : decode cX9_init 12 = .ok (.new 12, 3) := by decide +kernel
theorem dX9_init_15 : decode cX9_init 15 = .ok (.dup, 1) := by decide +kernel
theorem dX9_init_16 : decode cX9_init 16 = .ok (.aload_n 1, 1) := by decide +kernel
theorem dX9_init_17 : decode cX9_init 17 = .ok (.invokespecial 14, 3) := by decide +kernel
theorem dX9_init_20 : decode cX9_init 20 = .ok (.astore_n 2, 1) := by decide +kernel
theorem dX9_init_21 : decode cX9_init 21 = .ok (.new 17, 3) := by decide +kernel
theorem dX9_init_24 : decode cX9_init 24 = .ok (.dup, 1) := by decide +kernel
theorem dX9_init_25 : decode cX9_init 25 = .ok (.invokespecial 19, 3) := by decide +kernel
theorem dX9_init_28 : decode cX9_init 28 = .ok (.astore_n 3, 1) := by decide +kernel
theorem dX9_init_29 : decode cX9_init 29 = .ok (.new 20, 3) := by decide +kernel
theorem dX9_init_32 : decode cX9_init 32 = .ok (.dup, 1) := by decide +kernel
theorem dX9_init_33 : decode cX9_init 33 = .ok (.invokespecial 22, 3) := by decide +kernel
theorem dX9_init_36 : decode cX9_init 36 = .ok (.astore 4, 2) := by decide +kernel
theorem dX9_init_38 : decode cX9_init 38 = .ok (.aload_n 0, 1) := by decide +kernel
theorem dX9_init_39 : decode cX9_init 39 = .ok (.new 20, 3) := by decide +kernel
theorem dX9_init_42 : decode cX9_init 42 = .ok (.dup, 1) := by decide +kernel
theorem dX9_init_43 : decode cX9_init 43 = .ok (.invokespecial 22, 3) := by decide +kernel
theorem dX9_init_46 : decode cX9_init 46 = .ok (.putfield 23, 3) := by decide +kernel
theorem dX9_init_49 : decode cX9_init 49 = .ok (.aload_n 0, 1) := by decide +kernel
theorem dX9_init_50 : decode cX9_init 50 = .ok (.aload 4, 2) := by decide +kernel
theorem dX9_init_52 : decode cX9_init 52 = .ok (.putfield 27, 3) := by decide +kernel
theorem dX9_init_55 : decode cX9_init 55 = .ok (.aload_n 0, 1) := by decide +kernel
theorem dX9_init_56 : decode cX9_init 56 = .ok (.iconst 4, 1) := by decide +kernel
theorem dX9_init_57 : decode cX9_init 57 = .ok (.newarray .int, 2) := by decide +kernel
theorem dX9_init_59 : decode cX9_init 59 = .ok (.putfield 30, 3) := by decide +kernel
theorem dX9_init_62 : decode cX9_init 62 = .ok (.aload_n 0, 1) := by decide +kernel
theorem dX9_init_63 : decode cX9_init 63 = .ok (.new 34, 3) := by decide +kernel
theorem dX9_init_66 : decode cX9_init 66 = .ok (.dup, 1) := by decide +kernel
theorem dX9_init_67 : decode cX9_init 67 = .ok (.invokespecial 36, 3) := by decide +kernel
theorem dX9_init_70 : decode cX9_init 70 = .ok (.putfield 37, 3) := by decide +kernel
theorem dX9_init_73 : decode cX9_init 73 = .ok (.aload_n 0, 1) := by decide +kernel
theorem dX9_init_74 : decode cX9_init 74 = .ok (.aload_n 2, 1) := by decide +kernel
theorem dX9_init_75 : decode cX9_init 75 = .ok (.putfield 41, 3) := by decide +kernel
theorem dX9_init_78 : decode cX9_init 78 = .ok (.aload_n 0, 1) := by decide +kernel
theorem dX9_init_79 : decode cX9_init 79 = .ok (.new 45, 3) := by decide +kernel
theorem dX9_init_82 : decode cX9_init 82 = .ok (.dup, 1) := by decide +kernel
theorem dX9_init_83 : decode cX9_init 83 = .ok (.aload_n 1, 1) := by decide +kernel
theorem dX9_init_84 : decode cX9_init 84 = .ok (.invokespecial 47, 3) := by decide +kernel
theorem dX9_init_87 : decode cX9_init 87 = .ok (.putfield 48, 3) := by decide +kernel
theorem dX9_init_90 : decode cX9_init 90 = .ok (.aload_n 0, 1) := by decide +kernel
theorem dX9_init_91 : decode cX9_init 91 = .ok (.aload_n 3, 1) := by decide +kernel
theorem dX9_init_92 : decode cX9_init 92 = .ok (.putfield 52, 3) := by decide +kernel
theorem dX9_init_95 : decode cX9_init 95 = .ok (.aload_n 0, 1) := by decide +kernel
theorem dX9_init_96 : decode cX9_init 96 = .ok (.new 56, 3) := by decide +kernel
theorem dX9_init_99 : decode cX9_init 99 = .ok (.dup, 1) := by decide +kernel
theorem dX9_init_100 : decode cX9_init 100 = .ok (.aload_n 3, 1) := by decide +kernel
theorem dX9_init_101 : decode cX9_init 101 = .ok (.aload_n 2, 1) := by decide +kernel
theorem dX9_init_102 : decode cX9_init 102 = .ok (.aload 4, 2) := by decide +kernel
theorem dX9_init_104 : decode cX9_init 104 = .ok (.invokespecial 58, 3) := by decide +kernel
theorem dX9_init_107 : decode cX9_init 107 = .ok (.putfield 61, 3) := by decide +kernel
theorem dX9_init_110 : decode cX9_init 110 = .ok (.aload_n 0, 1) := by decide +kernel
theorem dX9_init_111 : decode cX9_init 111 = .ok (.iconst (-1), 1) := by decide +kernel
theorem dX9_init_112 : decode cX9_init 112 = .ok (.putfield 65, 3) := by decide +kernel
theorem dX9_init_115 : decode cX9_init 115 = .ok (.return_, 1) := by decide +kernel
theorem dX9_feed_0 : decode cX9_feed 0 = .ok (.aload_n 0, 1) := by decide +kernel
theorem dX9_feed_1 : decode cX9_feed 1 = .ok (.getfield 52, 3) := by decide +kernel
theorem dX9_feed_4 : decode cX9_feed 4 = .ok (.invokevirtual 69, 3) := by decide +kernel
theorem dX9_feed_7 : decode cX9_feed 7 = .ok (.ifCond .ne 6, 3) := by decide +kernel
theorem dX9_feed_10 : decode cX9_feed 10 = .ok (.bipush (-3), 2) := by decide +kernel
theorem dX9_feed_12 : decode cX9_feed 12 = .ok (.ireturn, 1) := by decide +kernel
theorem dX9_feed_13 : decode cX9_feed 13 = .ok (.aload_n 0, 1) := by decide +kernel
theorem dX9_feed_14 : decode cX9_feed 14 = .ok (.getfield 52, 3) := by decide +kernel
theorem dX9_feed_17 : decode cX9_feed 17 = .ok (.iload_n 1, 1) := by decide +kernel
theorem dX9_feed_18 : decode cX9_feed 18 = .ok (.invokevirtual 73, 3) := by decide +kernel
theorem dX9_feed_21 : decode cX9_feed 21 = .ok (.aload_n 0, 1) := by decide +kernel
theorem dX9_feed_22 : decode cX9_feed 22 = .ok (.getfield 52, 3) := by decide +kernel
theorem dX9_feed_25 : decode cX9_feed 25 = .ok (.iload_n 2, 1) := by decide +kernel
theorem dX9_feed_26 : decode cX9_feed 26 = .ok (.invokevirtual 73, 3) := by decide +kernel
theorem dX9_feed_29 : decode cX9_feed 29 = .ok (.aload_n 0, 1) := by decide +kernel
theorem dX9_feed_30 : decode cX9_feed 30 = .ok (.getfield 52, 3) := by decide +kernel
theorem dX9_feed_33 : decode cX9_feed 33 = .ok (.iload_n 3, 1) := by decide +kernel
theorem dX9_feed_34 : decode cX9_feed 34 = .ok (.invokevirtual 73, 3) := by decide +kernel
theorem dX9_feed_37 : decode cX9_feed 37 = .ok (.aload_n 0, 1) := by decide +kernel
theorem dX9_feed_38 : decode cX9_feed 38 = .ok (.getfield 52, 3) := by decide +kernel
theorem dX9_feed_41 : decode cX9_feed 41 = .ok (.iload 4, 2) := by decide +kernel
theorem dX9_feed_43 : decode cX9_feed 43 = .ok (.invokevirtual 73, 3) := by decide +kernel
theorem dX9_feed_46 : decode cX9_feed 46 = .ok (.aload_n 0, 1) := by decide +kernel
theorem dX9_feed_47 : decode cX9_feed 47 = .ok (.getfield 52, 3) := by decide +kernel
theorem dX9_feed_50 : decode cX9_feed 50 = .ok (.iload 5, 2) := by decide +kernel
theorem dX9_feed_52 : decode cX9_feed 52 = .ok (.invokevirtual 73, 3) := by decide +kernel
theorem dX9_feed_55 : decode cX9_feed 55 = .ok (.aload_n 0, 1) := by decide +kernel
theorem dX9_feed_56 : decode cX9_feed 56 = .ok (.getfield 52, 3) := by decide +kernel
theorem dX9_feed_59 : decode cX9_feed 59 = .ok (.getfield 77, 3) := by decide +kernel
theorem dX9_feed_62 : decode cX9_feed 62 = .ok (.ireturn, 1) := by decide +kernel
theorem dX9_load_0 : decode cX9_load 0 = .ok (.iload_n 1, 1) := by decide +kernel
theorem dX9_load_1 : decode cX9_load 1 = .ok (.ifCond .lt 14, 3) := by decide +kernel
theorem dX9_load_4 : decode cX9_load 4 = .ok (.iload_n 1, 1) := by decide +kernel
theorem dX9_load_5 : decode cX9_load 5 = .ok (.aload_n 0, 1) := by decide +kernel
theorem dX9_load_6 : decode cX9_load 6 = .ok (.getfield 52, 3) := by decide +kernel
theorem dX9_load_9 : decode cX9_load 9 = .ok (.getfield 77, 3) := by decide +kernel
theorem dX9_load_12 : decode cX9_load 12 = .ok (.if_icmp .le 6, 3) := by decide +kernel
theorem dX9_load_15 : decode cX9_load 15 = .ok (.bipush (-2), 2) := by decide +kernel
theorem dX9_load_17 : decode cX9_load 17 = .ok (.ireturn, 1) := by decide +kernel
theorem dX9_load_18 : decode cX9_load 18 = .ok (.aload_n 0, 1) := by decide +kernel
theorem dX9_load_19 : decode cX9_load 19 = .ok (.getfield 61, 3) := by decide +kernel
theorem dX9_load_22 : decode cX9_load 22 = .ok (.iload_n 1, 1) := by decide +kernel
theorem dX9_load_23 : decode cX9_load 23 = .ok (.invokevirtual 80, 3) := by decide +kernel
theorem dX9_load_26 : decode cX9_load 26 = .ok (.istore_n 2, 1) := by decide +kernel
theorem dX9_load_27 : decode cX9_load 27 = .ok (.aload_n 0, 1) := by decide +kernel
theorem dX9_load_28 : decode cX9_load 28 = .ok (.getfield 52, 3) := by decide +kernel
theorem dX9_load_31 : decode cX9_load 31 = .ok (.iconst 0, 1) := by decide +kernel
theorem dX9_load_32 : decode cX9_load 32 = .ok (.putfield 77, 3) := by decide +kernel
theorem dX9_load_35 : decode cX9_load 35 = .ok (.iload_n 2, 1) := by decide +kernel
theorem dX9_load_36 : decode cX9_load 36 = .ok (.ifCond .ge 16, 3) := by decide +kernel
theorem dX9_load_39 : decode cX9_load 39 = .ok (.aload_n 0, 1) := by decide +kernel
theorem dX9_load_40 : decode cX9_load 40 = .ok (.aload_n 0, 1) := by decide +kernel
theorem dX9_load_41 : decode cX9_load 41 = .ok (.getfield 52, 3) := by decide +kernel
theorem dX9_load_44 : decode cX9_load 44 = .ok (.getfield 84, 3) := by decide +kernel
theorem dX9_load_47 : decode cX9_load 47 = .ok (.putfield 65, 3) := by decide +kernel
theorem dX9_load_50 : decode cX9_load 50 = .ok (.iload_n 2, 1) := by decide +kernel
theorem dX9_load_51 : decode cX9_load 51 = .ok (.ireturn, 1) := by decide +kernel
theorem dX9_load_52 : decode cX9_load 52 = .ok (.aload_n 0, 1) := by decide +kernel
theorem dX9_load_53 : decode cX9_load 53 = .ok (.iconst (-1), 1) := by decide +kernel
theorem dX9_load_54 : decode cX9_load 54 = .ok (.putfield 65, 3) := by decide +kernel
theorem dX9_load_57 : decode cX9_load 57 = .ok (.aload_n 0, 1) := by decide +kernel
theorem dX9_load_58 : decode cX9_load 58 = .ok (.getfield 23, 3) := by decide +kernel
theorem dX9_load_61 : decode cX9_load 61 = .ok (.aload_n 0, 1) := by decide +kernel
theorem dX9_load_62 : decode cX9_load 62 = .ok (.getfield 27, 3) := by decide +kernel
theorem dX9_load_65 : decode cX9_load 65 = .ok (.invokevirtual 87, 3) := by decide +kernel
theorem dX9_load_68 : decode cX9_load 68 = .ok (.aload_n 0, 1) := by decide +kernel
theorem dX9_load_69 : decode cX9_load 69 = .ok (.getfield 37, 3) := by decide +kernel
theorem dX9_load_72 : decode cX9_load 72 = .ok (.invokevirtual 91, 3) := by decide +kernel
theorem dX9_load_75 : decode cX9_load 75 = .ok (.iload_n 2, 1) := by decide +kernel
theorem dX9_load_76 : decode cX9_load 76 = .ok (.ireturn, 1) := by decide +kernel
theorem dX9_errorPosition_0 : decode cX9_errorPosition 0 = .ok (.aload_n 0, 1) := by decide +kernel
theorem dX9_errorPosition_1 : decode cX9_errorPosition 1 = .ok (.getfield 65, 3) := by decide +kernel
theorem dX9_errorPosition_4 : decode cX9_errorPosition 4 = .ok (.ireturn, 1) := by decide +kernel
theorem dX9_memberCount_0 : decode cX9_memberCount 0 = .ok (.aload_n 0, 1) := by decide +kernel
theorem dX9_memberCount_1 : decode cX9_memberCount 1 = .ok (.getfield 23, 3) := by decide +kernel
theorem dX9_memberCount_4 : decode cX9_memberCount 4 = .ok (.getfield 94, 3) := by decide +kernel
theorem dX9_memberCount_7 : decode cX9_memberCount 7 = .ok (.ireturn, 1) := by decide +kernel
theorem dX9_departmentCount_0 : decode cX9_departmentCount 0 = .ok (.aload_n 0, 1) := by decide +kernel
theorem dX9_departmentCount_1 : decode cX9_departmentCount 1 = .ok (.getfield 23, 3) := by decide +kernel
theorem dX9_departmentCount_4 : decode cX9_departmentCount 4 = .ok (.getfield 97, 3) := by decide +kernel
theorem dX9_departmentCount_7 : decode cX9_departmentCount 7 = .ok (.ireturn, 1) := by decide +kernel
theorem dX9_year_0 : decode cX9_year 0 = .ok (.aload_n 0, 1) := by decide +kernel
theorem dX9_year_1 : decode cX9_year 1 = .ok (.getfield 23, 3) := by decide +kernel
theorem dX9_year_4 : decode cX9_year 4 = .ok (.getfield 100, 3) := by decide +kernel
theorem dX9_year_7 : decode cX9_year 7 = .ok (.ireturn, 1) := by decide +kernel
theorem dX9_undoCount_0 : decode cX9_undoCount 0 = .ok (.aload_n 0, 1) := by decide +kernel
theorem dX9_undoCount_1 : decode cX9_undoCount 1 = .ok (.getfield 37, 3) := by decide +kernel
theorem dX9_undoCount_4 : decode cX9_undoCount 4 = .ok (.getfield 103, 3) := by decide +kernel
theorem dX9_undoCount_7 : decode cX9_undoCount 7 = .ok (.ireturn, 1) := by decide +kernel
theorem dX9_memberNamed_0 : decode cX9_memberNamed 0 = .ok (.aload_n 0, 1) := by decide +kernel
theorem dX9_memberNamed_1 : decode cX9_memberNamed 1 = .ok (.getfield 23, 3) := by decide +kernel
theorem dX9_memberNamed_4 : decode cX9_memberNamed 4 = .ok (.iload_n 1, 1) := by decide +kernel
theorem dX9_memberNamed_5 : decode cX9_memberNamed 5 = .ok (.invokevirtual 106, 3) := by decide +kernel
theorem dX9_memberNamed_8 : decode cX9_memberNamed 8 = .ok (.ireturn, 1) := by decide +kernel
theorem dX9_departmentNamed_0 : decode cX9_departmentNamed 0 = .ok (.aload_n 0, 1) := by decide +kernel
theorem dX9_departmentNamed_1 : decode cX9_departmentNamed 1 = .ok (.getfield 23, 3) := by decide +kernel
theorem dX9_departmentNamed_4 : decode cX9_departmentNamed 4 = .ok (.iload_n 1, 1) := by decide +kernel
theorem dX9_departmentNamed_5 : decode cX9_departmentNamed 5 = .ok (.invokevirtual 109, 3) := by decide +kernel
theorem dX9_departmentNamed_8 : decode cX9_departmentNamed 8 = .ok (.ireturn, 1) := by decide +kernel
theorem dX9_getSetting_0 : decode cX9_getSetting 0 = .ok (.iload_n 1, 1) := by decide +kernel
theorem dX9_getSetting_1 : decode cX9_getSetting 1 = .ok (.invokestatic 112, 3) := by decide +kernel
theorem dX9_getSetting_4 : decode cX9_getSetting 4 = .ok (.ifCond .eq 15, 3) := by decide +kernel
theorem dX9_getSetting_7 : decode cX9_getSetting 7 = .ok (.aload_n 0, 1) := by decide +kernel
theorem dX9_getSetting_8 : decode cX9_getSetting 8 = .ok (.getfield 23, 3) := by decide +kernel
theorem dX9_getSetting_11 : decode cX9_getSetting 11 = .ok (.getfield 116, 3) := by decide +kernel
theorem dX9_getSetting_14 : decode cX9_getSetting 14 = .ok (.iload_n 1, 1) := by decide +kernel
theorem dX9_getSetting_15 : decode cX9_getSetting 15 = .ok (.iaload, 1) := by decide +kernel
theorem dX9_getSetting_16 : decode cX9_getSetting 16 = .ok (.goto 5, 3) := by decide +kernel
theorem dX9_getSetting_19 : decode cX9_getSetting 19 = .ok (.bipush (-2), 2) := by decide +kernel
theorem dX9_getSetting_21 : decode cX9_getSetting 21 = .ok (.ireturn, 1) := by decide +kernel
theorem dX9_consents_0 : decode cX9_consents 0 = .ok (.aload_n 0, 1) := by decide +kernel
theorem dX9_consents_1 : decode cX9_consents 1 = .ok (.iload_n 1, 1) := by decide +kernel
theorem dX9_consents_2 : decode cX9_consents 2 = .ok (.invokevirtual 119, 3) := by decide +kernel
theorem dX9_consents_5 : decode cX9_consents 5 = .ok (.getfield 123, 3) := by decide +kernel
theorem dX9_consents_8 : decode cX9_consents 8 = .ok (.ireturn, 1) := by decide +kernel
theorem dX9_stateOf_0 : decode cX9_stateOf 0 = .ok (.aload_n 0, 1) := by decide +kernel
theorem dX9_stateOf_1 : decode cX9_stateOf 1 = .ok (.iload_n 1, 1) := by decide +kernel
theorem dX9_stateOf_2 : decode cX9_stateOf 2 = .ok (.invokevirtual 119, 3) := by decide +kernel
theorem dX9_stateOf_5 : decode cX9_stateOf 5 = .ok (.getfield 129, 3) := by decide +kernel
theorem dX9_stateOf_8 : decode cX9_stateOf 8 = .ok (.ireturn, 1) := by decide +kernel
theorem dX9_patronage_0 : decode cX9_patronage 0 = .ok (.aload_n 0, 1) := by decide +kernel
theorem dX9_patronage_1 : decode cX9_patronage 1 = .ok (.iload_n 1, 1) := by decide +kernel
theorem dX9_patronage_2 : decode cX9_patronage 2 = .ok (.invokevirtual 119, 3) := by decide +kernel
theorem dX9_patronage_5 : decode cX9_patronage 5 = .ok (.astore_n 3, 1) := by decide +kernel
theorem dX9_patronage_6 : decode cX9_patronage 6 = .ok (.aload_n 0, 1) := by decide +kernel
theorem dX9_patronage_7 : decode cX9_patronage 7 = .ok (.iload_n 2, 1) := by decide +kernel
theorem dX9_patronage_8 : decode cX9_patronage 8 = .ok (.invokevirtual 132, 3) := by decide +kernel
theorem dX9_patronage_11 : decode cX9_patronage 11 = .ok (.aload_n 3, 1) := by decide +kernel
theorem dX9_patronage_12 : decode cX9_patronage 12 = .ok (.getfield 135, 3) := by decide +kernel
theorem dX9_patronage_15 : decode cX9_patronage 15 = .ok (.iload_n 2, 1) := by decide +kernel
theorem dX9_patronage_16 : decode cX9_patronage 16 = .ok (.iaload, 1) := by decide +kernel
theorem dX9_patronage_17 : decode cX9_patronage 17 = .ok (.ireturn, 1) := by decide +kernel
theorem dX9_totalPatronage_0 : decode cX9_totalPatronage 0 = .ok (.aload_n 0, 1) := by decide +kernel
theorem dX9_totalPatronage_1 : decode cX9_totalPatronage 1 = .ok (.iload_n 1, 1) := by decide +kernel
theorem dX9_totalPatronage_2 : decode cX9_totalPatronage 2 = .ok (.invokevirtual 132, 3) := by decide +kernel
theorem dX9_totalPatronage_5 : decode cX9_totalPatronage 5 = .ok (.aload_n 0, 1) := by decide +kernel
theorem dX9_totalPatronage_6 : decode cX9_totalPatronage 6 = .ok (.getfield 23, 3) := by decide +kernel
theorem dX9_totalPatronage_9 : decode cX9_totalPatronage 9 = .ok (.iload_n 1, 1) := by decide +kernel
theorem dX9_totalPatronage_10 : decode cX9_totalPatronage 10 = .ok (.invokevirtual 138, 3) := by decide +kernel
theorem dX9_totalPatronage_13 : decode cX9_totalPatronage 13 = .ok (.ireturn, 1) := by decide +kernel
theorem dX9_certificate_0 : decode cX9_certificate 0 = .ok (.aload_n 0, 1) := by decide +kernel
theorem dX9_certificate_1 : decode cX9_certificate 1 = .ok (.iload_n 1, 1) := by decide +kernel
theorem dX9_certificate_2 : decode cX9_certificate 2 = .ok (.invokevirtual 119, 3) := by decide +kernel
theorem dX9_certificate_5 : decode cX9_certificate 5 = .ok (.astore_n 3, 1) := by decide +kernel
theorem dX9_certificate_6 : decode cX9_certificate 6 = .ok (.aload_n 0, 1) := by decide +kernel
theorem dX9_certificate_7 : decode cX9_certificate 7 = .ok (.iload_n 2, 1) := by decide +kernel
theorem dX9_certificate_8 : decode cX9_certificate 8 = .ok (.invokevirtual 141, 3) := by decide +kernel
theorem dX9_certificate_11 : decode cX9_certificate 11 = .ok (.ifCond .eq 12, 3) := by decide +kernel
theorem dX9_certificate_14 : decode cX9_certificate 14 = .ok (.aload_n 3, 1) := by decide +kernel
theorem dX9_certificate_15 : decode cX9_certificate 15 = .ok (.getfield 144, 3) := by decide +kernel
theorem dX9_certificate_18 : decode cX9_certificate 18 = .ok (.iload_n 2, 1) := by decide +kernel
theorem dX9_certificate_19 : decode cX9_certificate 19 = .ok (.iaload, 1) := by decide +kernel
theorem dX9_certificate_20 : decode cX9_certificate 20 = .ok (.goto 5, 3) := by decide +kernel
theorem dX9_certificate_23 : decode cX9_certificate 23 = .ok (.bipush (-2), 2) := by decide +kernel
theorem dX9_certificate_25 : decode cX9_certificate 25 = .ok (.ireturn, 1) := by decide +kernel
theorem dX9_kindOf_0 : decode cX9_kindOf 0 = .ok (.aload_n 0, 1) := by decide +kernel
theorem dX9_kindOf_1 : decode cX9_kindOf 1 = .ok (.iload_n 1, 1) := by decide +kernel
theorem dX9_kindOf_2 : decode cX9_kindOf 2 = .ok (.invokevirtual 119, 3) := by decide +kernel
theorem dX9_kindOf_5 : decode cX9_kindOf 5 = .ok (.astore_n 3, 1) := by decide +kernel
theorem dX9_kindOf_6 : decode cX9_kindOf 6 = .ok (.aload_n 0, 1) := by decide +kernel
theorem dX9_kindOf_7 : decode cX9_kindOf 7 = .ok (.iload_n 2, 1) := by decide +kernel
theorem dX9_kindOf_8 : decode cX9_kindOf 8 = .ok (.invokevirtual 141, 3) := by decide +kernel
theorem dX9_kindOf_11 : decode cX9_kindOf 11 = .ok (.ifCond .ne 6, 3) := by decide +kernel
theorem dX9_kindOf_14 : decode cX9_kindOf 14 = .ok (.bipush (-2), 2) := by decide +kernel
theorem dX9_kindOf_16 : decode cX9_kindOf 16 = .ok (.ireturn, 1) := by decide +kernel
theorem dX9_kindOf_17 : decode cX9_kindOf 17 = .ok (.aload_n 3, 1) := by decide +kernel
theorem dX9_kindOf_18 : decode cX9_kindOf 18 = .ok (.getfield 144, 3) := by decide +kernel
theorem dX9_kindOf_21 : decode cX9_kindOf 21 = .ok (.iload_n 2, 1) := by decide +kernel
theorem dX9_kindOf_22 : decode cX9_kindOf 22 = .ok (.iaload, 1) := by decide +kernel
theorem dX9_kindOf_23 : decode cX9_kindOf 23 = .ok (.ifCond .le 12, 3) := by decide +kernel
theorem dX9_kindOf_26 : decode cX9_kindOf 26 = .ok (.aload_n 3, 1) := by decide +kernel
theorem dX9_kindOf_27 : decode cX9_kindOf 27 = .ok (.getfield 147, 3) := by decide +kernel
theorem dX9_kindOf_30 : decode cX9_kindOf 30 = .ok (.iload_n 2, 1) := by decide +kernel
theorem dX9_kindOf_31 : decode cX9_kindOf 31 = .ok (.iaload, 1) := by decide +kernel
theorem dX9_kindOf_32 : decode cX9_kindOf 32 = .ok (.goto 4, 3) := by decide +kernel
theorem dX9_kindOf_35 : decode cX9_kindOf 35 = .ok (.iconst (-1), 1) := by decide +kernel
theorem dX9_kindOf_36 : decode cX9_kindOf 36 = .ok (.ireturn, 1) := by decide +kernel
theorem dX9_equityOf_0 : decode cX9_equityOf 0 = .ok (.aload_n 0, 1) := by decide +kernel
theorem dX9_equityOf_1 : decode cX9_equityOf 1 = .ok (.iload_n 1, 1) := by decide +kernel
theorem dX9_equityOf_2 : decode cX9_equityOf 2 = .ok (.invokevirtual 119, 3) := by decide +kernel
theorem dX9_equityOf_5 : decode cX9_equityOf 5 = .ok (.invokevirtual 150, 3) := by decide +kernel
theorem dX9_equityOf_8 : decode cX9_equityOf 8 = .ok (.ireturn, 1) := by decide +kernel
theorem dX9_equityIn_0 : decode cX9_equityIn 0 = .ok (.aload_n 0, 1) := by decide +kernel
theorem dX9_equityIn_1 : decode cX9_equityIn 1 = .ok (.iload_n 1, 1) := by decide +kernel
theorem dX9_equityIn_2 : decode cX9_equityIn 2 = .ok (.invokevirtual 119, 3) := by decide +kernel
theorem dX9_equityIn_5 : decode cX9_equityIn 5 = .ok (.astore_n 3, 1) := by decide +kernel
theorem dX9_equityIn_6 : decode cX9_equityIn 6 = .ok (.iload_n 2, 1) := by decide +kernel
theorem dX9_equityIn_7 : decode cX9_equityIn 7 = .ok (.ifCond .eq 11, 3) := by decide +kernel
theorem dX9_equityIn_10 : decode cX9_equityIn 10 = .ok (.iload_n 2, 1) := by decide +kernel
theorem dX9_equityIn_11 : decode cX9_equityIn 11 = .ok (.iconst 1, 1) := by decide +kernel
theorem dX9_equityIn_12 : decode cX9_equityIn 12 = .ok (.if_icmp .eq 6, 3) := by decide +kernel
theorem dX9_equityIn_15 : decode cX9_equityIn 15 = .ok (.bipush (-2), 2) := by decide +kernel
theorem dX9_equityIn_17 : decode cX9_equityIn 17 = .ok (.ireturn, 1) := by decide +kernel
theorem dX9_equityIn_18 : decode cX9_equityIn 18 = .ok (.aload_n 3, 1) := by decide +kernel
theorem dX9_equityIn_19 : decode cX9_equityIn 19 = .ok (.iload_n 2, 1) := by decide +kernel
theorem dX9_equityIn_20 : decode cX9_equityIn 20 = .ok (.invokevirtual 154, 3) := by decide +kernel
theorem dX9_equityIn_23 : decode cX9_equityIn 23 = .ok (.ireturn, 1) := by decide +kernel
theorem dX9_totalEquity_0 : decode cX9_totalEquity 0 = .ok (.aload_n 0, 1) := by decide +kernel
theorem dX9_totalEquity_1 : decode cX9_totalEquity 1 = .ok (.getfield 23, 3) := by decide +kernel
theorem dX9_totalEquity_4 : decode cX9_totalEquity 4 = .ok (.invokevirtual 157, 3) := by decide +kernel
theorem dX9_totalEquity_7 : decode cX9_totalEquity 7 = .ok (.ireturn, 1) := by decide +kernel
theorem dX9_reserve_0 : decode cX9_reserve 0 = .ok (.aload_n 0, 1) := by decide +kernel
theorem dX9_reserve_1 : decode cX9_reserve 1 = .ok (.getfield 23, 3) := by decide +kernel
theorem dX9_reserve_4 : decode cX9_reserve 4 = .ok (.getfield 160, 3) := by decide +kernel
theorem dX9_reserve_7 : decode cX9_reserve 7 = .ok (.ireturn, 1) := by decide +kernel
theorem dX9_paidTo_0 : decode cX9_paidTo 0 = .ok (.aload_n 0, 1) := by decide +kernel
theorem dX9_paidTo_1 : decode cX9_paidTo 1 = .ok (.iload_n 1, 1) := by decide +kernel
theorem dX9_paidTo_2 : decode cX9_paidTo 2 = .ok (.invokevirtual 119, 3) := by decide +kernel
theorem dX9_paidTo_5 : decode cX9_paidTo 5 = .ok (.astore_n 3, 1) := by decide +kernel
theorem dX9_paidTo_6 : decode cX9_paidTo 6 = .ok (.iload_n 2, 1) := by decide +kernel
theorem dX9_paidTo_7 : decode cX9_paidTo 7 = .ok (.ifCond .lt 17, 3) := by decide +kernel
theorem dX9_paidTo_10 : decode cX9_paidTo 10 = .ok (.iload_n 2, 1) := by decide +kernel
theorem dX9_paidTo_11 : decode cX9_paidTo 11 = .ok (.iconst 3, 1) := by decide +kernel
theorem dX9_paidTo_12 : decode cX9_paidTo 12 = .ok (.if_icmp .ge 12, 3) := by decide +kernel
theorem dX9_paidTo_15 : decode cX9_paidTo 15 = .ok (.aload_n 3, 1) := by decide +kernel
theorem dX9_paidTo_16 : decode cX9_paidTo 16 = .ok (.getfield 163, 3) := by decide +kernel
theorem dX9_paidTo_19 : decode cX9_paidTo 19 = .ok (.iload_n 2, 1) := by decide +kernel
theorem dX9_paidTo_20 : decode cX9_paidTo 20 = .ok (.iaload, 1) := by decide +kernel
theorem dX9_paidTo_21 : decode cX9_paidTo 21 = .ok (.goto 5, 3) := by decide +kernel
theorem dX9_paidTo_24 : decode cX9_paidTo 24 = .ok (.bipush (-2), 2) := by decide +kernel
theorem dX9_paidTo_26 : decode cX9_paidTo 26 = .ok (.ireturn, 1) := by decide +kernel
theorem dX9_lastAllocation_0 : decode cX9_lastAllocation 0 = .ok (.aload_n 0, 1) := by decide +kernel
theorem dX9_lastAllocation_1 : decode cX9_lastAllocation 1 = .ok (.iload_n 1, 1) := by decide +kernel
theorem dX9_lastAllocation_2 : decode cX9_lastAllocation 2 = .ok (.invokevirtual 119, 3) := by decide +kernel
theorem dX9_lastAllocation_5 : decode cX9_lastAllocation 5 = .ok (.getfield 166, 3) := by decide +kernel
theorem dX9_lastAllocation_8 : decode cX9_lastAllocation 8 = .ok (.ireturn, 1) := by decide +kernel
theorem dX9_lastRecapture_0 : decode cX9_lastRecapture 0 = .ok (.aload_n 0, 1) := by decide +kernel
theorem dX9_lastRecapture_1 : decode cX9_lastRecapture 1 = .ok (.iload_n 1, 1) := by decide +kernel
theorem dX9_lastRecapture_2 : decode cX9_lastRecapture 2 = .ok (.invokevirtual 119, 3) := by decide +kernel
theorem dX9_lastRecapture_5 : decode cX9_lastRecapture 5 = .ok (.getfield 169, 3) := by decide +kernel
theorem dX9_lastRecapture_8 : decode cX9_lastRecapture 8 = .ok (.ireturn, 1) := by decide +kernel
theorem dX9_rateOf_0 : decode cX9_rateOf 0 = .ok (.aload_n 0, 1) := by decide +kernel
theorem dX9_rateOf_1 : decode cX9_rateOf 1 = .ok (.iload_n 1, 1) := by decide +kernel
theorem dX9_rateOf_2 : decode cX9_rateOf 2 = .ok (.invokevirtual 132, 3) := by decide +kernel
theorem dX9_rateOf_5 : decode cX9_rateOf 5 = .ok (.aload_n 0, 1) := by decide +kernel
theorem dX9_rateOf_6 : decode cX9_rateOf 6 = .ok (.getfield 23, 3) := by decide +kernel
theorem dX9_rateOf_9 : decode cX9_rateOf 9 = .ok (.getfield 172, 3) := by decide +kernel
theorem dX9_rateOf_12 : decode cX9_rateOf 12 = .ok (.iload_n 1, 1) := by decide +kernel
theorem dX9_rateOf_13 : decode cX9_rateOf 13 = .ok (.aaload, 1) := by decide +kernel
theorem dX9_rateOf_14 : decode cX9_rateOf 14 = .ok (.invokevirtual 176, 3) := by decide +kernel
theorem dX9_rateOf_17 : decode cX9_rateOf 17 = .ok (.freturn, 1) := by decide +kernel
theorem dX9_ratePoints_0 : decode cX9_ratePoints 0 = .ok (.aload_n 0, 1) := by decide +kernel
theorem dX9_ratePoints_1 : decode cX9_ratePoints 1 = .ok (.iload_n 1, 1) := by decide +kernel
theorem dX9_ratePoints_2 : decode cX9_ratePoints 2 = .ok (.invokevirtual 132, 3) := by decide +kernel
theorem dX9_ratePoints_5 : decode cX9_ratePoints 5 = .ok (.aload_n 0, 1) := by decide +kernel
theorem dX9_ratePoints_6 : decode cX9_ratePoints 6 = .ok (.getfield 23, 3) := by decide +kernel
theorem dX9_ratePoints_9 : decode cX9_ratePoints 9 = .ok (.getfield 172, 3) := by decide +kernel
theorem dX9_ratePoints_12 : decode cX9_ratePoints 12 = .ok (.iload_n 1, 1) := by decide +kernel
theorem dX9_ratePoints_13 : decode cX9_ratePoints 13 = .ok (.aaload, 1) := by decide +kernel
theorem dX9_ratePoints_14 : decode cX9_ratePoints 14 = .ok (.invokevirtual 176, 3) := by decide +kernel
theorem dX9_ratePoints_17 : decode cX9_ratePoints 17 = .ok (.ldc 182, 2) := by decide +kernel
theorem dX9_ratePoints_19 : decode cX9_ratePoints 19 = .ok (.fmul, 1) := by decide +kernel
theorem dX9_ratePoints_20 : decode cX9_ratePoints 20 = .ok (.f2i, 1) := by decide +kernel
theorem dX9_ratePoints_21 : decode cX9_ratePoints 21 = .ok (.ireturn, 1) := by decide +kernel
theorem dX9_meanAge_0 : decode cX9_meanAge 0 = .ok (.aload_n 0, 1) := by decide +kernel
theorem dX9_meanAge_1 : decode cX9_meanAge 1 = .ok (.iload_n 1, 1) := by decide +kernel
theorem dX9_meanAge_2 : decode cX9_meanAge 2 = .ok (.invokevirtual 119, 3) := by decide +kernel
theorem dX9_meanAge_5 : decode cX9_meanAge 5 = .ok (.astore_n 2, 1) := by decide +kernel
theorem dX9_meanAge_6 : decode cX9_meanAge 6 = .ok (.aload_n 2, 1) := by decide +kernel
theorem dX9_meanAge_7 : decode cX9_meanAge 7 = .ok (.invokevirtual 150, 3) := by decide +kernel
theorem dX9_meanAge_10 : decode cX9_meanAge 10 = .ok (.istore_n 3, 1) := by decide +kernel
theorem dX9_meanAge_11 : decode cX9_meanAge 11 = .ok (.iload_n 3, 1) := by decide +kernel
theorem dX9_meanAge_12 : decode cX9_meanAge 12 = .ok (.ifCond .ne 7, 3) := by decide +kernel
theorem dX9_meanAge_15 : decode cX9_meanAge 15 = .ok (.ldc2_w 185, 3) := by decide +kernel
theorem dX9_meanAge_18 : decode cX9_meanAge 18 = .ok (.dreturn, 1) := by decide +kernel
theorem dX9_meanAge_19 : decode cX9_meanAge 19 = .ok (.aload_n 2, 1) := by decide +kernel
theorem dX9_meanAge_20 : decode cX9_meanAge 20 = .ok (.aload_n 0, 1) := by decide +kernel
theorem dX9_meanAge_21 : decode cX9_meanAge 21 = .ok (.getfield 23, 3) := by decide +kernel
theorem dX9_meanAge_24 : decode cX9_meanAge 24 = .ok (.getfield 100, 3) := by decide +kernel
theorem dX9_meanAge_27 : decode cX9_meanAge 27 = .ok (.invokevirtual 187, 3) := by decide +kernel
theorem dX9_meanAge_30 : decode cX9_meanAge 30 = .ok (.l2d, 1) := by decide +kernel
theorem dX9_meanAge_31 : decode cX9_meanAge 31 = .ok (.iload_n 3, 1) := by decide +kernel
theorem dX9_meanAge_32 : decode cX9_meanAge 32 = .ok (.i2d, 1) := by decide +kernel
theorem dX9_meanAge_33 : decode cX9_meanAge 33 = .ok (.ddiv, 1) := by decide +kernel
theorem dX9_meanAge_34 : decode cX9_meanAge 34 = .ok (.dreturn, 1) := by decide +kernel
theorem dX9_oldestYear_0 : decode cX9_oldestYear 0 = .ok (.aload_n 0, 1) := by decide +kernel
theorem dX9_oldestYear_1 : decode cX9_oldestYear 1 = .ok (.iload_n 1, 1) := by decide +kernel
theorem dX9_oldestYear_2 : decode cX9_oldestYear 2 = .ok (.invokevirtual 119, 3) := by decide +kernel
theorem dX9_oldestYear_5 : decode cX9_oldestYear 5 = .ok (.invokevirtual 191, 3) := by decide +kernel
theorem dX9_oldestYear_8 : decode cX9_oldestYear 8 = .ok (.ireturn, 1) := by decide +kernel
theorem dX9_isUniform_0 : decode cX9_isUniform 0 = .ok (.aload_n 0, 1) := by decide +kernel
theorem dX9_isUniform_1 : decode cX9_isUniform 1 = .ok (.iload_n 1, 1) := by decide +kernel
theorem dX9_isUniform_2 : decode cX9_isUniform 2 = .ok (.invokevirtual 119, 3) := by decide +kernel
theorem dX9_isUniform_5 : decode cX9_isUniform 5 = .ok (.astore_n 2, 1) := by decide +kernel
theorem dX9_isUniform_6 : decode cX9_isUniform 6 = .ok (.aload_n 2, 1) := by decide +kernel
theorem dX9_isUniform_7 : decode cX9_isUniform 7 = .ok (.iconst 0, 1) := by decide +kernel
theorem dX9_isUniform_8 : decode cX9_isUniform 8 = .ok (.invokevirtual 154, 3) := by decide +kernel
theorem dX9_isUniform_11 : decode cX9_isUniform 11 = .ok (.ifCond .eq 11, 3) := by decide +kernel
theorem dX9_isUniform_14 : decode cX9_isUniform 14 = .ok (.aload_n 2, 1) := by decide +kernel
theorem dX9_isUniform_15 : decode cX9_isUniform 15 = .ok (.iconst 1, 1) := by decide +kernel
theorem dX9_isUniform_16 : decode cX9_isUniform 16 = .ok (.invokevirtual 154, 3) := by decide +kernel
theorem dX9_isUniform_19 : decode cX9_isUniform 19 = .ok (.ifCond .ne 7, 3) := by decide +kernel
theorem dX9_isUniform_22 : decode cX9_isUniform 22 = .ok (.iconst 1, 1) := by decide +kernel
theorem dX9_isUniform_23 : decode cX9_isUniform 23 = .ok (.goto 4, 3) := by decide +kernel
theorem dX9_isUniform_26 : decode cX9_isUniform 26 = .ok (.iconst 0, 1) := by decide +kernel
theorem dX9_isUniform_27 : decode cX9_isUniform 27 = .ok (.ireturn, 1) := by decide +kernel
theorem dX9_wouldGet_0 : decode cX9_wouldGet 0 = .ok (.aload_n 0, 1) := by decide +kernel
theorem dX9_wouldGet_1 : decode cX9_wouldGet 1 = .ok (.iload_n 1, 1) := by decide +kernel
theorem dX9_wouldGet_2 : decode cX9_wouldGet 2 = .ok (.invokevirtual 194, 3) := by decide +kernel
theorem dX9_wouldGet_5 : decode cX9_wouldGet 5 = .ok (.aload_n 0, 1) := by decide +kernel
theorem dX9_wouldGet_6 : decode cX9_wouldGet 6 = .ok (.iload_n 2, 1) := by decide +kernel
theorem dX9_wouldGet_7 : decode cX9_wouldGet 7 = .ok (.iload_n 3, 1) := by decide +kernel
theorem dX9_wouldGet_8 : decode cX9_wouldGet 8 = .ok (.iload 4, 2) := by decide +kernel
theorem dX9_wouldGet_10 : decode cX9_wouldGet 10 = .ok (.iload 5, 2) := by decide +kernel
theorem dX9_wouldGet_12 : decode cX9_wouldGet 12 = .ok (.invokevirtual 197, 3) := by decide +kernel
theorem dX9_wouldGet_15 : decode cX9_wouldGet 15 = .ok (.ifCond .ne 6, 3) := by decide +kernel
theorem dX9_wouldGet_18 : decode cX9_wouldGet 18 = .ok (.ldc 201, 2) := by decide +kernel
theorem dX9_wouldGet_20 : decode cX9_wouldGet 20 = .ok (.ireturn, 1) := by decide +kernel
theorem dX9_wouldGet_21 : decode cX9_wouldGet 21 = .ok (.aload_n 0, 1) := by decide +kernel
theorem dX9_wouldGet_22 : decode cX9_wouldGet 22 = .ok (.getfield 27, 3) := by decide +kernel
theorem dX9_wouldGet_25 : decode cX9_wouldGet 25 = .ok (.getfield 202, 3) := by decide +kernel
theorem dX9_wouldGet_28 : decode cX9_wouldGet 28 = .ok (.iload_n 1, 1) := by decide +kernel
theorem dX9_wouldGet_29 : decode cX9_wouldGet 29 = .ok (.aaload, 1) := by decide +kernel
theorem dX9_wouldGet_30 : decode cX9_wouldGet 30 = .ok (.getfield 166, 3) := by decide +kernel
theorem dX9_wouldGet_33 : decode cX9_wouldGet 33 = .ok (.ireturn, 1) := by decide +kernel
theorem dX9_topMember_0 : decode cX9_topMember 0 = .ok (.aload_n 0, 1) := by decide +kernel
theorem dX9_topMember_1 : decode cX9_topMember 1 = .ok (.iload_n 1, 1) := by decide +kernel
theorem dX9_topMember_2 : decode cX9_topMember 2 = .ok (.iload_n 2, 1) := by decide +kernel
theorem dX9_topMember_3 : decode cX9_topMember 3 = .ok (.iload_n 3, 1) := by decide +kernel
theorem dX9_topMember_4 : decode cX9_topMember 4 = .ok (.iload 4, 2) := by decide +kernel
theorem dX9_topMember_6 : decode cX9_topMember 6 = .ok (.invokevirtual 197, 3) := by decide +kernel
theorem dX9_topMember_9 : decode cX9_topMember 9 = .ok (.ifCond .ne 6, 3) := by decide +kernel
theorem dX9_topMember_12 : decode cX9_topMember 12 = .ok (.bipush (-2), 2) := by decide +kernel
theorem dX9_topMember_14 : decode cX9_topMember 14 = .ok (.ireturn, 1) := by decide +kernel
theorem dX9_topMember_15 : decode cX9_topMember 15 = .ok (.iconst (-1), 1) := by decide +kernel
theorem dX9_topMember_16 : decode cX9_topMember 16 = .ok (.istore 5, 2) := by decide +kernel
theorem dX9_topMember_18 : decode cX9_topMember 18 = .ok (.iconst 0, 1) := by decide +kernel
theorem dX9_topMember_19 : decode cX9_topMember 19 = .ok (.istore 6, 2) := by decide +kernel
theorem dX9_topMember_21 : decode cX9_topMember 21 = .ok (.iconst 0, 1) := by decide +kernel
theorem dX9_topMember_22 : decode cX9_topMember 22 = .ok (.istore 7, 2) := by decide +kernel
theorem dX9_topMember_24 : decode cX9_topMember 24 = .ok (.iload 7, 2) := by decide +kernel
theorem dX9_topMember_26 : decode cX9_topMember 26 = .ok (.aload_n 0, 1) := by decide +kernel
theorem dX9_topMember_27 : decode cX9_topMember 27 = .ok (.getfield 27, 3) := by decide +kernel
theorem dX9_topMember_30 : decode cX9_topMember 30 = .ok (.getfield 94, 3) := by decide +kernel
theorem dX9_topMember_33 : decode cX9_topMember 33 = .ok (.if_icmp .ge 45, 3) := by decide +kernel
theorem dX9_topMember_36 : decode cX9_topMember 36 = .ok (.aload_n 0, 1) := by decide +kernel
theorem dX9_topMember_37 : decode cX9_topMember 37 = .ok (.getfield 27, 3) := by decide +kernel
theorem dX9_topMember_40 : decode cX9_topMember 40 = .ok (.getfield 202, 3) := by decide +kernel
theorem dX9_topMember_43 : decode cX9_topMember 43 = .ok (.iload 7, 2) := by decide +kernel
theorem dX9_topMember_45 : decode cX9_topMember 45 = .ok (.aaload, 1) := by decide +kernel
theorem dX9_topMember_46 : decode cX9_topMember 46 = .ok (.getfield 166, 3) := by decide +kernel
theorem dX9_topMember_49 : decode cX9_topMember 49 = .ok (.istore 8, 2) := by decide +kernel
theorem dX9_topMember_51 : decode cX9_topMember 51 = .ok (.iload 5, 2) := by decide +kernel
theorem dX9_topMember_53 : decode cX9_topMember 53 = .ok (.iconst (-1), 1) := by decide +kernel
theorem dX9_topMember_54 : decode cX9_topMember 54 = .ok (.if_icmp .eq 10, 3) := by decide +kernel
theorem dX9_topMember_57 : decode cX9_topMember 57 = .ok (.iload 8, 2) := by decide +kernel
theorem dX9_topMember_59 : decode cX9_topMember 59 = .ok (.iload 6, 2) := by decide +kernel
theorem dX9_topMember_61 : decode cX9_topMember 61 = .ok (.if_icmp .le 11, 3) := by decide +kernel
theorem dX9_topMember_64 : decode cX9_topMember 64 = .ok (.iload 7, 2) := by decide +kernel
theorem dX9_topMember_66 : decode cX9_topMember 66 = .ok (.istore 5, 2) := by decide +kernel
theorem dX9_topMember_68 : decode cX9_topMember 68 = .ok (.iload 8, 2) := by decide +kernel
theorem dX9_topMember_70 : decode cX9_topMember 70 = .ok (.istore 6, 2) := by decide +kernel
theorem dX9_topMember_72 : decode cX9_topMember 72 = .ok (.iinc 7 1, 3) := by decide +kernel
theorem dX9_topMember_75 : decode cX9_topMember 75 = .ok (.goto (-51), 3) := by decide +kernel
theorem dX9_topMember_78 : decode cX9_topMember 78 = .ok (.iload 5, 2) := by decide +kernel
theorem dX9_topMember_80 : decode cX9_topMember 80 = .ok (.ireturn, 1) := by decide +kernel
theorem dX9_redeemable_0 : decode cX9_redeemable 0 = .ok (.aload_n 0, 1) := by decide +kernel
theorem dX9_redeemable_1 : decode cX9_redeemable 1 = .ok (.getfield 23, 3) := by decide +kernel
theorem dX9_redeemable_4 : decode cX9_redeemable 4 = .ok (.bipush 24, 2) := by decide +kernel
theorem dX9_redeemable_6 : decode cX9_redeemable 6 = .ok (.invokevirtual 206, 3) := by decide +kernel
theorem dX9_redeemable_9 : decode cX9_redeemable 9 = .ok (.ireturn, 1) := by decide +kernel
theorem dX9_wouldRedeem_0 : decode cX9_wouldRedeem 0 = .ok (.aload_n 0, 1) := by decide +kernel
theorem dX9_wouldRedeem_1 : decode cX9_wouldRedeem 1 = .ok (.iload_n 1, 1) := by decide +kernel
theorem dX9_wouldRedeem_2 : decode cX9_wouldRedeem 2 = .ok (.invokevirtual 194, 3) := by decide +kernel
theorem dX9_wouldRedeem_5 : decode cX9_wouldRedeem 5 = .ok (.iload_n 2, 1) := by decide +kernel
theorem dX9_wouldRedeem_6 : decode cX9_wouldRedeem 6 = .ok (.invokestatic 209, 3) := by decide +kernel
theorem dX9_wouldRedeem_9 : decode cX9_wouldRedeem 9 = .ok (.ifCond .ne 6, 3) := by decide +kernel
theorem dX9_wouldRedeem_12 : decode cX9_wouldRedeem 12 = .ok (.bipush (-2), 2) := by decide +kernel
theorem dX9_wouldRedeem_14 : decode cX9_wouldRedeem 14 = .ok (.ireturn, 1) := by decide +kernel
theorem dX9_wouldRedeem_15 : decode cX9_wouldRedeem 15 = .ok (.aload_n 0, 1) := by decide +kernel
theorem dX9_wouldRedeem_16 : decode cX9_wouldRedeem 16 = .ok (.getfield 48, 3) := by decide +kernel
theorem dX9_wouldRedeem_19 : decode cX9_wouldRedeem 19 = .ok (.aload_n 0, 1) := by decide +kernel
theorem dX9_wouldRedeem_20 : decode cX9_wouldRedeem 20 = .ok (.getfield 23, 3) := by decide +kernel
theorem dX9_wouldRedeem_23 : decode cX9_wouldRedeem 23 = .ok (.iload_n 2, 1) := by decide +kernel
theorem dX9_wouldRedeem_24 : decode cX9_wouldRedeem 24 = .ok (.invokevirtual 212, 3) := by decide +kernel
theorem dX9_wouldRedeem_27 : decode cX9_wouldRedeem 27 = .ok (.pop, 1) := by decide +kernel
theorem dX9_wouldRedeem_28 : decode cX9_wouldRedeem 28 = .ok (.aload_n 0, 1) := by decide +kernel
theorem dX9_wouldRedeem_29 : decode cX9_wouldRedeem 29 = .ok (.getfield 48, 3) := by decide +kernel
theorem dX9_wouldRedeem_32 : decode cX9_wouldRedeem 32 = .ok (.iload_n 1, 1) := by decide +kernel
theorem dX9_wouldRedeem_33 : decode cX9_wouldRedeem 33 = .ok (.invokevirtual 216, 3) := by decide +kernel
theorem dX9_wouldRedeem_36 : decode cX9_wouldRedeem 36 = .ok (.ireturn, 1) := by decide +kernel
theorem dX9_budgetThrough_0 : decode cX9_budgetThrough 0 = .ok (.aload_n 0, 1) := by decide +kernel
theorem dX9_budgetThrough_1 : decode cX9_budgetThrough 1 = .ok (.iload_n 1, 1) := by decide +kernel
theorem dX9_budgetThrough_2 : decode cX9_budgetThrough 2 = .ok (.invokevirtual 141, 3) := by decide +kernel
theorem dX9_budgetThrough_5 : decode cX9_budgetThrough 5 = .ok (.ifCond .eq 14, 3) := by decide +kernel
theorem dX9_budgetThrough_8 : decode cX9_budgetThrough 8 = .ok (.aload_n 0, 1) := by decide +kernel
theorem dX9_budgetThrough_9 : decode cX9_budgetThrough 9 = .ok (.getfield 23, 3) := by decide +kernel
theorem dX9_budgetThrough_12 : decode cX9_budgetThrough 12 = .ok (.iload_n 1, 1) := by decide +kernel
theorem dX9_budgetThrough_13 : decode cX9_budgetThrough 13 = .ok (.invokevirtual 206, 3) := by decide +kernel
theorem dX9_budgetThrough_16 : decode cX9_budgetThrough 16 = .ok (.goto 5, 3) := by decide +kernel
theorem dX9_budgetThrough_19 : decode cX9_budgetThrough 19 = .ok (.bipush (-2), 2) := by decide +kernel
theorem dX9_budgetThrough_21 : decode cX9_budgetThrough 21 = .ok (.ireturn, 1) := by decide +kernel
theorem dX9_installmentsLeft_0 : decode cX9_installmentsLeft 0 = .ok (.aload_n 0, 1) := by decide +kernel
theorem dX9_installmentsLeft_1 : decode cX9_installmentsLeft 1 = .ok (.iload_n 1, 1) := by decide +kernel
theorem dX9_installmentsLeft_2 : decode cX9_installmentsLeft 2 = .ok (.invokevirtual 119, 3) := by decide +kernel
theorem dX9_installmentsLeft_5 : decode cX9_installmentsLeft 5 = .ok (.getfield 219, 3) := by decide +kernel
theorem dX9_installmentsLeft_8 : decode cX9_installmentsLeft 8 = .ok (.ireturn, 1) := by decide +kernel
theorem dX9_installment_0 : decode cX9_installment 0 = .ok (.aload_n 0, 1) := by decide +kernel
theorem dX9_installment_1 : decode cX9_installment 1 = .ok (.iload_n 1, 1) := by decide +kernel
theorem dX9_installment_2 : decode cX9_installment 2 = .ok (.invokevirtual 119, 3) := by decide +kernel
theorem dX9_installment_5 : decode cX9_installment 5 = .ok (.iload_n 2, 1) := by decide +kernel
theorem dX9_installment_6 : decode cX9_installment 6 = .ok (.invokevirtual 222, 3) := by decide +kernel
theorem dX9_installment_9 : decode cX9_installment 9 = .ok (.ireturn, 1) := by decide +kernel
theorem dX9_balance_0 : decode cX9_balance 0 = .ok (.aload_n 0, 1) := by decide +kernel
theorem dX9_balance_1 : decode cX9_balance 1 = .ok (.getfield 23, 3) := by decide +kernel
theorem dX9_balance_4 : decode cX9_balance 4 = .ok (.getfield 225, 3) := by decide +kernel
theorem dX9_balance_7 : decode cX9_balance 7 = .ok (.aload_n 0, 1) := by decide +kernel
theorem dX9_balance_8 : decode cX9_balance 8 = .ok (.getfield 23, 3) := by decide +kernel
theorem dX9_balance_11 : decode cX9_balance 11 = .ok (.getfield 228, 3) := by decide +kernel
theorem dX9_balance_14 : decode cX9_balance 14 = .ok (.isub, 1) := by decide +kernel
theorem dX9_balance_15 : decode cX9_balance 15 = .ok (.aload_n 0, 1) := by decide +kernel
theorem dX9_balance_16 : decode cX9_balance 16 = .ok (.getfield 23, 3) := by decide +kernel
theorem dX9_balance_19 : decode cX9_balance 19 = .ok (.iconst 0, 1) := by decide +kernel
theorem dX9_balance_20 : decode cX9_balance 20 = .ok (.invokevirtual 231, 3) := by decide +kernel
theorem dX9_balance_23 : decode cX9_balance 23 = .ok (.isub, 1) := by decide +kernel
theorem dX9_balance_24 : decode cX9_balance 24 = .ok (.aload_n 0, 1) := by decide +kernel
theorem dX9_balance_25 : decode cX9_balance 25 = .ok (.getfield 23, 3) := by decide +kernel
theorem dX9_balance_28 : decode cX9_balance 28 = .ok (.iconst 1, 1) := by decide +kernel
theorem dX9_balance_29 : decode cX9_balance 29 = .ok (.invokevirtual 231, 3) := by decide +kernel
theorem dX9_balance_32 : decode cX9_balance 32 = .ok (.isub, 1) := by decide +kernel
theorem dX9_balance_33 : decode cX9_balance 33 = .ok (.aload_n 0, 1) := by decide +kernel
theorem dX9_balance_34 : decode cX9_balance 34 = .ok (.getfield 23, 3) := by decide +kernel
theorem dX9_balance_37 : decode cX9_balance 37 = .ok (.iconst 2, 1) := by decide +kernel
theorem dX9_balance_38 : decode cX9_balance 38 = .ok (.invokevirtual 231, 3) := by decide +kernel
theorem dX9_balance_41 : decode cX9_balance 41 = .ok (.isub, 1) := by decide +kernel
theorem dX9_balance_42 : decode cX9_balance 42 = .ok (.ireturn, 1) := by decide +kernel
theorem dX9_nextInLine_0 : decode cX9_nextInLine 0 = .ok (.aload_n 0, 1) := by decide +kernel
theorem dX9_nextInLine_1 : decode cX9_nextInLine 1 = .ok (.getfield 48, 3) := by decide +kernel
theorem dX9_nextInLine_4 : decode cX9_nextInLine 4 = .ok (.aload_n 0, 1) := by decide +kernel
theorem dX9_nextInLine_5 : decode cX9_nextInLine 5 = .ok (.getfield 23, 3) := by decide +kernel
theorem dX9_nextInLine_8 : decode cX9_nextInLine 8 = .ok (.iconst 1, 1) := by decide +kernel
theorem dX9_nextInLine_9 : decode cX9_nextInLine 9 = .ok (.invokevirtual 212, 3) := by decide +kernel
theorem dX9_nextInLine_12 : decode cX9_nextInLine 12 = .ok (.pop, 1) := by decide +kernel
theorem dX9_nextInLine_13 : decode cX9_nextInLine 13 = .ok (.aload_n 0, 1) := by decide +kernel
theorem dX9_nextInLine_14 : decode cX9_nextInLine 14 = .ok (.getfield 48, 3) := by decide +kernel
theorem dX9_nextInLine_17 : decode cX9_nextInLine 17 = .ok (.invokevirtual 234, 3) := by decide +kernel
theorem dX9_nextInLine_20 : decode cX9_nextInLine 20 = .ok (.ireturn, 1) := by decide +kernel
theorem dX9_yearsUntil_0 : decode cX9_yearsUntil 0 = .ok (.aload_n 0, 1) := by decide +kernel
theorem dX9_yearsUntil_1 : decode cX9_yearsUntil 1 = .ok (.iload_n 1, 1) := by decide +kernel
theorem dX9_yearsUntil_2 : decode cX9_yearsUntil 2 = .ok (.invokevirtual 119, 3) := by decide +kernel
theorem dX9_yearsUntil_5 : decode cX9_yearsUntil 5 = .ok (.astore_n 3, 1) := by decide +kernel
theorem dX9_yearsUntil_6 : decode cX9_yearsUntil 6 = .ok (.aload_n 0, 1) := by decide +kernel
theorem dX9_yearsUntil_7 : decode cX9_yearsUntil 7 = .ok (.iload_n 2, 1) := by decide +kernel
theorem dX9_yearsUntil_8 : decode cX9_yearsUntil 8 = .ok (.invokevirtual 141, 3) := by decide +kernel
theorem dX9_yearsUntil_11 : decode cX9_yearsUntil 11 = .ok (.ifCond .ne 6, 3) := by decide +kernel
theorem dX9_yearsUntil_14 : decode cX9_yearsUntil 14 = .ok (.bipush (-2), 2) := by decide +kernel
theorem dX9_yearsUntil_16 : decode cX9_yearsUntil 16 = .ok (.ireturn, 1) := by decide +kernel
theorem dX9_yearsUntil_17 : decode cX9_yearsUntil 17 = .ok (.aload_n 3, 1) := by decide +kernel
theorem dX9_yearsUntil_18 : decode cX9_yearsUntil 18 = .ok (.getfield 144, 3) := by decide +kernel
theorem dX9_yearsUntil_21 : decode cX9_yearsUntil 21 = .ok (.iload_n 2, 1) := by decide +kernel
theorem dX9_yearsUntil_22 : decode cX9_yearsUntil 22 = .ok (.iaload, 1) := by decide +kernel
theorem dX9_yearsUntil_23 : decode cX9_yearsUntil 23 = .ok (.ifCond .eq 10, 3) := by decide +kernel
theorem dX9_yearsUntil_26 : decode cX9_yearsUntil 26 = .ok (.aload_n 3, 1) := by decide +kernel
theorem dX9_yearsUntil_27 : decode cX9_yearsUntil 27 = .ok (.getfield 129, 3) := by decide +kernel
theorem dX9_yearsUntil_30 : decode cX9_yearsUntil 30 = .ok (.ifCond .eq 5, 3) := by decide +kernel
theorem dX9_yearsUntil_33 : decode cX9_yearsUntil 33 = .ok (.iconst (-1), 1) := by decide +kernel
theorem dX9_yearsUntil_34 : decode cX9_yearsUntil 34 = .ok (.ireturn, 1) := by decide +kernel
theorem dX9_yearsUntil_35 : decode cX9_yearsUntil 35 = .ok (.iconst 0, 1) := by decide +kernel
theorem dX9_yearsUntil_36 : decode cX9_yearsUntil 36 = .ok (.aload_n 0, 1) := by decide +kernel
theorem dX9_yearsUntil_37 : decode cX9_yearsUntil 37 = .ok (.getfield 23, 3) := by decide +kernel
theorem dX9_yearsUntil_40 : decode cX9_yearsUntil 40 = .ok (.getfield 116, 3) := by decide +kernel
theorem dX9_yearsUntil_43 : decode cX9_yearsUntil 43 = .ok (.iconst 3, 1) := by decide +kernel
theorem dX9_yearsUntil_44 : decode cX9_yearsUntil 44 = .ok (.iaload, 1) := by decide +kernel
theorem dX9_yearsUntil_45 : decode cX9_yearsUntil 45 = .ok (.aload_n 0, 1) := by decide +kernel
theorem dX9_yearsUntil_46 : decode cX9_yearsUntil 46 = .ok (.getfield 23, 3) := by decide +kernel
theorem dX9_yearsUntil_49 : decode cX9_yearsUntil 49 = .ok (.getfield 100, 3) := by decide +kernel
theorem dX9_yearsUntil_52 : decode cX9_yearsUntil 52 = .ok (.iload_n 2, 1) := by decide +kernel
theorem dX9_yearsUntil_53 : decode cX9_yearsUntil 53 = .ok (.isub, 1) := by decide +kernel
theorem dX9_yearsUntil_54 : decode cX9_yearsUntil 54 = .ok (.isub, 1) := by decide +kernel
theorem dX9_yearsUntil_55 : decode cX9_yearsUntil 55 = .ok (.invokestatic 237, 3) := by decide +kernel
theorem dX9_yearsUntil_58 : decode cX9_yearsUntil 58 = .ok (.ireturn, 1) := by decide +kernel
theorem dX9_equityOfYear_0 : decode cX9_equityOfYear 0 = .ok (.aload_n 0, 1) := by decide +kernel
theorem dX9_equityOfYear_1 : decode cX9_equityOfYear 1 = .ok (.iload_n 1, 1) := by decide +kernel
theorem dX9_equityOfYear_2 : decode cX9_equityOfYear 2 = .ok (.invokevirtual 141, 3) := by decide +kernel
theorem dX9_equityOfYear_5 : decode cX9_equityOfYear 5 = .ok (.ifCond .ne 6, 3) := by decide +kernel
theorem dX9_equityOfYear_8 : decode cX9_equityOfYear 8 = .ok (.bipush (-2), 2) := by decide +kernel
theorem dX9_equityOfYear_10 : decode cX9_equityOfYear 10 = .ok (.ireturn, 1) := by decide +kernel
theorem dX9_equityOfYear_11 : decode cX9_equityOfYear 11 = .ok (.iconst 0, 1) := by decide +kernel
theorem dX9_equityOfYear_12 : decode cX9_equityOfYear 12 = .ok (.istore_n 2, 1) := by decide +kernel
theorem dX9_equityOfYear_13 : decode cX9_equityOfYear 13 = .ok (.iconst 0, 1) := by decide +kernel
theorem dX9_equityOfYear_14 : decode cX9_equityOfYear 14 = .ok (.istore_n 3, 1) := by decide +kernel
theorem dX9_equityOfYear_15 : decode cX9_equityOfYear 15 = .ok (.iload_n 3, 1) := by decide +kernel
theorem dX9_equityOfYear_16 : decode cX9_equityOfYear 16 = .ok (.aload_n 0, 1) := by decide +kernel
theorem dX9_equityOfYear_17 : decode cX9_equityOfYear 17 = .ok (.getfield 23, 3) := by decide +kernel
theorem dX9_equityOfYear_20 : decode cX9_equityOfYear 20 = .ok (.getfield 94, 3) := by decide +kernel
theorem dX9_equityOfYear_23 : decode cX9_equityOfYear 23 = .ok (.if_icmp .ge 26, 3) := by decide +kernel
theorem dX9_equityOfYear_26 : decode cX9_equityOfYear 26 = .ok (.iload_n 2, 1) := by decide +kernel
theorem dX9_equityOfYear_27 : decode cX9_equityOfYear 27 = .ok (.aload_n 0, 1) := by decide +kernel
theorem dX9_equityOfYear_28 : decode cX9_equityOfYear 28 = .ok (.getfield 23, 3) := by decide +kernel
theorem dX9_equityOfYear_31 : decode cX9_equityOfYear 31 = .ok (.getfield 202, 3) := by decide +kernel
theorem dX9_equityOfYear_34 : decode cX9_equityOfYear 34 = .ok (.iload_n 3, 1) := by decide +kernel
theorem dX9_equityOfYear_35 : decode cX9_equityOfYear 35 = .ok (.aaload, 1) := by decide +kernel
theorem dX9_equityOfYear_36 : decode cX9_equityOfYear 36 = .ok (.getfield 144, 3) := by decide +kernel
theorem dX9_equityOfYear_39 : decode cX9_equityOfYear 39 = .ok (.iload_n 1, 1) := by decide +kernel
theorem dX9_equityOfYear_40 : decode cX9_equityOfYear 40 = .ok (.iaload, 1) := by decide +kernel
theorem dX9_equityOfYear_41 : decode cX9_equityOfYear 41 = .ok (.iadd, 1) := by decide +kernel
theorem dX9_equityOfYear_42 : decode cX9_equityOfYear 42 = .ok (.istore_n 2, 1) := by decide +kernel
theorem dX9_equityOfYear_43 : decode cX9_equityOfYear 43 = .ok (.iinc 3 1, 3) := by decide +kernel
theorem dX9_equityOfYear_46 : decode cX9_equityOfYear 46 = .ok (.goto (-31), 3) := by decide +kernel
theorem dX9_equityOfYear_49 : decode cX9_equityOfYear 49 = .ok (.iload_n 2, 1) := by decide +kernel
theorem dX9_equityOfYear_50 : decode cX9_equityOfYear 50 = .ok (.ireturn, 1) := by decide +kernel
theorem dX9_wouldReserve_0 : decode cX9_wouldReserve 0 = .ok (.aload_n 0, 1) := by decide +kernel
theorem dX9_wouldReserve_1 : decode cX9_wouldReserve 1 = .ok (.iload_n 1, 1) := by decide +kernel
theorem dX9_wouldReserve_2 : decode cX9_wouldReserve 2 = .ok (.iload_n 2, 1) := by decide +kernel
theorem dX9_wouldReserve_3 : decode cX9_wouldReserve 3 = .ok (.iload_n 3, 1) := by decide +kernel
theorem dX9_wouldReserve_4 : decode cX9_wouldReserve 4 = .ok (.iload 4, 2) := by decide +kernel
theorem dX9_wouldReserve_6 : decode cX9_wouldReserve 6 = .ok (.invokevirtual 197, 3) := by decide +kernel
theorem dX9_wouldReserve_9 : decode cX9_wouldReserve 9 = .ok (.ifCond .eq 13, 3) := by decide +kernel
theorem dX9_wouldReserve_12 : decode cX9_wouldReserve 12 = .ok (.aload_n 0, 1) := by decide +kernel
theorem dX9_wouldReserve_13 : decode cX9_wouldReserve 13 = .ok (.getfield 27, 3) := by decide +kernel
theorem dX9_wouldReserve_16 : decode cX9_wouldReserve 16 = .ok (.getfield 160, 3) := by decide +kernel
theorem dX9_wouldReserve_19 : decode cX9_wouldReserve 19 = .ok (.goto 5, 3) := by decide +kernel
theorem dX9_wouldReserve_22 : decode cX9_wouldReserve 22 = .ok (.ldc 201, 2) := by decide +kernel
theorem dX9_wouldReserve_24 : decode cX9_wouldReserve 24 = .ok (.ireturn, 1) := by decide +kernel
theorem dX9_cashNeeded_0 : decode cX9_cashNeeded 0 = .ok (.aload_n 0, 1) := by decide +kernel
theorem dX9_cashNeeded_1 : decode cX9_cashNeeded 1 = .ok (.iload_n 1, 1) := by decide +kernel
theorem dX9_cashNeeded_2 : decode cX9_cashNeeded 2 = .ok (.iload_n 2, 1) := by decide +kernel
theorem dX9_cashNeeded_3 : decode cX9_cashNeeded 3 = .ok (.iload_n 3, 1) := by decide +kernel
theorem dX9_cashNeeded_4 : decode cX9_cashNeeded 4 = .ok (.iload 4, 2) := by decide +kernel
theorem dX9_cashNeeded_6 : decode cX9_cashNeeded 6 = .ok (.invokevirtual 197, 3) := by decide +kernel
theorem dX9_cashNeeded_9 : decode cX9_cashNeeded 9 = .ok (.ifCond .ne 6, 3) := by decide +kernel
theorem dX9_cashNeeded_12 : decode cX9_cashNeeded 12 = .ok (.bipush (-2), 2) := by decide +kernel
theorem dX9_cashNeeded_14 : decode cX9_cashNeeded 14 = .ok (.ireturn, 1) := by decide +kernel
theorem dX9_cashNeeded_15 : decode cX9_cashNeeded 15 = .ok (.aload_n 0, 1) := by decide +kernel
theorem dX9_cashNeeded_16 : decode cX9_cashNeeded 16 = .ok (.getfield 27, 3) := by decide +kernel
theorem dX9_cashNeeded_19 : decode cX9_cashNeeded 19 = .ok (.iconst 0, 1) := by decide +kernel
theorem dX9_cashNeeded_20 : decode cX9_cashNeeded 20 = .ok (.invokevirtual 231, 3) := by decide +kernel
theorem dX9_cashNeeded_23 : decode cX9_cashNeeded 23 = .ok (.aload_n 0, 1) := by decide +kernel
theorem dX9_cashNeeded_24 : decode cX9_cashNeeded 24 = .ok (.getfield 23, 3) := by decide +kernel
theorem dX9_cashNeeded_27 : decode cX9_cashNeeded 27 = .ok (.iconst 0, 1) := by decide +kernel
theorem dX9_cashNeeded_28 : decode cX9_cashNeeded 28 = .ok (.invokevirtual 231, 3) := by decide +kernel
theorem dX9_cashNeeded_31 : decode cX9_cashNeeded 31 = .ok (.isub, 1) := by decide +kernel
theorem dX9_cashNeeded_32 : decode cX9_cashNeeded 32 = .ok (.aload_n 0, 1) := by decide +kernel
theorem dX9_cashNeeded_33 : decode cX9_cashNeeded 33 = .ok (.getfield 27, 3) := by decide +kernel
theorem dX9_cashNeeded_36 : decode cX9_cashNeeded 36 = .ok (.iconst 2, 1) := by decide +kernel
theorem dX9_cashNeeded_37 : decode cX9_cashNeeded 37 = .ok (.invokevirtual 231, 3) := by decide +kernel
theorem dX9_cashNeeded_40 : decode cX9_cashNeeded 40 = .ok (.iadd, 1) := by decide +kernel
theorem dX9_cashNeeded_41 : decode cX9_cashNeeded 41 = .ok (.aload_n 0, 1) := by decide +kernel
theorem dX9_cashNeeded_42 : decode cX9_cashNeeded 42 = .ok (.getfield 23, 3) := by decide +kernel
theorem dX9_cashNeeded_45 : decode cX9_cashNeeded 45 = .ok (.iconst 2, 1) := by decide +kernel
theorem dX9_cashNeeded_46 : decode cX9_cashNeeded 46 = .ok (.invokevirtual 231, 3) := by decide +kernel
theorem dX9_cashNeeded_49 : decode cX9_cashNeeded 49 = .ok (.isub, 1) := by decide +kernel
theorem dX9_cashNeeded_50 : decode cX9_cashNeeded 50 = .ok (.ireturn, 1) := by decide +kernel
theorem dX9_richest_0 : decode cX9_richest 0 = .ok (.iconst (-1), 1) := by decide +kernel
theorem dX9_richest_1 : decode cX9_richest 1 = .ok (.istore_n 1, 1) := by decide +kernel
theorem dX9_richest_2 : decode cX9_richest 2 = .ok (.iconst 0, 1) := by decide +kernel
theorem dX9_richest_3 : decode cX9_richest 3 = .ok (.istore_n 2, 1) := by decide +kernel
theorem dX9_richest_4 : decode cX9_richest 4 = .ok (.iconst 0, 1) := by decide +kernel
theorem dX9_richest_5 : decode cX9_richest 5 = .ok (.istore_n 3, 1) := by decide +kernel
theorem dX9_richest_6 : decode cX9_richest 6 = .ok (.iload_n 3, 1) := by decide +kernel
theorem dX9_richest_7 : decode cX9_richest 7 = .ok (.aload_n 0, 1) := by decide +kernel
theorem dX9_richest_8 : decode cX9_richest 8 = .ok (.getfield 23, 3) := by decide +kernel
theorem dX9_richest_11 : decode cX9_richest 11 = .ok (.getfield 94, 3) := by decide +kernel
theorem dX9_richest_14 : decode cX9_richest 14 = .ok (.if_icmp .ge 39, 3) := by decide +kernel
theorem dX9_richest_17 : decode cX9_richest 17 = .ok (.aload_n 0, 1) := by decide +kernel
theorem dX9_richest_18 : decode cX9_richest 18 = .ok (.getfield 23, 3) := by decide +kernel
theorem dX9_richest_21 : decode cX9_richest 21 = .ok (.getfield 202, 3) := by decide +kernel
theorem dX9_richest_24 : decode cX9_richest 24 = .ok (.iload_n 3, 1) := by decide +kernel
theorem dX9_richest_25 : decode cX9_richest 25 = .ok (.aaload, 1) := by decide +kernel
theorem dX9_richest_26 : decode cX9_richest 26 = .ok (.invokevirtual 150, 3) := by decide +kernel
theorem dX9_richest_29 : decode cX9_richest 29 = .ok (.istore 4, 2) := by decide +kernel
theorem dX9_richest_31 : decode cX9_richest 31 = .ok (.iload_n 1, 1) := by decide +kernel
theorem dX9_richest_32 : decode cX9_richest 32 = .ok (.iconst (-1), 1) := by decide +kernel
theorem dX9_richest_33 : decode cX9_richest 33 = .ok (.if_icmp .eq 9, 3) := by decide +kernel
theorem dX9_richest_36 : decode cX9_richest 36 = .ok (.iload 4, 2) := by decide +kernel
theorem dX9_richest_38 : decode cX9_richest 38 = .ok (.iload_n 2, 1) := by decide +kernel
theorem dX9_richest_39 : decode cX9_richest 39 = .ok (.if_icmp .le 8, 3) := by decide +kernel
theorem dX9_richest_42 : decode cX9_richest 42 = .ok (.iload_n 3, 1) := by decide +kernel
theorem dX9_richest_43 : decode cX9_richest 43 = .ok (.istore_n 1, 1) := by decide +kernel
theorem dX9_richest_44 : decode cX9_richest 44 = .ok (.iload 4, 2) := by decide +kernel
theorem dX9_richest_46 : decode cX9_richest 46 = .ok (.istore_n 2, 1) := by decide +kernel
theorem dX9_richest_47 : decode cX9_richest 47 = .ok (.iinc 3 1, 3) := by decide +kernel
theorem dX9_richest_50 : decode cX9_richest 50 = .ok (.goto (-44), 3) := by decide +kernel
theorem dX9_richest_53 : decode cX9_richest 53 = .ok (.iload_n 1, 1) := by decide +kernel
theorem dX9_richest_54 : decode cX9_richest 54 = .ok (.ireturn, 1) := by decide +kernel
theorem dX9_membersIn_0 : decode cX9_membersIn 0 = .ok (.iload_n 1, 1) := by decide +kernel
theorem dX9_membersIn_1 : decode cX9_membersIn 1 = .ok (.ifCond .eq 16, 3) := by decide +kernel
theorem dX9_membersIn_4 : decode cX9_membersIn 4 = .ok (.iload_n 1, 1) := by decide +kernel
theorem dX9_membersIn_5 : decode cX9_membersIn 5 = .ok (.iconst 1, 1) := by decide +kernel
theorem dX9_membersIn_6 : decode cX9_membersIn 6 = .ok (.if_icmp .eq 11, 3) := by decide +kernel
theorem dX9_membersIn_9 : decode cX9_membersIn 9 = .ok (.iload_n 1, 1) := by decide +kernel
theorem dX9_membersIn_10 : decode cX9_membersIn 10 = .ok (.iconst 2, 1) := by decide +kernel
theorem dX9_membersIn_11 : decode cX9_membersIn 11 = .ok (.if_icmp .eq 6, 3) := by decide +kernel
theorem dX9_membersIn_14 : decode cX9_membersIn 14 = .ok (.bipush (-2), 2) := by decide +kernel
theorem dX9_membersIn_16 : decode cX9_membersIn 16 = .ok (.ireturn, 1) := by decide +kernel
theorem dX9_membersIn_17 : decode cX9_membersIn 17 = .ok (.iconst 0, 1) := by decide +kernel
theorem dX9_membersIn_18 : decode cX9_membersIn 18 = .ok (.istore_n 2, 1) := by decide +kernel
theorem dX9_membersIn_19 : decode cX9_membersIn 19 = .ok (.iconst 0, 1) := by decide +kernel
theorem dX9_membersIn_20 : decode cX9_membersIn 20 = .ok (.istore_n 3, 1) := by decide +kernel
theorem dX9_membersIn_21 : decode cX9_membersIn 21 = .ok (.iload_n 3, 1) := by decide +kernel
theorem dX9_membersIn_22 : decode cX9_membersIn 22 = .ok (.aload_n 0, 1) := by decide +kernel
theorem dX9_membersIn_23 : decode cX9_membersIn 23 = .ok (.getfield 23, 3) := by decide +kernel
theorem dX9_membersIn_26 : decode cX9_membersIn 26 = .ok (.getfield 94, 3) := by decide +kernel
theorem dX9_membersIn_29 : decode cX9_membersIn 29 = .ok (.if_icmp .ge 28, 3) := by decide +kernel
theorem dX9_membersIn_32 : decode cX9_membersIn 32 = .ok (.aload_n 0, 1) := by decide +kernel
theorem dX9_membersIn_33 : decode cX9_membersIn 33 = .ok (.getfield 23, 3) := by decide +kernel
theorem dX9_membersIn_36 : decode cX9_membersIn 36 = .ok (.getfield 202, 3) := by decide +kernel
theorem dX9_membersIn_39 : decode cX9_membersIn 39 = .ok (.iload_n 3, 1) := by decide +kernel
theorem dX9_membersIn_40 : decode cX9_membersIn 40 = .ok (.aaload, 1) := by decide +kernel
theorem dX9_membersIn_41 : decode cX9_membersIn 41 = .ok (.getfield 129, 3) := by decide +kernel
theorem dX9_membersIn_44 : decode cX9_membersIn 44 = .ok (.iload_n 1, 1) := by decide +kernel
theorem dX9_membersIn_45 : decode cX9_membersIn 45 = .ok (.if_icmp .ne 6, 3) := by decide +kernel
theorem dX9_membersIn_48 : decode cX9_membersIn 48 = .ok (.iinc 2 1, 3) := by decide +kernel
theorem dX9_membersIn_51 : decode cX9_membersIn 51 = .ok (.iinc 3 1, 3) := by decide +kernel
theorem dX9_membersIn_54 : decode cX9_membersIn 54 = .ok (.goto (-33), 3) := by decide +kernel
theorem dX9_membersIn_57 : decode cX9_membersIn 57 = .ok (.iload_n 2, 1) := by decide +kernel
theorem dX9_membersIn_58 : decode cX9_membersIn 58 = .ok (.ireturn, 1) := by decide +kernel
theorem dX9_partOf_0 : decode cX9_partOf 0 = .ok (.aload_n 0, 1) := by decide +kernel
theorem dX9_partOf_1 : decode cX9_partOf 1 = .ok (.iload_n 1, 1) := by decide +kernel
theorem dX9_partOf_2 : decode cX9_partOf 2 = .ok (.invokevirtual 119, 3) := by decide +kernel
theorem dX9_partOf_5 : decode cX9_partOf 5 = .ok (.invokevirtual 150, 3) := by decide +kernel
theorem dX9_partOf_8 : decode cX9_partOf 8 = .ok (.istore_n 2, 1) := by decide +kernel
theorem dX9_partOf_9 : decode cX9_partOf 9 = .ok (.aload_n 0, 1) := by decide +kernel
theorem dX9_partOf_10 : decode cX9_partOf 10 = .ok (.getfield 23, 3) := by decide +kernel
theorem dX9_partOf_13 : decode cX9_partOf 13 = .ok (.invokevirtual 157, 3) := by decide +kernel
theorem dX9_partOf_16 : decode cX9_partOf 16 = .ok (.istore_n 3, 1) := by decide +kernel
theorem dX9_partOf_17 : decode cX9_partOf 17 = .ok (.iload_n 3, 1) := by decide +kernel
theorem dX9_partOf_18 : decode cX9_partOf 18 = .ok (.ifCond .ne 7, 3) := by decide +kernel
theorem dX9_partOf_21 : decode cX9_partOf 21 = .ok (.ldc2_w 185, 3) := by decide +kernel
theorem dX9_partOf_24 : decode cX9_partOf 24 = .ok (.dreturn, 1) := by decide +kernel
theorem dX9_partOf_25 : decode cX9_partOf 25 = .ok (.iload_n 2, 1) := by decide +kernel
theorem dX9_partOf_26 : decode cX9_partOf 26 = .ok (.i2d, 1) := by decide +kernel
theorem dX9_partOf_27 : decode cX9_partOf 27 = .ok (.iload_n 3, 1) := by decide +kernel
theorem dX9_partOf_28 : decode cX9_partOf 28 = .ok (.i2d, 1) := by decide +kernel
theorem dX9_partOf_29 : decode cX9_partOf 29 = .ok (.ddiv, 1) := by decide +kernel
theorem dX9_partOf_30 : decode cX9_partOf 30 = .ok (.dreturn, 1) := by decide +kernel
theorem dX9_redemptionsNeeded_0 : decode cX9_redemptionsNeeded 0 = .ok (.iload_n 1, 1) := by decide +kernel
theorem dX9_redemptionsNeeded_1 : decode cX9_redemptionsNeeded 1 = .ok (.invokestatic 209, 3) := by decide +kernel
theorem dX9_redemptionsNeeded_4 : decode cX9_redemptionsNeeded 4 = .ok (.ifCond .ne 6, 3) := by decide +kernel
theorem dX9_redemptionsNeeded_7 : decode cX9_redemptionsNeeded 7 = .ok (.bipush (-2), 2) := by decide +kernel
theorem dX9_redemptionsNeeded_9 : decode cX9_redemptionsNeeded 9 = .ok (.ireturn, 1) := by decide +kernel
theorem dX9_redemptionsNeeded_10 : decode cX9_redemptionsNeeded 10 = .ok (.aload_n 0, 1) := by decide +kernel
theorem dX9_redemptionsNeeded_11 : decode cX9_redemptionsNeeded 11 = .ok (.getfield 27, 3) := by decide +kernel
theorem dX9_redemptionsNeeded_14 : decode cX9_redemptionsNeeded 14 = .ok (.aload_n 0, 1) := by decide +kernel
theorem dX9_redemptionsNeeded_15 : decode cX9_redemptionsNeeded 15 = .ok (.getfield 23, 3) := by decide +kernel
theorem dX9_redemptionsNeeded_18 : decode cX9_redemptionsNeeded 18 = .ok (.invokevirtual 87, 3) := by decide +kernel
theorem dX9_redemptionsNeeded_21 : decode cX9_redemptionsNeeded 21 = .ok (.iconst 0, 1) := by decide +kernel
theorem dX9_redemptionsNeeded_22 : decode cX9_redemptionsNeeded 22 = .ok (.istore_n 2, 1) := by decide +kernel
theorem dX9_redemptionsNeeded_23 : decode cX9_redemptionsNeeded 23 = .ok (.iload_n 2, 1) := by decide +kernel
theorem dX9_redemptionsNeeded_24 : decode cX9_redemptionsNeeded 24 = .ok (.bipush 60, 2) := by decide +kernel
theorem dX9_redemptionsNeeded_26 : decode cX9_redemptionsNeeded 26 = .ok (.if_icmp .ge 58, 3) := by decide +kernel
theorem dX9_redemptionsNeeded_29 : decode cX9_redemptionsNeeded 29 = .ok (.aload_n 0, 1) := by decide +kernel
theorem dX9_redemptionsNeeded_30 : decode cX9_redemptionsNeeded 30 = .ok (.getfield 27, 3) := by decide +kernel
theorem dX9_redemptionsNeeded_33 : decode cX9_redemptionsNeeded 33 = .ok (.invokevirtual 243, 3) := by decide +kernel
theorem dX9_redemptionsNeeded_36 : decode cX9_redemptionsNeeded 36 = .ok (.ifCond .ne 5, 3) := by decide +kernel
theorem dX9_redemptionsNeeded_39 : decode cX9_redemptionsNeeded 39 = .ok (.iload_n 2, 1) := by decide +kernel
theorem dX9_redemptionsNeeded_40 : decode cX9_redemptionsNeeded 40 = .ok (.ireturn, 1) := by decide +kernel
theorem dX9_redemptionsNeeded_41 : decode cX9_redemptionsNeeded 41 = .ok (.aload_n 0, 1) := by decide +kernel
theorem dX9_redemptionsNeeded_42 : decode cX9_redemptionsNeeded 42 = .ok (.getfield 48, 3) := by decide +kernel
theorem dX9_redemptionsNeeded_45 : decode cX9_redemptionsNeeded 45 = .ok (.aload_n 0, 1) := by decide +kernel
theorem dX9_redemptionsNeeded_46 : decode cX9_redemptionsNeeded 46 = .ok (.getfield 27, 3) := by decide +kernel
theorem dX9_redemptionsNeeded_49 : decode cX9_redemptionsNeeded 49 = .ok (.iload_n 1, 1) := by decide +kernel
theorem dX9_redemptionsNeeded_50 : decode cX9_redemptionsNeeded 50 = .ok (.invokevirtual 212, 3) := by decide +kernel
theorem dX9_redemptionsNeeded_53 : decode cX9_redemptionsNeeded 53 = .ok (.pop, 1) := by decide +kernel
theorem dX9_redemptionsNeeded_54 : decode cX9_redemptionsNeeded 54 = .ok (.aload_n 0, 1) := by decide +kernel
theorem dX9_redemptionsNeeded_55 : decode cX9_redemptionsNeeded 55 = .ok (.getfield 48, 3) := by decide +kernel
theorem dX9_redemptionsNeeded_58 : decode cX9_redemptionsNeeded 58 = .ok (.aload_n 0, 1) := by decide +kernel
theorem dX9_redemptionsNeeded_59 : decode cX9_redemptionsNeeded 59 = .ok (.getfield 27, 3) := by decide +kernel
theorem dX9_redemptionsNeeded_62 : decode cX9_redemptionsNeeded 62 = .ok (.invokevirtual 246, 3) := by decide +kernel
theorem dX9_redemptionsNeeded_65 : decode cX9_redemptionsNeeded 65 = .ok (.aload_n 0, 1) := by decide +kernel
theorem dX9_redemptionsNeeded_66 : decode cX9_redemptionsNeeded 66 = .ok (.getfield 27, 3) := by decide +kernel
theorem dX9_redemptionsNeeded_69 : decode cX9_redemptionsNeeded 69 = .ok (.dup, 1) := by decide +kernel
theorem dX9_redemptionsNeeded_70 : decode cX9_redemptionsNeeded 70 = .ok (.getfield 100, 3) := by decide +kernel
theorem dX9_redemptionsNeeded_73 : decode cX9_redemptionsNeeded 73 = .ok (.iconst 1, 1) := by decide +kernel
theorem dX9_redemptionsNeeded_74 : decode cX9_redemptionsNeeded 74 = .ok (.iadd, 1) := by decide +kernel
theorem dX9_redemptionsNeeded_75 : decode cX9_redemptionsNeeded 75 = .ok (.putfield 100, 3) := by decide +kernel
theorem dX9_redemptionsNeeded_78 : decode cX9_redemptionsNeeded 78 = .ok (.iinc 2 1, 3) := by decide +kernel
theorem dX9_redemptionsNeeded_81 : decode cX9_redemptionsNeeded 81 = .ok (.goto (-58), 3) := by decide +kernel
theorem dX9_redemptionsNeeded_84 : decode cX9_redemptionsNeeded 84 = .ok (.aload_n 0, 1) := by decide +kernel
theorem dX9_redemptionsNeeded_85 : decode cX9_redemptionsNeeded 85 = .ok (.getfield 27, 3) := by decide +kernel
theorem dX9_redemptionsNeeded_88 : decode cX9_redemptionsNeeded 88 = .ok (.invokevirtual 243, 3) := by decide +kernel
theorem dX9_redemptionsNeeded_91 : decode cX9_redemptionsNeeded 91 = .ok (.ifCond .ne 8, 3) := by decide +kernel
theorem dX9_redemptionsNeeded_94 : decode cX9_redemptionsNeeded 94 = .ok (.bipush 60, 2) := by decide +kernel
theorem dX9_redemptionsNeeded_96 : decode cX9_redemptionsNeeded 96 = .ok (.goto 4, 3) := by decide +kernel
theorem dX9_redemptionsNeeded_99 : decode cX9_redemptionsNeeded 99 = .ok (.iconst (-1), 1) := by decide +kernel
theorem dX9_redemptionsNeeded_100 : decode cX9_redemptionsNeeded 100 = .ok (.ireturn, 1) := by decide +kernel
theorem dX9_trade_0 : decode cX9_trade 0 = .ok (.aload_n 0, 1) := by decide +kernel
theorem dX9_trade_1 : decode cX9_trade 1 = .ok (.iload_n 1, 1) := by decide +kernel
theorem dX9_trade_2 : decode cX9_trade 2 = .ok (.invokevirtual 249, 3) := by decide +kernel
theorem dX9_trade_5 : decode cX9_trade 5 = .ok (.ifCond .eq 11, 3) := by decide +kernel
theorem dX9_trade_8 : decode cX9_trade 8 = .ok (.aload_n 0, 1) := by decide +kernel
theorem dX9_trade_9 : decode cX9_trade 9 = .ok (.iload_n 2, 1) := by decide +kernel
theorem dX9_trade_10 : decode cX9_trade 10 = .ok (.invokevirtual 252, 3) := by decide +kernel
theorem dX9_trade_13 : decode cX9_trade 13 = .ok (.ifCond .ne 5, 3) := by decide +kernel
theorem dX9_trade_16 : decode cX9_trade 16 = .ok (.iconst (-1), 1) := by decide +kernel
theorem dX9_trade_17 : decode cX9_trade 17 = .ok (.ireturn, 1) := by decide +kernel
theorem dX9_trade_18 : decode cX9_trade 18 = .ok (.iload_n 3, 1) := by decide +kernel
theorem dX9_trade_19 : decode cX9_trade 19 = .ok (.iconst 1, 1) := by decide +kernel
theorem dX9_trade_20 : decode cX9_trade 20 = .ok (.if_icmp .lt 9, 3) := by decide +kernel
theorem dX9_trade_23 : decode cX9_trade 23 = .ok (.iload_n 3, 1) := by decide +kernel
theorem dX9_trade_24 : decode cX9_trade 24 = .ok (.ldc 255, 2) := by decide +kernel
theorem dX9_trade_26 : decode cX9_trade 26 = .ok (.if_icmp .le 6, 3) := by decide +kernel
theorem dX9_trade_29 : decode cX9_trade 29 = .ok (.bipush (-2), 2) := by decide +kernel
theorem dX9_trade_31 : decode cX9_trade 31 = .ok (.ireturn, 1) := by decide +kernel
theorem dX9_trade_32 : decode cX9_trade 32 = .ok (.aload_n 0, 1) := by decide +kernel
theorem dX9_trade_33 : decode cX9_trade 33 = .ok (.getfield 23, 3) := by decide +kernel
theorem dX9_trade_36 : decode cX9_trade 36 = .ok (.getfield 202, 3) := by decide +kernel
theorem dX9_trade_39 : decode cX9_trade 39 = .ok (.iload_n 1, 1) := by decide +kernel
theorem dX9_trade_40 : decode cX9_trade 40 = .ok (.aaload, 1) := by decide +kernel
theorem dX9_trade_41 : decode cX9_trade 41 = .ok (.astore 4, 2) := by decide +kernel
theorem dX9_trade_43 : decode cX9_trade 43 = .ok (.aload 4, 2) := by decide +kernel
theorem dX9_trade_45 : decode cX9_trade 45 = .ok (.getfield 129, 3) := by decide +kernel
theorem dX9_trade_48 : decode cX9_trade 48 = .ok (.ifCond .eq 6, 3) := by decide +kernel
theorem dX9_trade_51 : decode cX9_trade 51 = .ok (.bipush (-4), 2) := by decide +kernel
theorem dX9_trade_53 : decode cX9_trade 53 = .ok (.ireturn, 1) := by decide +kernel
theorem dX9_trade_54 : decode cX9_trade 54 = .ok (.aload 4, 2) := by decide +kernel
theorem dX9_trade_56 : decode cX9_trade 56 = .ok (.getfield 135, 3) := by decide +kernel
theorem dX9_trade_59 : decode cX9_trade 59 = .ok (.iload_n 2, 1) := by decide +kernel
theorem dX9_trade_60 : decode cX9_trade 60 = .ok (.iaload, 1) := by decide +kernel
theorem dX9_trade_61 : decode cX9_trade 61 = .ok (.iload_n 3, 1) := by decide +kernel
theorem dX9_trade_62 : decode cX9_trade 62 = .ok (.iadd, 1) := by decide +kernel
theorem dX9_trade_63 : decode cX9_trade 63 = .ok (.ldc_w 256, 3) := by decide +kernel
theorem dX9_trade_66 : decode cX9_trade 66 = .ok (.if_icmp .le 6, 3) := by decide +kernel
theorem dX9_trade_69 : decode cX9_trade 69 = .ok (.bipush (-3), 2) := by decide +kernel
theorem dX9_trade_71 : decode cX9_trade 71 = .ok (.ireturn, 1) := by decide +kernel
theorem dX9_trade_72 : decode cX9_trade 72 = .ok (.aload_n 0, 1) := by decide +kernel
theorem dX9_trade_73 : decode cX9_trade 73 = .ok (.getfield 37, 3) := by decide +kernel
theorem dX9_trade_76 : decode cX9_trade 76 = .ok (.aload_n 0, 1) := by decide +kernel
theorem dX9_trade_77 : decode cX9_trade 77 = .ok (.getfield 23, 3) := by decide +kernel
theorem dX9_trade_80 : decode cX9_trade 80 = .ok (.invokevirtual 257, 3) := by decide +kernel
theorem dX9_trade_83 : decode cX9_trade 83 = .ok (.aload 4, 2) := by decide +kernel
theorem dX9_trade_85 : decode cX9_trade 85 = .ok (.getfield 135, 3) := by decide +kernel
theorem dX9_trade_88 : decode cX9_trade 88 = .ok (.iload_n 2, 1) := by decide +kernel
theorem dX9_trade_89 : decode cX9_trade 89 = .ok (.dup2, 1) := by decide +kernel
theorem dX9_trade_90 : decode cX9_trade 90 = .ok (.iaload, 1) := by decide +kernel
theorem dX9_trade_91 : decode cX9_trade 91 = .ok (.iload_n 3, 1) := by decide +kernel
theorem dX9_trade_92 : decode cX9_trade 92 = .ok (.iadd, 1) := by decide +kernel
theorem dX9_trade_93 : decode cX9_trade 93 = .ok (.iastore, 1) := by decide +kernel
theorem dX9_trade_94 : decode cX9_trade 94 = .ok (.aload 4, 2) := by decide +kernel
theorem dX9_trade_96 : decode cX9_trade 96 = .ok (.getfield 135, 3) := by decide +kernel
theorem dX9_trade_99 : decode cX9_trade 99 = .ok (.iload_n 2, 1) := by decide +kernel
theorem dX9_trade_100 : decode cX9_trade 100 = .ok (.iaload, 1) := by decide +kernel
theorem dX9_trade_101 : decode cX9_trade 101 = .ok (.ireturn, 1) := by decide +kernel
theorem dX9_close_0 : decode cX9_close 0 = .ok (.aload_n 0, 1) := by decide +kernel
theorem dX9_close_1 : decode cX9_close 1 = .ok (.iload_n 1, 1) := by decide +kernel
theorem dX9_close_2 : decode cX9_close 2 = .ok (.iload_n 2, 1) := by decide +kernel
theorem dX9_close_3 : decode cX9_close 3 = .ok (.iload_n 3, 1) := by decide +kernel
theorem dX9_close_4 : decode cX9_close 4 = .ok (.iload 4, 2) := by decide +kernel
theorem dX9_close_6 : decode cX9_close 6 = .ok (.invokevirtual 260, 3) := by decide +kernel
theorem dX9_close_9 : decode cX9_close 9 = .ok (.ifCond .ne 6, 3) := by decide +kernel
theorem dX9_close_12 : decode cX9_close 12 = .ok (.bipush (-2), 2) := by decide +kernel
theorem dX9_close_14 : decode cX9_close 14 = .ok (.ireturn, 1) := by decide +kernel
theorem dX9_close_15 : decode cX9_close 15 = .ok (.aload_n 0, 1) := by decide +kernel
theorem dX9_close_16 : decode cX9_close 16 = .ok (.getfield 23, 3) := by decide +kernel
theorem dX9_close_19 : decode cX9_close 19 = .ok (.getfield 100, 3) := by decide +kernel
theorem dX9_close_22 : decode cX9_close 22 = .ok (.istore 5, 2) := by decide +kernel
theorem dX9_close_24 : decode cX9_close 24 = .ok (.iload 5, 2) := by decide +kernel
theorem dX9_close_26 : decode cX9_close 26 = .ok (.bipush 24, 2) := by decide +kernel
theorem dX9_close_28 : decode cX9_close 28 = .ok (.if_icmp .lt 6, 3) := by decide +kernel
theorem dX9_close_31 : decode cX9_close 31 = .ok (.bipush (-3), 2) := by decide +kernel
theorem dX9_close_33 : decode cX9_close 33 = .ok (.ireturn, 1) := by decide +kernel
theorem dX9_close_34 : decode cX9_close 34 = .ok (.aload_n 0, 1) := by decide +kernel
theorem dX9_close_35 : decode cX9_close 35 = .ok (.getfield 37, 3) := by decide +kernel
theorem dX9_close_38 : decode cX9_close 38 = .ok (.aload_n 0, 1) := by decide +kernel
theorem dX9_close_39 : decode cX9_close 39 = .ok (.getfield 23, 3) := by decide +kernel
theorem dX9_close_42 : decode cX9_close 42 = .ok (.invokevirtual 257, 3) := by decide +kernel
theorem dX9_close_45 : decode cX9_close 45 = .ok (.aload_n 0, 1) := by decide +kernel
theorem dX9_close_46 : decode cX9_close 46 = .ok (.getfield 41, 3) := by decide +kernel
theorem dX9_close_49 : decode cX9_close 49 = .ok (.aload_n 0, 1) := by decide +kernel
theorem dX9_close_50 : decode cX9_close 50 = .ok (.getfield 23, 3) := by decide +kernel
theorem dX9_close_53 : decode cX9_close 53 = .ok (.aload_n 0, 1) := by decide +kernel
theorem dX9_close_54 : decode cX9_close 54 = .ok (.getfield 30, 3) := by decide +kernel
theorem dX9_close_57 : decode cX9_close 57 = .ok (.invokevirtual 263, 3) := by decide +kernel
theorem dX9_close_60 : decode cX9_close 60 = .ok (.iload 5, 2) := by decide +kernel
theorem dX9_close_62 : decode cX9_close 62 = .ok (.ireturn, 1) := by decide +kernel
theorem dX9_redeem_0 : decode cX9_redeem 0 = .ok (.iload_n 1, 1) := by decide +kernel
theorem dX9_redeem_1 : decode cX9_redeem 1 = .ok (.invokestatic 209, 3) := by decide +kernel
theorem dX9_redeem_4 : decode cX9_redeem 4 = .ok (.ifCond .ne 6, 3) := by decide +kernel
theorem dX9_redeem_7 : decode cX9_redeem 7 = .ok (.bipush (-2), 2) := by decide +kernel
theorem dX9_redeem_9 : decode cX9_redeem 9 = .ok (.ireturn, 1) := by decide +kernel
theorem dX9_redeem_10 : decode cX9_redeem 10 = .ok (.aload_n 0, 1) := by decide +kernel
theorem dX9_redeem_11 : decode cX9_redeem 11 = .ok (.getfield 48, 3) := by decide +kernel
theorem dX9_redeem_14 : decode cX9_redeem 14 = .ok (.aload_n 0, 1) := by decide +kernel
theorem dX9_redeem_15 : decode cX9_redeem 15 = .ok (.getfield 23, 3) := by decide +kernel
theorem dX9_redeem_18 : decode cX9_redeem 18 = .ok (.iload_n 1, 1) := by decide +kernel
theorem dX9_redeem_19 : decode cX9_redeem 19 = .ok (.invokevirtual 212, 3) := by decide +kernel
theorem dX9_redeem_22 : decode cX9_redeem 22 = .ok (.istore_n 2, 1) := by decide +kernel
theorem dX9_redeem_23 : decode cX9_redeem 23 = .ok (.iload_n 2, 1) := by decide +kernel
theorem dX9_redeem_24 : decode cX9_redeem 24 = .ok (.ifCond .le 25, 3) := by decide +kernel
theorem dX9_redeem_27 : decode cX9_redeem 27 = .ok (.aload_n 0, 1) := by decide +kernel
theorem dX9_redeem_28 : decode cX9_redeem 28 = .ok (.getfield 37, 3) := by decide +kernel
theorem dX9_redeem_31 : decode cX9_redeem 31 = .ok (.aload_n 0, 1) := by decide +kernel
theorem dX9_redeem_32 : decode cX9_redeem 32 = .ok (.getfield 23, 3) := by decide +kernel
theorem dX9_redeem_35 : decode cX9_redeem 35 = .ok (.invokevirtual 257, 3) := by decide +kernel
theorem dX9_redeem_38 : decode cX9_redeem 38 = .ok (.aload_n 0, 1) := by decide +kernel
theorem dX9_redeem_39 : decode cX9_redeem 39 = .ok (.getfield 48, 3) := by decide +kernel
theorem dX9_redeem_42 : decode cX9_redeem 42 = .ok (.aload_n 0, 1) := by decide +kernel
theorem dX9_redeem_43 : decode cX9_redeem 43 = .ok (.getfield 23, 3) := by decide +kernel
theorem dX9_redeem_46 : decode cX9_redeem 46 = .ok (.invokevirtual 246, 3) := by decide +kernel
theorem dX9_redeem_49 : decode cX9_redeem 49 = .ok (.iload_n 2, 1) := by decide +kernel
theorem dX9_redeem_50 : decode cX9_redeem 50 = .ok (.ireturn, 1) := by decide +kernel
theorem dX9_leave_0 : decode cX9_leave 0 = .ok (.aload_n 0, 1) := by decide +kernel
theorem dX9_leave_1 : decode cX9_leave 1 = .ok (.iload_n 1, 1) := by decide +kernel
theorem dX9_leave_2 : decode cX9_leave 2 = .ok (.invokevirtual 249, 3) := by decide +kernel
theorem dX9_leave_5 : decode cX9_leave 5 = .ok (.ifCond .ne 5, 3) := by decide +kernel
theorem dX9_leave_8 : decode cX9_leave 8 = .ok (.iconst (-1), 1) := by decide +kernel
theorem dX9_leave_9 : decode cX9_leave 9 = .ok (.ireturn, 1) := by decide +kernel
theorem dX9_leave_10 : decode cX9_leave 10 = .ok (.aload_n 0, 1) := by decide +kernel
theorem dX9_leave_11 : decode cX9_leave 11 = .ok (.getfield 23, 3) := by decide +kernel
theorem dX9_leave_14 : decode cX9_leave 14 = .ok (.getfield 202, 3) := by decide +kernel
theorem dX9_leave_17 : decode cX9_leave 17 = .ok (.iload_n 1, 1) := by decide +kernel
theorem dX9_leave_18 : decode cX9_leave 18 = .ok (.aaload, 1) := by decide +kernel
theorem dX9_leave_19 : decode cX9_leave 19 = .ok (.astore_n 2, 1) := by decide +kernel
theorem dX9_leave_20 : decode cX9_leave 20 = .ok (.aload_n 2, 1) := by decide +kernel
theorem dX9_leave_21 : decode cX9_leave 21 = .ok (.getfield 129, 3) := by decide +kernel
theorem dX9_leave_24 : decode cX9_leave 24 = .ok (.ifCond .ne 10, 3) := by decide +kernel
theorem dX9_leave_27 : decode cX9_leave 27 = .ok (.aload_n 2, 1) := by decide +kernel
theorem dX9_leave_28 : decode cX9_leave 28 = .ok (.invokevirtual 266, 3) := by decide +kernel
theorem dX9_leave_31 : decode cX9_leave 31 = .ok (.ifCond .eq 6, 3) := by decide +kernel
theorem dX9_leave_34 : decode cX9_leave 34 = .ok (.bipush (-4), 2) := by decide +kernel
theorem dX9_leave_36 : decode cX9_leave 36 = .ok (.ireturn, 1) := by decide +kernel
theorem dX9_leave_37 : decode cX9_leave 37 = .ok (.aload_n 0, 1) := by decide +kernel
theorem dX9_leave_38 : decode cX9_leave 38 = .ok (.getfield 37, 3) := by decide +kernel
theorem dX9_leave_41 : decode cX9_leave 41 = .ok (.aload_n 0, 1) := by decide +kernel
theorem dX9_leave_42 : decode cX9_leave 42 = .ok (.getfield 23, 3) := by decide +kernel
theorem dX9_leave_45 : decode cX9_leave 45 = .ok (.invokevirtual 257, 3) := by decide +kernel
theorem dX9_leave_48 : decode cX9_leave 48 = .ok (.aload_n 2, 1) := by decide +kernel
theorem dX9_leave_49 : decode cX9_leave 49 = .ok (.aload_n 0, 1) := by decide +kernel
theorem dX9_leave_50 : decode cX9_leave 50 = .ok (.getfield 23, 3) := by decide +kernel
theorem dX9_leave_53 : decode cX9_leave 53 = .ok (.getfield 116, 3) := by decide +kernel
theorem dX9_leave_56 : decode cX9_leave 56 = .ok (.iconst 2, 1) := by decide +kernel
theorem dX9_leave_57 : decode cX9_leave 57 = .ok (.iaload, 1) := by decide +kernel
theorem dX9_leave_58 : decode cX9_leave 58 = .ok (.invokevirtual 269, 3) := by decide +kernel
theorem dX9_leave_61 : decode cX9_leave 61 = .ok (.aload_n 2, 1) := by decide +kernel
theorem dX9_leave_62 : decode cX9_leave 62 = .ok (.getfield 219, 3) := by decide +kernel
theorem dX9_leave_65 : decode cX9_leave 65 = .ok (.ireturn, 1) := by decide +kernel
theorem dX9_setConsent_0 : decode cX9_setConsent 0 = .ok (.aload_n 0, 1) := by decide +kernel
theorem dX9_setConsent_1 : decode cX9_setConsent 1 = .ok (.iload_n 1, 1) := by decide +kernel
theorem dX9_setConsent_2 : decode cX9_setConsent 2 = .ok (.invokevirtual 249, 3) := by decide +kernel
theorem dX9_setConsent_5 : decode cX9_setConsent 5 = .ok (.ifCond .ne 5, 3) := by decide +kernel
theorem dX9_setConsent_8 : decode cX9_setConsent 8 = .ok (.iconst (-1), 1) := by decide +kernel
theorem dX9_setConsent_9 : decode cX9_setConsent 9 = .ok (.ireturn, 1) := by decide +kernel
theorem dX9_setConsent_10 : decode cX9_setConsent 10 = .ok (.aload_n 0, 1) := by decide +kernel
theorem dX9_setConsent_11 : decode cX9_setConsent 11 = .ok (.getfield 37, 3) := by decide +kernel
theorem dX9_setConsent_14 : decode cX9_setConsent 14 = .ok (.aload_n 0, 1) := by decide +kernel
theorem dX9_setConsent_15 : decode cX9_setConsent 15 = .ok (.getfield 23, 3) := by decide +kernel
theorem dX9_setConsent_18 : decode cX9_setConsent 18 = .ok (.invokevirtual 257, 3) := by decide +kernel
theorem dX9_setConsent_21 : decode cX9_setConsent 21 = .ok (.aload_n 0, 1) := by decide +kernel
theorem dX9_setConsent_22 : decode cX9_setConsent 22 = .ok (.getfield 23, 3) := by decide +kernel
theorem dX9_setConsent_25 : decode cX9_setConsent 25 = .ok (.getfield 202, 3) := by decide +kernel
theorem dX9_setConsent_28 : decode cX9_setConsent 28 = .ok (.iload_n 1, 1) := by decide +kernel
theorem dX9_setConsent_29 : decode cX9_setConsent 29 = .ok (.aaload, 1) := by decide +kernel
theorem dX9_setConsent_30 : decode cX9_setConsent 30 = .ok (.iload_n 2, 1) := by decide +kernel
theorem dX9_setConsent_31 : decode cX9_setConsent 31 = .ok (.putfield 123, 3) := by decide +kernel
theorem dX9_setConsent_34 : decode cX9_setConsent 34 = .ok (.iconst 0, 1) := by decide +kernel
theorem dX9_setConsent_35 : decode cX9_setConsent 35 = .ok (.istore_n 3, 1) := by decide +kernel
theorem dX9_setConsent_36 : decode cX9_setConsent 36 = .ok (.iconst 0, 1) := by decide +kernel
theorem dX9_setConsent_37 : decode cX9_setConsent 37 = .ok (.istore 4, 2) := by decide +kernel
theorem dX9_setConsent_39 : decode cX9_setConsent 39 = .ok (.iload 4, 2) := by decide +kernel
theorem dX9_setConsent_41 : decode cX9_setConsent 41 = .ok (.aload_n 0, 1) := by decide +kernel
theorem dX9_setConsent_42 : decode cX9_setConsent 42 = .ok (.getfield 23, 3) := by decide +kernel
theorem dX9_setConsent_45 : decode cX9_setConsent 45 = .ok (.getfield 94, 3) := by decide +kernel
theorem dX9_setConsent_48 : decode cX9_setConsent 48 = .ok (.if_icmp .ge 28, 3) := by decide +kernel
theorem dX9_setConsent_51 : decode cX9_setConsent 51 = .ok (.aload_n 0, 1) := by decide +kernel
theorem dX9_setConsent_52 : decode cX9_setConsent 52 = .ok (.getfield 23, 3) := by decide +kernel
theorem dX9_setConsent_55 : decode cX9_setConsent 55 = .ok (.getfield 202, 3) := by decide +kernel
theorem dX9_setConsent_58 : decode cX9_setConsent 58 = .ok (.iload 4, 2) := by decide +kernel
theorem dX9_setConsent_60 : decode cX9_setConsent 60 = .ok (.aaload, 1) := by decide +kernel
theorem dX9_setConsent_61 : decode cX9_setConsent 61 = .ok (.getfield 123, 3) := by decide +kernel
theorem dX9_setConsent_64 : decode cX9_setConsent 64 = .ok (.ifCond .eq 6, 3) := by decide +kernel
theorem dX9_setConsent_67 : decode cX9_setConsent 67 = .ok (.iinc 3 1, 3) := by decide +kernel
theorem dX9_setConsent_70 : decode cX9_setConsent 70 = .ok (.iinc 4 1, 3) := by decide +kernel
theorem dX9_setConsent_73 : decode cX9_setConsent 73 = .ok (.goto (-34), 3) := by decide +kernel
theorem dX9_setConsent_76 : decode cX9_setConsent 76 = .ok (.iload_n 3, 1) := by decide +kernel
theorem dX9_setConsent_77 : decode cX9_setConsent 77 = .ok (.ireturn, 1) := by decide +kernel
theorem dX9_setSetting_0 : decode cX9_setSetting 0 = .ok (.iload_n 1, 1) := by decide +kernel
theorem dX9_setSetting_1 : decode cX9_setSetting 1 = .ok (.invokestatic 112, 3) := by decide +kernel
theorem dX9_setSetting_4 : decode cX9_setSetting 4 = .ok (.ifCond .eq 11, 3) := by decide +kernel
theorem dX9_setSetting_7 : decode cX9_setSetting 7 = .ok (.iload_n 1, 1) := by decide +kernel
theorem dX9_setSetting_8 : decode cX9_setSetting 8 = .ok (.iload_n 2, 1) := by decide +kernel
theorem dX9_setSetting_9 : decode cX9_setSetting 9 = .ok (.invokestatic 272, 3) := by decide +kernel
theorem dX9_setSetting_12 : decode cX9_setSetting 12 = .ok (.ifCond .ne 6, 3) := by decide +kernel
theorem dX9_setSetting_15 : decode cX9_setSetting 15 = .ok (.bipush (-2), 2) := by decide +kernel
theorem dX9_setSetting_17 : decode cX9_setSetting 17 = .ok (.ireturn, 1) := by decide +kernel
theorem dX9_setSetting_18 : decode cX9_setSetting 18 = .ok (.aload_n 0, 1) := by decide +kernel
theorem dX9_setSetting_19 : decode cX9_setSetting 19 = .ok (.getfield 37, 3) := by decide +kernel
theorem dX9_setSetting_22 : decode cX9_setSetting 22 = .ok (.aload_n 0, 1) := by decide +kernel
theorem dX9_setSetting_23 : decode cX9_setSetting 23 = .ok (.getfield 23, 3) := by decide +kernel
theorem dX9_setSetting_26 : decode cX9_setSetting 26 = .ok (.invokevirtual 257, 3) := by decide +kernel
theorem dX9_setSetting_29 : decode cX9_setSetting 29 = .ok (.aload_n 0, 1) := by decide +kernel
theorem dX9_setSetting_30 : decode cX9_setSetting 30 = .ok (.getfield 23, 3) := by decide +kernel
theorem dX9_setSetting_33 : decode cX9_setSetting 33 = .ok (.getfield 116, 3) := by decide +kernel
theorem dX9_setSetting_36 : decode cX9_setSetting 36 = .ok (.iload_n 1, 1) := by decide +kernel
theorem dX9_setSetting_37 : decode cX9_setSetting 37 = .ok (.iaload, 1) := by decide +kernel
theorem dX9_setSetting_38 : decode cX9_setSetting 38 = .ok (.istore_n 3, 1) := by decide +kernel
theorem dX9_setSetting_39 : decode cX9_setSetting 39 = .ok (.aload_n 0, 1) := by decide +kernel
theorem dX9_setSetting_40 : decode cX9_setSetting 40 = .ok (.getfield 23, 3) := by decide +kernel
theorem dX9_setSetting_43 : decode cX9_setSetting 43 = .ok (.getfield 116, 3) := by decide +kernel
theorem dX9_setSetting_46 : decode cX9_setSetting 46 = .ok (.iload_n 1, 1) := by decide +kernel
theorem dX9_setSetting_47 : decode cX9_setSetting 47 = .ok (.iload_n 2, 1) := by decide +kernel
theorem dX9_setSetting_48 : decode cX9_setSetting 48 = .ok (.iastore, 1) := by decide +kernel
theorem dX9_setSetting_49 : decode cX9_setSetting 49 = .ok (.iload_n 3, 1) := by decide +kernel
theorem dX9_setSetting_50 : decode cX9_setSetting 50 = .ok (.ireturn, 1) := by decide +kernel
theorem dX9_undo_0 : decode cX9_undo 0 = .ok (.aload_n 0, 1) := by decide +kernel
theorem dX9_undo_1 : decode cX9_undo 1 = .ok (.getfield 37, 3) := by decide +kernel
theorem dX9_undo_4 : decode cX9_undo 4 = .ok (.aload_n 0, 1) := by decide +kernel
theorem dX9_undo_5 : decode cX9_undo 5 = .ok (.getfield 23, 3) := by decide +kernel
theorem dX9_undo_8 : decode cX9_undo 8 = .ok (.invokevirtual 276, 3) := by decide +kernel
theorem dX9_undo_11 : decode cX9_undo 11 = .ok (.ifCond .eq 13, 3) := by decide +kernel
theorem dX9_undo_14 : decode cX9_undo 14 = .ok (.aload_n 0, 1) := by decide +kernel
theorem dX9_undo_15 : decode cX9_undo 15 = .ok (.getfield 37, 3) := by decide +kernel
theorem dX9_undo_18 : decode cX9_undo 18 = .ok (.getfield 103, 3) := by decide +kernel
theorem dX9_undo_21 : decode cX9_undo 21 = .ok (.goto 4, 3) := by decide +kernel
theorem dX9_undo_24 : decode cX9_undo 24 = .ok (.iconst (-1), 1) := by decide +kernel
theorem dX9_undo_25 : decode cX9_undo 25 = .ok (.ireturn, 1) := by decide +kernel
theorem dX9_isMember_0 : decode cX9_isMember 0 = .ok (.iload_n 1, 1) := by decide +kernel
theorem dX9_isMember_1 : decode cX9_isMember 1 = .ok (.ifCond .lt 18, 3) := by decide +kernel
theorem dX9_isMember_4 : decode cX9_isMember 4 = .ok (.iload_n 1, 1) := by decide +kernel
theorem dX9_isMember_5 : decode cX9_isMember 5 = .ok (.aload_n 0, 1) := by decide +kernel
theorem dX9_isMember_6 : decode cX9_isMember 6 = .ok (.getfield 23, 3) := by decide +kernel
theorem dX9_isMember_9 : decode cX9_isMember 9 = .ok (.getfield 94, 3) := by decide +kernel
theorem dX9_isMember_12 : decode cX9_isMember 12 = .ok (.if_icmp .ge 7, 3) := by decide +kernel
theorem dX9_isMember_15 : decode cX9_isMember 15 = .ok (.iconst 1, 1) := by decide +kernel
theorem dX9_isMember_16 : decode cX9_isMember 16 = .ok (.goto 4, 3) := by decide +kernel
theorem dX9_isMember_19 : decode cX9_isMember 19 = .ok (.iconst 0, 1) := by decide +kernel
theorem dX9_isMember_20 : decode cX9_isMember 20 = .ok (.ireturn, 1) := by decide +kernel
theorem dX9_isDepartment_0 : decode cX9_isDepartment 0 = .ok (.iload_n 1, 1) := by decide +kernel
theorem dX9_isDepartment_1 : decode cX9_isDepartment 1 = .ok (.ifCond .lt 18, 3) := by decide +kernel
theorem dX9_isDepartment_4 : decode cX9_isDepartment 4 = .ok (.iload_n 1, 1) := by decide +kernel
theorem dX9_isDepartment_5 : decode cX9_isDepartment 5 = .ok (.aload_n 0, 1) := by decide +kernel
theorem dX9_isDepartment_6 : decode cX9_isDepartment 6 = .ok (.getfield 23, 3) := by decide +kernel
theorem dX9_isDepartment_9 : decode cX9_isDepartment 9 = .ok (.getfield 97, 3) := by decide +kernel
theorem dX9_isDepartment_12 : decode cX9_isDepartment 12 = .ok (.if_icmp .ge 7, 3) := by decide +kernel
theorem dX9_isDepartment_15 : decode cX9_isDepartment 15 = .ok (.iconst 1, 1) := by decide +kernel
theorem dX9_isDepartment_16 : decode cX9_isDepartment 16 = .ok (.goto 4, 3) := by decide +kernel
theorem dX9_isDepartment_19 : decode cX9_isDepartment 19 = .ok (.iconst 0, 1) := by decide +kernel
theorem dX9_isDepartment_20 : decode cX9_isDepartment 20 = .ok (.ireturn, 1) := by decide +kernel
theorem dX9_isClosed_0 : decode cX9_isClosed 0 = .ok (.iload_n 1, 1) := by decide +kernel
theorem dX9_isClosed_1 : decode cX9_isClosed 1 = .ok (.ifCond .lt 18, 3) := by decide +kernel
theorem dX9_isClosed_4 : decode cX9_isClosed 4 = .ok (.iload_n 1, 1) := by decide +kernel
theorem dX9_isClosed_5 : decode cX9_isClosed 5 = .ok (.aload_n 0, 1) := by decide +kernel
theorem dX9_isClosed_6 : decode cX9_isClosed 6 = .ok (.getfield 23, 3) := by decide +kernel
theorem dX9_isClosed_9 : decode cX9_isClosed 9 = .ok (.getfield 100, 3) := by decide +kernel
theorem dX9_isClosed_12 : decode cX9_isClosed 12 = .ok (.if_icmp .ge 7, 3) := by decide +kernel
theorem dX9_isClosed_15 : decode cX9_isClosed 15 = .ok (.iconst 1, 1) := by decide +kernel
theorem dX9_isClosed_16 : decode cX9_isClosed 16 = .ok (.goto 4, 3) := by decide +kernel
theorem dX9_isClosed_19 : decode cX9_isClosed 19 = .ok (.iconst 0, 1) := by decide +kernel
theorem dX9_isClosed_20 : decode cX9_isClosed 20 = .ok (.ireturn, 1) := by decide +kernel
theorem dX9_isBudget_0 : decode cX9_isBudget 0 = .ok (.iload_n 0, 1) := by decide +kernel
theorem dX9_isBudget_1 : decode cX9_isBudget 1 = .ok (.ifCond .lt 14, 3) := by decide +kernel
theorem dX9_isBudget_4 : decode cX9_isBudget 4 = .ok (.iload_n 0, 1) := by decide +kernel
theorem dX9_isBudget_5 : decode cX9_isBudget 5 = .ok (.ldc_w 280, 3) := by decide +kernel
theorem dX9_isBudget_8 : decode cX9_isBudget 8 = .ok (.if_icmp .gt 7, 3) := by decide +kernel
theorem dX9_isBudget_11 : decode cX9_isBudget 11 = .ok (.iconst 1, 1) := by decide +kernel
theorem dX9_isBudget_12 : decode cX9_isBudget 12 = .ok (.goto 4, 3) := by decide +kernel
theorem dX9_isBudget_15 : decode cX9_isBudget 15 = .ok (.iconst 0, 1) := by decide +kernel
theorem dX9_isBudget_16 : decode cX9_isBudget 16 = .ok (.ireturn, 1) := by decide +kernel
theorem dX9_isSetting_0 : decode cX9_isSetting 0 = .ok (.iload_n 0, 1) := by decide +kernel
theorem dX9_isSetting_1 : decode cX9_isSetting 1 = .ok (.ifCond .lt 12, 3) := by decide +kernel
theorem dX9_isSetting_4 : decode cX9_isSetting 4 = .ok (.iload_n 0, 1) := by decide +kernel
theorem dX9_isSetting_5 : decode cX9_isSetting 5 = .ok (.iconst 5, 1) := by decide +kernel
theorem dX9_isSetting_6 : decode cX9_isSetting 6 = .ok (.if_icmp .ge 7, 3) := by decide +kernel
theorem dX9_isSetting_9 : decode cX9_isSetting 9 = .ok (.iconst 1, 1) := by decide +kernel
theorem dX9_isSetting_10 : decode cX9_isSetting 10 = .ok (.goto 4, 3) := by decide +kernel
theorem dX9_isSetting_13 : decode cX9_isSetting 13 = .ok (.iconst 0, 1) := by decide +kernel
theorem dX9_isSetting_14 : decode cX9_isSetting 14 = .ok (.ireturn, 1) := by decide +kernel
theorem dX9_isInRange_0 : decode cX9_isInRange 0 = .ok (.iload_n 1, 1) := by decide +kernel
theorem dX9_isInRange_1 : decode cX9_isInRange 1 = .ok (.getstatic 281, 3) := by decide +kernel
theorem dX9_isInRange_4 : decode cX9_isInRange 4 = .ok (.iload_n 0, 1) := by decide +kernel
theorem dX9_isInRange_5 : decode cX9_isInRange 5 = .ok (.iaload, 1) := by decide +kernel
theorem dX9_isInRange_6 : decode cX9_isInRange 6 = .ok (.if_icmp .lt 16, 3) := by decide +kernel
theorem dX9_isInRange_9 : decode cX9_isInRange 9 = .ok (.iload_n 1, 1) := by decide +kernel
theorem dX9_isInRange_10 : decode cX9_isInRange 10 = .ok (.getstatic 284, 3) := by decide +kernel
theorem dX9_isInRange_13 : decode cX9_isInRange 13 = .ok (.iload_n 0, 1) := by decide +kernel
theorem dX9_isInRange_14 : decode cX9_isInRange 14 = .ok (.iaload, 1) := by decide +kernel
theorem dX9_isInRange_15 : decode cX9_isInRange 15 = .ok (.if_icmp .gt 7, 3) := by decide +kernel
theorem dX9_isInRange_18 : decode cX9_isInRange 18 = .ok (.iconst 1, 1) := by decide +kernel
theorem dX9_isInRange_19 : decode cX9_isInRange 19 = .ok (.goto 4, 3) := by decide +kernel
theorem dX9_isInRange_22 : decode cX9_isInRange 22 = .ok (.iconst 0, 1) := by decide +kernel
theorem dX9_isInRange_23 : decode cX9_isInRange 23 = .ok (.ireturn, 1) := by decide +kernel
theorem dX9_checkMember_0 : decode cX9_checkMember 0 = .ok (.aload_n 0, 1) := by decide +kernel
theorem dX9_checkMember_1 : decode cX9_checkMember 1 = .ok (.iload_n 1, 1) := by decide +kernel
theorem dX9_checkMember_2 : decode cX9_checkMember 2 = .ok (.invokevirtual 249, 3) := by decide +kernel
theorem dX9_checkMember_5 : decode cX9_checkMember 5 = .ok (.ifCond .ne 14, 3) := by decide +kernel
theorem dX9_checkMember_8 : decode cX9_checkMember 8 = .ok (.new 287, 3) := by decide +kernel
theorem dX9_checkMember_11 : decode cX9_checkMember 11 = .ok (.dup, 1) := by decide +kernel
theorem dX9_checkMember_12 : decode cX9_checkMember 12 = .ok (.ldc_w 289, 3) := by decide +kernel
theorem dX9_checkMember_15 : decode cX9_checkMember 15 = .ok (.invokespecial 291, 3) := by decide +kernel
theorem dX9_checkMember_18 : decode cX9_checkMember 18 = .ok (.athrow, 1) := by decide +kernel
theorem dX9_checkMember_19 : decode cX9_checkMember 19 = .ok (.return_, 1) := by decide +kernel
theorem dX9_checkDepartment_0 : decode cX9_checkDepartment 0 = .ok (.aload_n 0, 1) := by decide +kernel
theorem dX9_checkDepartment_1 : decode cX9_checkDepartment 1 = .ok (.iload_n 1, 1) := by decide +kernel
theorem dX9_checkDepartment_2 : decode cX9_checkDepartment 2 = .ok (.invokevirtual 252, 3) := by decide +kernel
theorem dX9_checkDepartment_5 : decode cX9_checkDepartment 5 = .ok (.ifCond .ne 14, 3) := by decide +kernel
theorem dX9_checkDepartment_8 : decode cX9_checkDepartment 8 = .ok (.new 287, 3) := by decide +kernel
theorem dX9_checkDepartment_11 : decode cX9_checkDepartment 11 = .ok (.dup, 1) := by decide +kernel
theorem dX9_checkDepartment_12 : decode cX9_checkDepartment 12 = .ok (.ldc_w 294, 3) := by decide +kernel
theorem dX9_checkDepartment_15 : decode cX9_checkDepartment 15 = .ok (.invokespecial 291, 3) := by decide +kernel
theorem dX9_checkDepartment_18 : decode cX9_checkDepartment 18 = .ok (.athrow, 1) := by decide +kernel
theorem dX9_checkDepartment_19 : decode cX9_checkDepartment 19 = .ok (.return_, 1) := by decide +kernel
theorem dX9_memberAt_0 : decode cX9_memberAt 0 = .ok (.aload_n 0, 1) := by decide +kernel
theorem dX9_memberAt_1 : decode cX9_memberAt 1 = .ok (.iload_n 1, 1) := by decide +kernel
theorem dX9_memberAt_2 : decode cX9_memberAt 2 = .ok (.invokevirtual 194, 3) := by decide +kernel
theorem dX9_memberAt_5 : decode cX9_memberAt 5 = .ok (.aload_n 0, 1) := by decide +kernel
theorem dX9_memberAt_6 : decode cX9_memberAt 6 = .ok (.getfield 23, 3) := by decide +kernel
theorem dX9_memberAt_9 : decode cX9_memberAt 9 = .ok (.getfield 202, 3) := by decide +kernel
theorem dX9_memberAt_12 : decode cX9_memberAt 12 = .ok (.iload_n 1, 1) := by decide +kernel
theorem dX9_memberAt_13 : decode cX9_memberAt 13 = .ok (.aaload, 1) := by decide +kernel
theorem dX9_memberAt_14 : decode cX9_memberAt 14 = .ok (.areturn, 1) := by decide +kernel
theorem dX9_takeResults_0 : decode cX9_takeResults 0 = .ok (.aload_n 0, 1) := by decide +kernel
theorem dX9_takeResults_1 : decode cX9_takeResults 1 = .ok (.getfield 30, 3) := by decide +kernel
theorem dX9_takeResults_4 : decode cX9_takeResults 4 = .ok (.iconst 0, 1) := by decide +kernel
theorem dX9_takeResults_5 : decode cX9_takeResults 5 = .ok (.iload_n 1, 1) := by decide +kernel
theorem dX9_takeResults_6 : decode cX9_takeResults 6 = .ok (.iastore, 1) := by decide +kernel
theorem dX9_takeResults_7 : decode cX9_takeResults 7 = .ok (.aload_n 0, 1) := by decide +kernel
theorem dX9_takeResults_8 : decode cX9_takeResults 8 = .ok (.getfield 30, 3) := by decide +kernel
theorem dX9_takeResults_11 : decode cX9_takeResults 11 = .ok (.iconst 1, 1) := by decide +kernel
theorem dX9_takeResults_12 : decode cX9_takeResults 12 = .ok (.iload_n 2, 1) := by decide +kernel
theorem dX9_takeResults_13 : decode cX9_takeResults 13 = .ok (.iastore, 1) := by decide +kernel
theorem dX9_takeResults_14 : decode cX9_takeResults 14 = .ok (.aload_n 0, 1) := by decide +kernel
theorem dX9_takeResults_15 : decode cX9_takeResults 15 = .ok (.getfield 30, 3) := by decide +kernel
theorem dX9_takeResults_18 : decode cX9_takeResults 18 = .ok (.iconst 2, 1) := by decide +kernel
theorem dX9_takeResults_19 : decode cX9_takeResults 19 = .ok (.iload_n 3, 1) := by decide +kernel
theorem dX9_takeResults_20 : decode cX9_takeResults 20 = .ok (.iastore, 1) := by decide +kernel
theorem dX9_takeResults_21 : decode cX9_takeResults 21 = .ok (.aload_n 0, 1) := by decide +kernel
theorem dX9_takeResults_22 : decode cX9_takeResults 22 = .ok (.getfield 30, 3) := by decide +kernel
theorem dX9_takeResults_25 : decode cX9_takeResults 25 = .ok (.iconst 3, 1) := by decide +kernel
theorem dX9_takeResults_26 : decode cX9_takeResults 26 = .ok (.iload 4, 2) := by decide +kernel
theorem dX9_takeResults_28 : decode cX9_takeResults 28 = .ok (.iastore, 1) := by decide +kernel
theorem dX9_takeResults_29 : decode cX9_takeResults 29 = .ok (.iconst 0, 1) := by decide +kernel
theorem dX9_takeResults_30 : decode cX9_takeResults 30 = .ok (.istore 5, 2) := by decide +kernel
theorem dX9_takeResults_32 : decode cX9_takeResults 32 = .ok (.iload 5, 2) := by decide +kernel
theorem dX9_takeResults_34 : decode cX9_takeResults 34 = .ok (.iconst 4, 1) := by decide +kernel
theorem dX9_takeResults_35 : decode cX9_takeResults 35 = .ok (.if_icmp .ge 57, 3) := by decide +kernel
theorem dX9_takeResults_38 : decode cX9_takeResults 38 = .ok (.iload 5, 2) := by decide +kernel
theorem dX9_takeResults_40 : decode cX9_takeResults 40 = .ok (.aload_n 0, 1) := by decide +kernel
theorem dX9_takeResults_41 : decode cX9_takeResults 41 = .ok (.getfield 23, 3) := by decide +kernel
theorem dX9_takeResults_44 : decode cX9_takeResults 44 = .ok (.getfield 97, 3) := by decide +kernel
theorem dX9_takeResults_47 : decode cX9_takeResults 47 = .ok (.if_icmp .ge 9, 3) := by decide +kernel
theorem dX9_takeResults_50 : decode cX9_takeResults 50 = .ok (.ldc_w 256, 3) := by decide +kernel
theorem dX9_takeResults_53 : decode cX9_takeResults 53 = .ok (.goto 4, 3) := by decide +kernel
theorem dX9_takeResults_56 : decode cX9_takeResults 56 = .ok (.iconst 0, 1) := by decide +kernel
theorem dX9_takeResults_57 : decode cX9_takeResults 57 = .ok (.istore 6, 2) := by decide +kernel
theorem dX9_takeResults_59 : decode cX9_takeResults 59 = .ok (.aload_n 0, 1) := by decide +kernel
theorem dX9_takeResults_60 : decode cX9_takeResults 60 = .ok (.getfield 30, 3) := by decide +kernel
theorem dX9_takeResults_63 : decode cX9_takeResults 63 = .ok (.iload 5, 2) := by decide +kernel
theorem dX9_takeResults_65 : decode cX9_takeResults 65 = .ok (.iaload, 1) := by decide +kernel
theorem dX9_takeResults_66 : decode cX9_takeResults 66 = .ok (.iload 6, 2) := by decide +kernel
theorem dX9_takeResults_68 : decode cX9_takeResults 68 = .ok (.ineg, 1) := by decide +kernel
theorem dX9_takeResults_69 : decode cX9_takeResults 69 = .ok (.if_icmp .lt 15, 3) := by decide +kernel
theorem dX9_takeResults_72 : decode cX9_takeResults 72 = .ok (.aload_n 0, 1) := by decide +kernel
theorem dX9_takeResults_73 : decode cX9_takeResults 73 = .ok (.getfield 30, 3) := by decide +kernel
theorem dX9_takeResults_76 : decode cX9_takeResults 76 = .ok (.iload 5, 2) := by decide +kernel
theorem dX9_takeResults_78 : decode cX9_takeResults 78 = .ok (.iaload, 1) := by decide +kernel
theorem dX9_takeResults_79 : decode cX9_takeResults 79 = .ok (.iload 6, 2) := by decide +kernel
theorem dX9_takeResults_81 : decode cX9_takeResults 81 = .ok (.if_icmp .le 5, 3) := by decide +kernel
theorem dX9_takeResults_84 : decode cX9_takeResults 84 = .ok (.iconst 0, 1) := by decide +kernel
theorem dX9_takeResults_85 : decode cX9_takeResults 85 = .ok (.ireturn, 1) := by decide +kernel
theorem dX9_takeResults_86 : decode cX9_takeResults 86 = .ok (.iinc 5 1, 3) := by decide +kernel
theorem dX9_takeResults_89 : decode cX9_takeResults 89 = .ok (.goto (-57), 3) := by decide +kernel
theorem dX9_takeResults_92 : decode cX9_takeResults 92 = .ok (.iconst 1, 1) := by decide +kernel
theorem dX9_takeResults_93 : decode cX9_takeResults 93 = .ok (.ireturn, 1) := by decide +kernel
theorem dX9_tryClosing_0 : decode cX9_tryClosing 0 = .ok (.aload_n 0, 1) := by decide +kernel
theorem dX9_tryClosing_1 : decode cX9_tryClosing 1 = .ok (.iload_n 1, 1) := by decide +kernel
theorem dX9_tryClosing_2 : decode cX9_tryClosing 2 = .ok (.iload_n 2, 1) := by decide +kernel
theorem dX9_tryClosing_3 : decode cX9_tryClosing 3 = .ok (.iload_n 3, 1) := by decide +kernel
theorem dX9_tryClosing_4 : decode cX9_tryClosing 4 = .ok (.iload 4, 2) := by decide +kernel
theorem dX9_tryClosing_6 : decode cX9_tryClosing 6 = .ok (.invokevirtual 260, 3) := by decide +kernel
theorem dX9_tryClosing_9 : decode cX9_tryClosing 9 = .ok (.ifCond .ne 5, 3) := by decide +kernel
theorem dX9_tryClosing_12 : decode cX9_tryClosing 12 = .ok (.iconst 0, 1) := by decide +kernel
theorem dX9_tryClosing_13 : decode cX9_tryClosing 13 = .ok (.ireturn, 1) := by decide +kernel
theorem dX9_tryClosing_14 : decode cX9_tryClosing 14 = .ok (.aload_n 0, 1) := by decide +kernel
theorem dX9_tryClosing_15 : decode cX9_tryClosing 15 = .ok (.getfield 27, 3) := by decide +kernel
theorem dX9_tryClosing_18 : decode cX9_tryClosing 18 = .ok (.aload_n 0, 1) := by decide +kernel
theorem dX9_tryClosing_19 : decode cX9_tryClosing 19 = .ok (.getfield 23, 3) := by decide +kernel
theorem dX9_tryClosing_22 : decode cX9_tryClosing 22 = .ok (.invokevirtual 87, 3) := by decide +kernel
theorem dX9_tryClosing_25 : decode cX9_tryClosing 25 = .ok (.aload_n 0, 1) := by decide +kernel
theorem dX9_tryClosing_26 : decode cX9_tryClosing 26 = .ok (.getfield 41, 3) := by decide +kernel
theorem dX9_tryClosing_29 : decode cX9_tryClosing 29 = .ok (.aload_n 0, 1) := by decide +kernel
theorem dX9_tryClosing_30 : decode cX9_tryClosing 30 = .ok (.getfield 27, 3) := by decide +kernel
theorem dX9_tryClosing_33 : decode cX9_tryClosing 33 = .ok (.aload_n 0, 1) := by decide +kernel
theorem dX9_tryClosing_34 : decode cX9_tryClosing 34 = .ok (.getfield 30, 3) := by decide +kernel
theorem dX9_tryClosing_37 : decode cX9_tryClosing 37 = .ok (.invokevirtual 263, 3) := by decide +kernel
theorem dX9_tryClosing_40 : decode cX9_tryClosing 40 = .ok (.iconst 1, 1) := by decide +kernel
theorem dX9_tryClosing_41 : decode cX9_tryClosing 41 = .ok (.ireturn, 1) := by decide +kernel
