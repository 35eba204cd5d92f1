theorem dX6_init_0 : decode cX6_init 0 = .ok (.aload_n 0, 1) := by decide +kernel
theorem dX6_init_1 : decode cX6_init 1 = .ok (.invokespecial 3, 3) := by decide +kernel
theorem dX6_init_4 : decode cX6_init 4 = .ok (.aload_n 0, 1) := by decide +kernel
theorem dX6_init_5 : decode cX6_init 5 = .ok (.sipush 200, 3) := by decide +kernel
theorem dX6_init_8 : decode cX6_init 8 = .ok (.newarray .int, 2) := by decide +kernel
theorem dX6_init_10 : decode cX6_init 10 = .ok (.putfield 9, 3) := by decide +kernel
theorem dX6_init_13 : decode cX6_init 13 = .ok (.aload_n 0, 1) := by decide +kernel
theorem dX6_init_14 : decode cX6_init 14 = .ok (.sipush 200, 3) := by decide +kernel
theorem dX6_init_17 : decode cX6_init 17 = .ok (.newarray .int, 2) := by decide +kernel
theorem dX6_init_19 : decode cX6_init 19 = .ok (.putfield 15, 3) := by decide +kernel
theorem dX6_init_22 : decode cX6_init 22 = .ok (.aload_n 0, 1) := by decide +kernel
theorem dX6_init_23 : decode cX6_init 23 = .ok (.sipush 200, 3) := by decide +kernel
theorem dX6_init_26 : decode cX6_init 26 = .ok (.newarray .int, 2) := by decide +kernel
theorem dX6_init_28 : decode cX6_init 28 = .ok (.putfield 18, 3) := by decide +kernel
theorem dX6_init_31 : decode cX6_init 31 = .ok (.aload_n 0, 1) := by decide +kernel
theorem dX6_init_32 : decode cX6_init 32 = .ok (.sipush 200, 3) := by decide +kernel
theorem dX6_init_35 : decode cX6_init 35 = .ok (.newarray .int, 2) := by decide +kernel
theorem dX6_init_37 : decode cX6_init 37 = .ok (.putfield 21, 3) := by decide +kernel
theorem dX6_init_40 : decode cX6_init 40 = .ok (.aload_n 0, 1) := by decide +kernel
theorem dX6_init_41 : decode cX6_init 41 = .ok (.aload_n 1, 1) := by decide +kernel
theorem dX6_init_42 : decode cX6_init 42 = .ok (.putfield 24, 3) := by decide +kernel
theorem dX6_init_45 : decode cX6_init 45 = .ok (.return_, 1) := by decide +kernel
theorem dX6_plan_0 : decode cX6_plan 0 = .ok (.aload_n 0, 1) := by decide +kernel
theorem dX6_plan_1 : decode cX6_plan 1 = .ok (.aload_n 1, 1) := by decide +kernel
theorem dX6_plan_2 : decode cX6_plan 2 = .ok (.invokevirtual 28, 3) := by decide +kernel
theorem dX6_plan_5 : decode cX6_plan 5 = .ok (.istore_n 3, 1) := by decide +kernel
theorem dX6_plan_6 : decode cX6_plan 6 = .ok (.iload_n 2, 1) := by decide +kernel
theorem dX6_plan_7 : decode cX6_plan 7 = .ok (.iload_n 3, 1) := by decide +kernel
theorem dX6_plan_8 : decode cX6_plan 8 = .ok (.if_icmp .lt 22, 3) := by decide +kernel
theorem dX6_plan_11 : decode cX6_plan 11 = .ok (.aload_n 0, 1) := by decide +kernel
theorem dX6_plan_12 : decode cX6_plan 12 = .ok (.getfield 18, 3) := by decide +kernel
theorem dX6_plan_15 : decode cX6_plan 15 = .ok (.iconst 0, 1) := by decide +kernel
theorem dX6_plan_16 : decode cX6_plan 16 = .ok (.aload_n 0, 1) := by decide +kernel
theorem dX6_plan_17 : decode cX6_plan 17 = .ok (.getfield 21, 3) := by decide +kernel
theorem dX6_plan_20 : decode cX6_plan 20 = .ok (.iconst 0, 1) := by decide +kernel
theorem dX6_plan_21 : decode cX6_plan 21 = .ok (.aload_n 0, 1) := by decide +kernel
theorem dX6_plan_22 : decode cX6_plan 22 = .ok (.getfield 32, 3) := by decide +kernel
theorem dX6_plan_25 : decode cX6_plan 25 = .ok (.invokestatic 36, 3) := by decide +kernel
theorem dX6_plan_28 : decode cX6_plan 28 = .ok (.iload_n 3, 1) := by decide +kernel
theorem dX6_plan_29 : decode cX6_plan 29 = .ok (.ireturn, 1) := by decide +kernel
theorem dX6_plan_30 : decode cX6_plan 30 = .ok (.aload_n 1, 1) := by decide +kernel
theorem dX6_plan_31 : decode cX6_plan 31 = .ok (.getfield 42, 3) := by decide +kernel
theorem dX6_plan_34 : decode cX6_plan 34 = .ok (.iconst 4, 1) := by decide +kernel
theorem dX6_plan_35 : decode cX6_plan 35 = .ok (.iaload, 1) := by decide +kernel
theorem dX6_plan_36 : decode cX6_plan 36 = .ok (.istore 4, 2) := by decide +kernel
theorem dX6_plan_38 : decode cX6_plan 38 = .ok (.iload 4, 2) := by decide +kernel
theorem dX6_plan_40 : decode cX6_plan 40 = .ok (.ifCond .ne 11, 3) := by decide +kernel
theorem dX6_plan_43 : decode cX6_plan 43 = .ok (.aload_n 0, 1) := by decide +kernel
theorem dX6_plan_44 : decode cX6_plan 44 = .ok (.iload_n 2, 1) := by decide +kernel
theorem dX6_plan_45 : decode cX6_plan 45 = .ok (.invokevirtual 47, 3) := by decide +kernel
theorem dX6_plan_48 : decode cX6_plan 48 = .ok (.goto 27, 3) := by decide +kernel
theorem dX6_plan_51 : decode cX6_plan 51 = .ok (.iload 4, 2) := by decide +kernel
theorem dX6_plan_53 : decode cX6_plan 53 = .ok (.iconst 1, 1) := by decide +kernel
theorem dX6_plan_54 : decode cX6_plan 54 = .ok (.if_icmp .ne 16, 3) := by decide +kernel
theorem dX6_plan_57 : decode cX6_plan 57 = .ok (.aload_n 0, 1) := by decide +kernel
theorem dX6_plan_58 : decode cX6_plan 58 = .ok (.iconst 0, 1) := by decide +kernel
theorem dX6_plan_59 : decode cX6_plan 59 = .ok (.aload_n 0, 1) := by decide +kernel
theorem dX6_plan_60 : decode cX6_plan 60 = .ok (.getfield 32, 3) := by decide +kernel
theorem dX6_plan_63 : decode cX6_plan 63 = .ok (.iload_n 2, 1) := by decide +kernel
theorem dX6_plan_64 : decode cX6_plan 64 = .ok (.invokevirtual 51, 3) := by decide +kernel
theorem dX6_plan_67 : decode cX6_plan 67 = .ok (.goto 8, 3) := by decide +kernel
theorem dX6_plan_70 : decode cX6_plan 70 = .ok (.aload_n 0, 1) := by decide +kernel
theorem dX6_plan_71 : decode cX6_plan 71 = .ok (.iload_n 2, 1) := by decide +kernel
theorem dX6_plan_72 : decode cX6_plan 72 = .ok (.invokevirtual 55, 3) := by decide +kernel
theorem dX6_plan_75 : decode cX6_plan 75 = .ok (.iload_n 2, 1) := by decide +kernel
theorem dX6_plan_76 : decode cX6_plan 76 = .ok (.ireturn, 1) := by decide +kernel
theorem dX6_paymentFor_0 : decode cX6_paymentFor 0 = .ok (.iconst 0, 1) := by decide +kernel
theorem dX6_paymentFor_1 : decode cX6_paymentFor 1 = .ok (.istore_n 2, 1) := by decide +kernel
theorem dX6_paymentFor_2 : decode cX6_paymentFor 2 = .ok (.iconst 0, 1) := by decide +kernel
theorem dX6_paymentFor_3 : decode cX6_paymentFor 3 = .ok (.istore_n 3, 1) := by decide +kernel
theorem dX6_paymentFor_4 : decode cX6_paymentFor 4 = .ok (.iload_n 3, 1) := by decide +kernel
theorem dX6_paymentFor_5 : decode cX6_paymentFor 5 = .ok (.aload_n 0, 1) := by decide +kernel
theorem dX6_paymentFor_6 : decode cX6_paymentFor 6 = .ok (.getfield 32, 3) := by decide +kernel
theorem dX6_paymentFor_9 : decode cX6_paymentFor 9 = .ok (.if_icmp .ge 28, 3) := by decide +kernel
theorem dX6_paymentFor_12 : decode cX6_paymentFor 12 = .ok (.aload_n 0, 1) := by decide +kernel
theorem dX6_paymentFor_13 : decode cX6_paymentFor 13 = .ok (.getfield 9, 3) := by decide +kernel
theorem dX6_paymentFor_16 : decode cX6_paymentFor 16 = .ok (.iload_n 3, 1) := by decide +kernel
theorem dX6_paymentFor_17 : decode cX6_paymentFor 17 = .ok (.iaload, 1) := by decide +kernel
theorem dX6_paymentFor_18 : decode cX6_paymentFor 18 = .ok (.iload_n 1, 1) := by decide +kernel
theorem dX6_paymentFor_19 : decode cX6_paymentFor 19 = .ok (.if_icmp .ne 12, 3) := by decide +kernel
theorem dX6_paymentFor_22 : decode cX6_paymentFor 22 = .ok (.iload_n 2, 1) := by decide +kernel
theorem dX6_paymentFor_23 : decode cX6_paymentFor 23 = .ok (.aload_n 0, 1) := by decide +kernel
theorem dX6_paymentFor_24 : decode cX6_paymentFor 24 = .ok (.getfield 21, 3) := by decide +kernel
theorem dX6_paymentFor_27 : decode cX6_paymentFor 27 = .ok (.iload_n 3, 1) := by decide +kernel
theorem dX6_paymentFor_28 : decode cX6_paymentFor 28 = .ok (.iaload, 1) := by decide +kernel
theorem dX6_paymentFor_29 : decode cX6_paymentFor 29 = .ok (.iadd, 1) := by decide +kernel
theorem dX6_paymentFor_30 : decode cX6_paymentFor 30 = .ok (.istore_n 2, 1) := by decide +kernel
theorem dX6_paymentFor_31 : decode cX6_paymentFor 31 = .ok (.iinc 3 1, 3) := by decide +kernel
theorem dX6_paymentFor_34 : decode cX6_paymentFor 34 = .ok (.goto (-30), 3) := by decide +kernel
theorem dX6_paymentFor_37 : decode cX6_paymentFor 37 = .ok (.iload_n 2, 1) := by decide +kernel
theorem dX6_paymentFor_38 : decode cX6_paymentFor 38 = .ok (.ireturn, 1) := by decide +kernel
theorem dX6_firstPaid_0 : decode cX6_firstPaid 0 = .ok (.iconst 0, 1) := by decide +kernel
theorem dX6_firstPaid_1 : decode cX6_firstPaid 1 = .ok (.istore_n 1, 1) := by decide +kernel
theorem dX6_firstPaid_2 : decode cX6_firstPaid 2 = .ok (.iload_n 1, 1) := by decide +kernel
theorem dX6_firstPaid_3 : decode cX6_firstPaid 3 = .ok (.aload_n 0, 1) := by decide +kernel
theorem dX6_firstPaid_4 : decode cX6_firstPaid 4 = .ok (.getfield 32, 3) := by decide +kernel
theorem dX6_firstPaid_7 : decode cX6_firstPaid 7 = .ok (.if_icmp .ge 25, 3) := by decide +kernel
theorem dX6_firstPaid_10 : decode cX6_firstPaid 10 = .ok (.aload_n 0, 1) := by decide +kernel
theorem dX6_firstPaid_11 : decode cX6_firstPaid 11 = .ok (.getfield 21, 3) := by decide +kernel
theorem dX6_firstPaid_14 : decode cX6_firstPaid 14 = .ok (.iload_n 1, 1) := by decide +kernel
theorem dX6_firstPaid_15 : decode cX6_firstPaid 15 = .ok (.iaload, 1) := by decide +kernel
theorem dX6_firstPaid_16 : decode cX6_firstPaid 16 = .ok (.ifCond .le 10, 3) := by decide +kernel
theorem dX6_firstPaid_19 : decode cX6_firstPaid 19 = .ok (.aload_n 0, 1) := by decide +kernel
theorem dX6_firstPaid_20 : decode cX6_firstPaid 20 = .ok (.getfield 9, 3) := by decide +kernel
theorem dX6_firstPaid_23 : decode cX6_firstPaid 23 = .ok (.iload_n 1, 1) := by decide +kernel
theorem dX6_firstPaid_24 : decode cX6_firstPaid 24 = .ok (.iaload, 1) := by decide +kernel
theorem dX6_firstPaid_25 : decode cX6_firstPaid 25 = .ok (.ireturn, 1) := by decide +kernel
theorem dX6_firstPaid_26 : decode cX6_firstPaid 26 = .ok (.iinc 1 1, 3) := by decide +kernel
theorem dX6_firstPaid_29 : decode cX6_firstPaid 29 = .ok (.goto (-27), 3) := by decide +kernel
theorem dX6_firstPaid_32 : decode cX6_firstPaid 32 = .ok (.iconst (-1), 1) := by decide +kernel
theorem dX6_firstPaid_33 : decode cX6_firstPaid 33 = .ok (.ireturn, 1) := by decide +kernel
theorem dX6_carryOut_0 : decode cX6_carryOut 0 = .ok (.iconst 0, 1) := by decide +kernel
theorem dX6_carryOut_1 : decode cX6_carryOut 1 = .ok (.istore_n 2, 1) := by decide +kernel
theorem dX6_carryOut_2 : decode cX6_carryOut 2 = .ok (.iload_n 2, 1) := by decide +kernel
theorem dX6_carryOut_3 : decode cX6_carryOut 3 = .ok (.aload_n 0, 1) := by decide +kernel
theorem dX6_carryOut_4 : decode cX6_carryOut 4 = .ok (.getfield 32, 3) := by decide +kernel
theorem dX6_carryOut_7 : decode cX6_carryOut 7 = .ok (.if_icmp .ge 56, 3) := by decide +kernel
theorem dX6_carryOut_10 : decode cX6_carryOut 10 = .ok (.aload_n 1, 1) := by decide +kernel
theorem dX6_carryOut_11 : decode cX6_carryOut 11 = .ok (.getfield 58, 3) := by decide +kernel
theorem dX6_carryOut_14 : decode cX6_carryOut 14 = .ok (.aload_n 0, 1) := by decide +kernel
theorem dX6_carryOut_15 : decode cX6_carryOut 15 = .ok (.getfield 9, 3) := by decide +kernel
theorem dX6_carryOut_18 : decode cX6_carryOut 18 = .ok (.iload_n 2, 1) := by decide +kernel
theorem dX6_carryOut_19 : decode cX6_carryOut 19 = .ok (.iaload, 1) := by decide +kernel
theorem dX6_carryOut_20 : decode cX6_carryOut 20 = .ok (.aaload, 1) := by decide +kernel
theorem dX6_carryOut_21 : decode cX6_carryOut 21 = .ok (.astore_n 3, 1) := by decide +kernel
theorem dX6_carryOut_22 : decode cX6_carryOut 22 = .ok (.aload_n 3, 1) := by decide +kernel
theorem dX6_carryOut_23 : decode cX6_carryOut 23 = .ok (.getfield 62, 3) := by decide +kernel
theorem dX6_carryOut_26 : decode cX6_carryOut 26 = .ok (.aload_n 0, 1) := by decide +kernel
theorem dX6_carryOut_27 : decode cX6_carryOut 27 = .ok (.getfield 15, 3) := by decide +kernel
theorem dX6_carryOut_30 : decode cX6_carryOut 30 = .ok (.iload_n 2, 1) := by decide +kernel
theorem dX6_carryOut_31 : decode cX6_carryOut 31 = .ok (.iaload, 1) := by decide +kernel
theorem dX6_carryOut_32 : decode cX6_carryOut 32 = .ok (.dup2, 1) := by decide +kernel
theorem dX6_carryOut_33 : decode cX6_carryOut 33 = .ok (.iaload, 1) := by decide +kernel
theorem dX6_carryOut_34 : decode cX6_carryOut 34 = .ok (.aload_n 0, 1) := by decide +kernel
theorem dX6_carryOut_35 : decode cX6_carryOut 35 = .ok (.getfield 21, 3) := by decide +kernel
theorem dX6_carryOut_38 : decode cX6_carryOut 38 = .ok (.iload_n 2, 1) := by decide +kernel
theorem dX6_carryOut_39 : decode cX6_carryOut 39 = .ok (.iaload, 1) := by decide +kernel
theorem dX6_carryOut_40 : decode cX6_carryOut 40 = .ok (.isub, 1) := by decide +kernel
theorem dX6_carryOut_41 : decode cX6_carryOut 41 = .ok (.iastore, 1) := by decide +kernel
theorem dX6_carryOut_42 : decode cX6_carryOut 42 = .ok (.aload_n 3, 1) := by decide +kernel
theorem dX6_carryOut_43 : decode cX6_carryOut 43 = .ok (.getfield 67, 3) := by decide +kernel
theorem dX6_carryOut_46 : decode cX6_carryOut 46 = .ok (.iconst 1, 1) := by decide +kernel
theorem dX6_carryOut_47 : decode cX6_carryOut 47 = .ok (.dup2, 1) := by decide +kernel
theorem dX6_carryOut_48 : decode cX6_carryOut 48 = .ok (.iaload, 1) := by decide +kernel
theorem dX6_carryOut_49 : decode cX6_carryOut 49 = .ok (.aload_n 0, 1) := by decide +kernel
theorem dX6_carryOut_50 : decode cX6_carryOut 50 = .ok (.getfield 21, 3) := by decide +kernel
theorem dX6_carryOut_53 : decode cX6_carryOut 53 = .ok (.iload_n 2, 1) := by decide +kernel
theorem dX6_carryOut_54 : decode cX6_carryOut 54 = .ok (.iaload, 1) := by decide +kernel
theorem dX6_carryOut_55 : decode cX6_carryOut 55 = .ok (.iadd, 1) := by decide +kernel
theorem dX6_carryOut_56 : decode cX6_carryOut 56 = .ok (.iastore, 1) := by decide +kernel
theorem dX6_carryOut_57 : decode cX6_carryOut 57 = .ok (.iinc 2 1, 3) := by decide +kernel
theorem dX6_carryOut_60 : decode cX6_carryOut 60 = .ok (.goto (-58), 3) := by decide +kernel
theorem dX6_carryOut_63 : decode cX6_carryOut 63 = .ok (.return_, 1) := by decide +kernel
theorem dX6_collect_0 : decode cX6_collect 0 = .ok (.iconst 0, 1) := by decide +kernel
theorem dX6_collect_1 : decode cX6_collect 1 = .ok (.istore_n 2, 1) := by decide +kernel
theorem dX6_collect_2 : decode cX6_collect 2 = .ok (.aload_n 0, 1) := by decide +kernel
theorem dX6_collect_3 : decode cX6_collect 3 = .ok (.iconst 0, 1) := by decide +kernel
theorem dX6_collect_4 : decode cX6_collect 4 = .ok (.putfield 32, 3) := by decide +kernel
theorem dX6_collect_7 : decode cX6_collect 7 = .ok (.iconst 0, 1) := by decide +kernel
theorem dX6_collect_8 : decode cX6_collect 8 = .ok (.istore_n 3, 1) := by decide +kernel
theorem dX6_collect_9 : decode cX6_collect 9 = .ok (.iload_n 3, 1) := by decide +kernel
theorem dX6_collect_10 : decode cX6_collect 10 = .ok (.bipush 25, 2) := by decide +kernel
theorem dX6_collect_12 : decode cX6_collect 12 = .ok (.if_icmp .ge 126, 3) := by decide +kernel
theorem dX6_collect_15 : decode cX6_collect 15 = .ok (.iconst 0, 1) := by decide +kernel
theorem dX6_collect_16 : decode cX6_collect 16 = .ok (.istore 4, 2) := by decide +kernel
theorem dX6_collect_18 : decode cX6_collect 18 = .ok (.iload 4, 2) := by decide +kernel
theorem dX6_collect_20 : decode cX6_collect 20 = .ok (.aload_n 1, 1) := by decide +kernel
theorem dX6_collect_21 : decode cX6_collect 21 = .ok (.getfield 70, 3) := by decide +kernel
theorem dX6_collect_24 : decode cX6_collect 24 = .ok (.if_icmp .ge 108, 3) := by decide +kernel
theorem dX6_collect_27 : decode cX6_collect 27 = .ok (.aload_n 0, 1) := by decide +kernel
theorem dX6_collect_28 : decode cX6_collect 28 = .ok (.getfield 32, 3) := by decide +kernel
theorem dX6_collect_31 : decode cX6_collect 31 = .ok (.sipush 200, 3) := by decide +kernel
theorem dX6_collect_34 : decode cX6_collect 34 = .ok (.if_icmp .ge 92, 3) := by decide +kernel
theorem dX6_collect_37 : decode cX6_collect 37 = .ok (.aload_n 1, 1) := by decide +kernel
theorem dX6_collect_38 : decode cX6_collect 38 = .ok (.aload_n 1, 1) := by decide +kernel
theorem dX6_collect_39 : decode cX6_collect 39 = .ok (.getfield 58, 3) := by decide +kernel
theorem dX6_collect_42 : decode cX6_collect 42 = .ok (.iload 4, 2) := by decide +kernel
theorem dX6_collect_44 : decode cX6_collect 44 = .ok (.aaload, 1) := by decide +kernel
theorem dX6_collect_45 : decode cX6_collect 45 = .ok (.iload_n 3, 1) := by decide +kernel
theorem dX6_collect_46 : decode cX6_collect 46 = .ok (.invokevirtual 73, 3) := by decide +kernel
theorem dX6_collect_49 : decode cX6_collect 49 = .ok (.ifCond .eq 77, 3) := by decide +kernel
theorem dX6_collect_52 : decode cX6_collect 52 = .ok (.aload_n 0, 1) := by decide +kernel
theorem dX6_collect_53 : decode cX6_collect 53 = .ok (.getfield 9, 3) := by decide +kernel
theorem dX6_collect_56 : decode cX6_collect 56 = .ok (.aload_n 0, 1) := by decide +kernel
theorem dX6_collect_57 : decode cX6_collect 57 = .ok (.getfield 32, 3) := by decide +kernel
theorem dX6_collect_60 : decode cX6_collect 60 = .ok (.iload 4, 2) := by decide +kernel
theorem dX6_collect_62 : decode cX6_collect 62 = .ok (.iastore, 1) := by decide +kernel
theorem dX6_collect_63 : decode cX6_collect 63 = .ok (.aload_n 0, 1) := by decide +kernel
theorem dX6_collect_64 : decode cX6_collect 64 = .ok (.getfield 15, 3) := by decide +kernel
theorem dX6_collect_67 : decode cX6_collect 67 = .ok (.aload_n 0, 1) := by decide +kernel
theorem dX6_collect_68 : decode cX6_collect 68 = .ok (.getfield 32, 3) := by decide +kernel
theorem dX6_collect_71 : decode cX6_collect 71 = .ok (.iload_n 3, 1) := by decide +kernel
theorem dX6_collect_72 : decode cX6_collect 72 = .ok (.iastore, 1) := by decide +kernel
theorem dX6_collect_73 : decode cX6_collect 73 = .ok (.aload_n 0, 1) := by decide +kernel
theorem dX6_collect_74 : decode cX6_collect 74 = .ok (.getfield 18, 3) := by decide +kernel
theorem dX6_collect_77 : decode cX6_collect 77 = .ok (.aload_n 0, 1) := by decide +kernel
theorem dX6_collect_78 : decode cX6_collect 78 = .ok (.getfield 32, 3) := by decide +kernel
theorem dX6_collect_81 : decode cX6_collect 81 = .ok (.aload_n 1, 1) := by decide +kernel
theorem dX6_collect_82 : decode cX6_collect 82 = .ok (.getfield 58, 3) := by decide +kernel
theorem dX6_collect_85 : decode cX6_collect 85 = .ok (.iload 4, 2) := by decide +kernel
theorem dX6_collect_87 : decode cX6_collect 87 = .ok (.aaload, 1) := by decide +kernel
theorem dX6_collect_88 : decode cX6_collect 88 = .ok (.getfield 62, 3) := by decide +kernel
theorem dX6_collect_91 : decode cX6_collect 91 = .ok (.iload_n 3, 1) := by decide +kernel
theorem dX6_collect_92 : decode cX6_collect 92 = .ok (.iaload, 1) := by decide +kernel
theorem dX6_collect_93 : decode cX6_collect 93 = .ok (.iastore, 1) := by decide +kernel
theorem dX6_collect_94 : decode cX6_collect 94 = .ok (.aload_n 0, 1) := by decide +kernel
theorem dX6_collect_95 : decode cX6_collect 95 = .ok (.getfield 21, 3) := by decide +kernel
theorem dX6_collect_98 : decode cX6_collect 98 = .ok (.aload_n 0, 1) := by decide +kernel
theorem dX6_collect_99 : decode cX6_collect 99 = .ok (.getfield 32, 3) := by decide +kernel
theorem dX6_collect_102 : decode cX6_collect 102 = .ok (.iconst 0, 1) := by decide +kernel
theorem dX6_collect_103 : decode cX6_collect 103 = .ok (.iastore, 1) := by decide +kernel
theorem dX6_collect_104 : decode cX6_collect 104 = .ok (.iload_n 2, 1) := by decide +kernel
theorem dX6_collect_105 : decode cX6_collect 105 = .ok (.aload_n 0, 1) := by decide +kernel
theorem dX6_collect_106 : decode cX6_collect 106 = .ok (.getfield 18, 3) := by decide +kernel
theorem dX6_collect_109 : decode cX6_collect 109 = .ok (.aload_n 0, 1) := by decide +kernel
theorem dX6_collect_110 : decode cX6_collect 110 = .ok (.getfield 32, 3) := by decide +kernel
theorem dX6_collect_113 : decode cX6_collect 113 = .ok (.iaload, 1) := by decide +kernel
theorem dX6_collect_114 : decode cX6_collect 114 = .ok (.iadd, 1) := by decide +kernel
theorem dX6_collect_115 : decode cX6_collect 115 = .ok (.istore_n 2, 1) := by decide +kernel
theorem dX6_collect_116 : decode cX6_collect 116 = .ok (.aload_n 0, 1) := by decide +kernel
theorem dX6_collect_117 : decode cX6_collect 117 = .ok (.dup, 1) := by decide +kernel
theorem dX6_collect_118 : decode cX6_collect 118 = .ok (.getfield 32, 3) := by decide +kernel
theorem dX6_collect_121 : decode cX6_collect 121 = .ok (.iconst 1, 1) := by decide +kernel
theorem dX6_collect_122 : decode cX6_collect 122 = .ok (.iadd, 1) := by decide +kernel
theorem dX6_collect_123 : decode cX6_collect 123 = .ok (.putfield 32, 3) := by decide +kernel
theorem dX6_collect_126 : decode cX6_collect 126 = .ok (.iinc 4 1, 3) := by decide +kernel
theorem dX6_collect_129 : decode cX6_collect 129 = .ok (.goto (-111), 3) := by decide +kernel
theorem dX6_collect_132 : decode cX6_collect 132 = .ok (.iinc 3 1, 3) := by decide +kernel
theorem dX6_collect_135 : decode cX6_collect 135 = .ok (.goto (-126), 3) := by decide +kernel
theorem dX6_collect_138 : decode cX6_collect 138 = .ok (.iload_n 2, 1) := by decide +kernel
theorem dX6_collect_139 : decode cX6_collect 139 = .ok (.ireturn, 1) := by decide +kernel
theorem dX6_payByYears_0 : decode cX6_payByYears 0 = .ok (.iload_n 1, 1) := by decide +kernel
theorem dX6_payByYears_1 : decode cX6_payByYears 1 = .ok (.istore_n 2, 1) := by decide +kernel
theorem dX6_payByYears_2 : decode cX6_payByYears 2 = .ok (.iconst 0, 1) := by decide +kernel
theorem dX6_payByYears_3 : decode cX6_payByYears 3 = .ok (.istore_n 3, 1) := by decide +kernel
theorem dX6_payByYears_4 : decode cX6_payByYears 4 = .ok (.iconst 0, 1) := by decide +kernel
theorem dX6_payByYears_5 : decode cX6_payByYears 5 = .ok (.istore 4, 2) := by decide +kernel
theorem dX6_payByYears_7 : decode cX6_payByYears 7 = .ok (.iload 4, 2) := by decide +kernel
theorem dX6_payByYears_9 : decode cX6_payByYears 9 = .ok (.bipush 25, 2) := by decide +kernel
theorem dX6_payByYears_11 : decode cX6_payByYears 11 = .ok (.if_icmp .ge 79, 3) := by decide +kernel
theorem dX6_payByYears_14 : decode cX6_payByYears 14 = .ok (.iconst 0, 1) := by decide +kernel
theorem dX6_payByYears_15 : decode cX6_payByYears 15 = .ok (.istore 5, 2) := by decide +kernel
theorem dX6_payByYears_17 : decode cX6_payByYears 17 = .ok (.iload_n 3, 1) := by decide +kernel
theorem dX6_payByYears_18 : decode cX6_payByYears 18 = .ok (.istore 6, 2) := by decide +kernel
theorem dX6_payByYears_20 : decode cX6_payByYears 20 = .ok (.iload 6, 2) := by decide +kernel
theorem dX6_payByYears_22 : decode cX6_payByYears 22 = .ok (.aload_n 0, 1) := by decide +kernel
theorem dX6_payByYears_23 : decode cX6_payByYears 23 = .ok (.getfield 32, 3) := by decide +kernel
theorem dX6_payByYears_26 : decode cX6_payByYears 26 = .ok (.if_icmp .ge 33, 3) := by decide +kernel
theorem dX6_payByYears_29 : decode cX6_payByYears 29 = .ok (.aload_n 0, 1) := by decide +kernel
theorem dX6_payByYears_30 : decode cX6_payByYears 30 = .ok (.getfield 15, 3) := by decide +kernel
theorem dX6_payByYears_33 : decode cX6_payByYears 33 = .ok (.iload 6, 2) := by decide +kernel
theorem dX6_payByYears_35 : decode cX6_payByYears 35 = .ok (.iaload, 1) := by decide +kernel
theorem dX6_payByYears_36 : decode cX6_payByYears 36 = .ok (.iload 4, 2) := by decide +kernel
theorem dX6_payByYears_38 : decode cX6_payByYears 38 = .ok (.if_icmp .ne 21, 3) := by decide +kernel
theorem dX6_payByYears_41 : decode cX6_payByYears 41 = .ok (.iload 5, 2) := by decide +kernel
theorem dX6_payByYears_43 : decode cX6_payByYears 43 = .ok (.aload_n 0, 1) := by decide +kernel
theorem dX6_payByYears_44 : decode cX6_payByYears 44 = .ok (.getfield 18, 3) := by decide +kernel
theorem dX6_payByYears_47 : decode cX6_payByYears 47 = .ok (.iload 6, 2) := by decide +kernel
theorem dX6_payByYears_49 : decode cX6_payByYears 49 = .ok (.iaload, 1) := by decide +kernel
theorem dX6_payByYears_50 : decode cX6_payByYears 50 = .ok (.iadd, 1) := by decide +kernel
theorem dX6_payByYears_51 : decode cX6_payByYears 51 = .ok (.istore 5, 2) := by decide +kernel
theorem dX6_payByYears_53 : decode cX6_payByYears 53 = .ok (.iinc 6 1, 3) := by decide +kernel
theorem dX6_payByYears_56 : decode cX6_payByYears 56 = .ok (.goto (-36), 3) := by decide +kernel
theorem dX6_payByYears_59 : decode cX6_payByYears 59 = .ok (.iload_n 2, 1) := by decide +kernel
theorem dX6_payByYears_60 : decode cX6_payByYears 60 = .ok (.iload 5, 2) := by decide +kernel
theorem dX6_payByYears_62 : decode cX6_payByYears 62 = .ok (.invokestatic 77, 3) := by decide +kernel
theorem dX6_payByYears_65 : decode cX6_payByYears 65 = .ok (.istore 7, 2) := by decide +kernel
theorem dX6_payByYears_67 : decode cX6_payByYears 67 = .ok (.aload_n 0, 1) := by decide +kernel
theorem dX6_payByYears_68 : decode cX6_payByYears 68 = .ok (.iload_n 3, 1) := by decide +kernel
theorem dX6_payByYears_69 : decode cX6_payByYears 69 = .ok (.iload 6, 2) := by decide +kernel
theorem dX6_payByYears_71 : decode cX6_payByYears 71 = .ok (.iload 7, 2) := by decide +kernel
theorem dX6_payByYears_73 : decode cX6_payByYears 73 = .ok (.invokevirtual 51, 3) := by decide +kernel
theorem dX6_payByYears_76 : decode cX6_payByYears 76 = .ok (.iload_n 2, 1) := by decide +kernel
theorem dX6_payByYears_77 : decode cX6_payByYears 77 = .ok (.iload 7, 2) := by decide +kernel
theorem dX6_payByYears_79 : decode cX6_payByYears 79 = .ok (.isub, 1) := by decide +kernel
theorem dX6_payByYears_80 : decode cX6_payByYears 80 = .ok (.istore_n 2, 1) := by decide +kernel
theorem dX6_payByYears_81 : decode cX6_payByYears 81 = .ok (.iload 6, 2) := by decide +kernel
theorem dX6_payByYears_83 : decode cX6_payByYears 83 = .ok (.istore_n 3, 1) := by decide +kernel
theorem dX6_payByYears_84 : decode cX6_payByYears 84 = .ok (.iinc 4 1, 3) := by decide +kernel
theorem dX6_payByYears_87 : decode cX6_payByYears 87 = .ok (.goto (-80), 3) := by decide +kernel
theorem dX6_payByYears_90 : decode cX6_payByYears 90 = .ok (.return_, 1) := by decide +kernel
theorem dX6_payShares_0 : decode cX6_payShares 0 = .ok (.aload_n 0, 1) := by decide +kernel
theorem dX6_payShares_1 : decode cX6_payShares 1 = .ok (.getfield 24, 3) := by decide +kernel
theorem dX6_payShares_4 : decode cX6_payShares 4 = .ok (.invokevirtual 83, 3) := by decide +kernel
theorem dX6_payShares_7 : decode cX6_payShares 7 = .ok (.iload_n 1, 1) := by decide +kernel
theorem dX6_payShares_8 : decode cX6_payShares 8 = .ok (.istore 4, 2) := by decide +kernel
theorem dX6_payShares_10 : decode cX6_payShares 10 = .ok (.iload 4, 2) := by decide +kernel
theorem dX6_payShares_12 : decode cX6_payShares 12 = .ok (.iload_n 2, 1) := by decide +kernel
theorem dX6_payShares_13 : decode cX6_payShares 13 = .ok (.if_icmp .ge 23, 3) := by decide +kernel
theorem dX6_payShares_16 : decode cX6_payShares 16 = .ok (.aload_n 0, 1) := by decide +kernel
theorem dX6_payShares_17 : decode cX6_payShares 17 = .ok (.getfield 24, 3) := by decide +kernel
theorem dX6_payShares_20 : decode cX6_payShares 20 = .ok (.aload_n 0, 1) := by decide +kernel
theorem dX6_payShares_21 : decode cX6_payShares 21 = .ok (.getfield 18, 3) := by decide +kernel
theorem dX6_payShares_24 : decode cX6_payShares 24 = .ok (.iload 4, 2) := by decide +kernel
theorem dX6_payShares_26 : decode cX6_payShares 26 = .ok (.iaload, 1) := by decide +kernel
theorem dX6_payShares_27 : decode cX6_payShares 27 = .ok (.invokevirtual 88, 3) := by decide +kernel
theorem dX6_payShares_30 : decode cX6_payShares 30 = .ok (.iinc 4 1, 3) := by decide +kernel
theorem dX6_payShares_33 : decode cX6_payShares 33 = .ok (.goto (-23), 3) := by decide +kernel
theorem dX6_payShares_36 : decode cX6_payShares 36 = .ok (.aload_n 0, 1) := by decide +kernel
theorem dX6_payShares_37 : decode cX6_payShares 37 = .ok (.getfield 24, 3) := by decide +kernel
theorem dX6_payShares_40 : decode cX6_payShares 40 = .ok (.iload_n 3, 1) := by decide +kernel
theorem dX6_payShares_41 : decode cX6_payShares 41 = .ok (.invokevirtual 91, 3) := by decide +kernel
theorem dX6_payShares_44 : decode cX6_payShares 44 = .ok (.iload_n 1, 1) := by decide +kernel
theorem dX6_payShares_45 : decode cX6_payShares 45 = .ok (.istore 4, 2) := by decide +kernel
theorem dX6_payShares_47 : decode cX6_payShares 47 = .ok (.iload 4, 2) := by decide +kernel
theorem dX6_payShares_49 : decode cX6_payShares 49 = .ok (.iload_n 2, 1) := by decide +kernel
theorem dX6_payShares_50 : decode cX6_payShares 50 = .ok (.if_icmp .ge 27, 3) := by decide +kernel
theorem dX6_payShares_53 : decode cX6_payShares 53 = .ok (.aload_n 0, 1) := by decide +kernel
theorem dX6_payShares_54 : decode cX6_payShares 54 = .ok (.getfield 21, 3) := by decide +kernel
theorem dX6_payShares_57 : decode cX6_payShares 57 = .ok (.iload 4, 2) := by decide +kernel
theorem dX6_payShares_59 : decode cX6_payShares 59 = .ok (.aload_n 0, 1) := by decide +kernel
theorem dX6_payShares_60 : decode cX6_payShares 60 = .ok (.getfield 24, 3) := by decide +kernel
theorem dX6_payShares_63 : decode cX6_payShares 63 = .ok (.iload 4, 2) := by decide +kernel
theorem dX6_payShares_65 : decode cX6_payShares 65 = .ok (.iload_n 1, 1) := by decide +kernel
theorem dX6_payShares_66 : decode cX6_payShares 66 = .ok (.isub, 1) := by decide +kernel
theorem dX6_payShares_67 : decode cX6_payShares 67 = .ok (.invokevirtual 94, 3) := by decide +kernel
theorem dX6_payShares_70 : decode cX6_payShares 70 = .ok (.iastore, 1) := by decide +kernel
theorem dX6_payShares_71 : decode cX6_payShares 71 = .ok (.iinc 4 1, 3) := by decide +kernel
theorem dX6_payShares_74 : decode cX6_payShares 74 = .ok (.goto (-27), 3) := by decide +kernel
theorem dX6_payShares_77 : decode cX6_payShares 77 = .ok (.return_, 1) := by decide +kernel
theorem dX6_paySmallestFirst_0 : decode cX6_paySmallestFirst 0 = .ok (.iload_n 1, 1) := by decide +kernel
theorem dX6_paySmallestFirst_1 : decode cX6_paySmallestFirst 1 = .ok (.istore_n 2, 1) := by decide +kernel
theorem dX6_paySmallestFirst_2 : decode cX6_paySmallestFirst 2 = .ok (.iconst 0, 1) := by decide +kernel
theorem dX6_paySmallestFirst_3 : decode cX6_paySmallestFirst 3 = .ok (.istore_n 3, 1) := by decide +kernel
theorem dX6_paySmallestFirst_4 : decode cX6_paySmallestFirst 4 = .ok (.iload_n 3, 1) := by decide +kernel
theorem dX6_paySmallestFirst_5 : decode cX6_paySmallestFirst 5 = .ok (.aload_n 0, 1) := by decide +kernel
theorem dX6_paySmallestFirst_6 : decode cX6_paySmallestFirst 6 = .ok (.getfield 32, 3) := by decide +kernel
theorem dX6_paySmallestFirst_9 : decode cX6_paySmallestFirst 9 = .ok (.if_icmp .ge 104, 3) := by decide +kernel
theorem dX6_paySmallestFirst_12 : decode cX6_paySmallestFirst 12 = .ok (.iload_n 2, 1) := by decide +kernel
theorem dX6_paySmallestFirst_13 : decode cX6_paySmallestFirst 13 = .ok (.ifCond .le 100, 3) := by decide +kernel
theorem dX6_paySmallestFirst_16 : decode cX6_paySmallestFirst 16 = .ok (.iconst (-1), 1) := by decide +kernel
theorem dX6_paySmallestFirst_17 : decode cX6_paySmallestFirst 17 = .ok (.istore 4, 2) := by decide +kernel
theorem dX6_paySmallestFirst_19 : decode cX6_paySmallestFirst 19 = .ok (.iconst 0, 1) := by decide +kernel
theorem dX6_paySmallestFirst_20 : decode cX6_paySmallestFirst 20 = .ok (.istore 5, 2) := by decide +kernel
theorem dX6_paySmallestFirst_22 : decode cX6_paySmallestFirst 22 = .ok (.iload 5, 2) := by decide +kernel
theorem dX6_paySmallestFirst_24 : decode cX6_paySmallestFirst 24 = .ok (.aload_n 0, 1) := by decide +kernel
theorem dX6_paySmallestFirst_25 : decode cX6_paySmallestFirst 25 = .ok (.getfield 32, 3) := by decide +kernel
theorem dX6_paySmallestFirst_28 : decode cX6_paySmallestFirst 28 = .ok (.if_icmp .ge 45, 3) := by decide +kernel
theorem dX6_paySmallestFirst_31 : decode cX6_paySmallestFirst 31 = .ok (.aload_n 0, 1) := by decide +kernel
theorem dX6_paySmallestFirst_32 : decode cX6_paySmallestFirst 32 = .ok (.getfield 21, 3) := by decide +kernel
theorem dX6_paySmallestFirst_35 : decode cX6_paySmallestFirst 35 = .ok (.iload 5, 2) := by decide +kernel
theorem dX6_paySmallestFirst_37 : decode cX6_paySmallestFirst 37 = .ok (.iaload, 1) := by decide +kernel
theorem dX6_paySmallestFirst_38 : decode cX6_paySmallestFirst 38 = .ok (.ifCond .ne 29, 3) := by decide +kernel
theorem dX6_paySmallestFirst_41 : decode cX6_paySmallestFirst 41 = .ok (.iload 4, 2) := by decide +kernel
theorem dX6_paySmallestFirst_43 : decode cX6_paySmallestFirst 43 = .ok (.ifCond .lt 20, 3) := by decide +kernel
theorem dX6_paySmallestFirst_46 : decode cX6_paySmallestFirst 46 = .ok (.aload_n 0, 1) := by decide +kernel
theorem dX6_paySmallestFirst_47 : decode cX6_paySmallestFirst 47 = .ok (.getfield 18, 3) := by decide +kernel
theorem dX6_paySmallestFirst_50 : decode cX6_paySmallestFirst 50 = .ok (.iload 5, 2) := by decide +kernel
theorem dX6_paySmallestFirst_52 : decode cX6_paySmallestFirst 52 = .ok (.iaload, 1) := by decide +kernel
theorem dX6_paySmallestFirst_53 : decode cX6_paySmallestFirst 53 = .ok (.aload_n 0, 1) := by decide +kernel
theorem dX6_paySmallestFirst_54 : decode cX6_paySmallestFirst 54 = .ok (.getfield 18, 3) := by decide +kernel
theorem dX6_paySmallestFirst_57 : decode cX6_paySmallestFirst 57 = .ok (.iload 4, 2) := by decide +kernel
theorem dX6_paySmallestFirst_59 : decode cX6_paySmallestFirst 59 = .ok (.iaload, 1) := by decide +kernel
theorem dX6_paySmallestFirst_60 : decode cX6_paySmallestFirst 60 = .ok (.if_icmp .ge 7, 3) := by decide +kernel
theorem dX6_paySmallestFirst_63 : decode cX6_paySmallestFirst 63 = .ok (.iload 5, 2) := by decide +kernel
theorem dX6_paySmallestFirst_65 : decode cX6_paySmallestFirst 65 = .ok (.istore 4, 2) := by decide +kernel
theorem dX6_paySmallestFirst_67 : decode cX6_paySmallestFirst 67 = .ok (.iinc 5 1, 3) := by decide +kernel
theorem dX6_paySmallestFirst_70 : decode cX6_paySmallestFirst 70 = .ok (.goto (-48), 3) := by decide +kernel
theorem dX6_paySmallestFirst_73 : decode cX6_paySmallestFirst 73 = .ok (.iload 4, 2) := by decide +kernel
theorem dX6_paySmallestFirst_75 : decode cX6_paySmallestFirst 75 = .ok (.ifCond .ge 4, 3) := by decide +kernel
theorem dX6_paySmallestFirst_78 : decode cX6_paySmallestFirst 78 = .ok (.return_, 1) := by decide +kernel
theorem dX6_paySmallestFirst_79 : decode cX6_paySmallestFirst 79 = .ok (.aload_n 0, 1) := by decide +kernel
theorem dX6_paySmallestFirst_80 : decode cX6_paySmallestFirst 80 = .ok (.getfield 21, 3) := by decide +kernel
theorem dX6_paySmallestFirst_83 : decode cX6_paySmallestFirst 83 = .ok (.iload 4, 2) := by decide +kernel
theorem dX6_paySmallestFirst_85 : decode cX6_paySmallestFirst 85 = .ok (.iload_n 2, 1) := by decide +kernel
theorem dX6_paySmallestFirst_86 : decode cX6_paySmallestFirst 86 = .ok (.aload_n 0, 1) := by decide +kernel
theorem dX6_paySmallestFirst_87 : decode cX6_paySmallestFirst 87 = .ok (.getfield 18, 3) := by decide +kernel
theorem dX6_paySmallestFirst_90 : decode cX6_paySmallestFirst 90 = .ok (.iload 4, 2) := by decide +kernel
theorem dX6_paySmallestFirst_92 : decode cX6_paySmallestFirst 92 = .ok (.iaload, 1) := by decide +kernel
theorem dX6_paySmallestFirst_93 : decode cX6_paySmallestFirst 93 = .ok (.invokestatic 77, 3) := by decide +kernel
theorem dX6_paySmallestFirst_96 : decode cX6_paySmallestFirst 96 = .ok (.iastore, 1) := by decide +kernel
theorem dX6_paySmallestFirst_97 : decode cX6_paySmallestFirst 97 = .ok (.iload_n 2, 1) := by decide +kernel
theorem dX6_paySmallestFirst_98 : decode cX6_paySmallestFirst 98 = .ok (.aload_n 0, 1) := by decide +kernel
theorem dX6_paySmallestFirst_99 : decode cX6_paySmallestFirst 99 = .ok (.getfield 21, 3) := by decide +kernel
theorem dX6_paySmallestFirst_102 : decode cX6_paySmallestFirst 102 = .ok (.iload 4, 2) := by decide +kernel
theorem dX6_paySmallestFirst_104 : decode cX6_paySmallestFirst 104 = .ok (.iaload, 1) := by decide +kernel
theorem dX6_paySmallestFirst_105 : decode cX6_paySmallestFirst 105 = .ok (.isub, 1) := by decide +kernel
theorem dX6_paySmallestFirst_106 : decode cX6_paySmallestFirst 106 = .ok (.istore_n 2, 1) := by decide +kernel
theorem dX6_paySmallestFirst_107 : decode cX6_paySmallestFirst 107 = .ok (.iinc 3 1, 3) := by decide +kernel
theorem dX6_paySmallestFirst_110 : decode cX6_paySmallestFirst 110 = .ok (.goto (-106), 3) := by decide +kernel
theorem dX6_paySmallestFirst_113 : decode cX6_paySmallestFirst 113 = .ok (.return_, 1) := by decide +kernel
