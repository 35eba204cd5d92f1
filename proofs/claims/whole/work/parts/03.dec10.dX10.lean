theorem dX10_init_0 : decode cX10_init 0 = .ok (.aload_n 0, 1) := by decide +kernel
theorem dX10_init_1 : decode cX10_init 1 = .ok (.invokespecial 1, 3) := by decide +kernel
theorem dX10_init_4 : decode cX10_init 4 = .ok (.aload_n 0, 1) := by decide +kernel
theorem dX10_init_5 : decode cX10_init 5 = .ok (.sipush 900, 3) := by decide +kernel
theorem dX10_init_8 : decode cX10_init 8 = .ok (.newarray .int, 2) := by decide +kernel
theorem dX10_init_10 : decode cX10_init 10 = .ok (.putfield 7, 3) := by decide +kernel
theorem dX10_init_13 : decode cX10_init 13 = .ok (.aload_n 0, 1) := by decide +kernel
theorem dX10_init_14 : decode cX10_init 14 = .ok (.bipush 14, 2) := by decide +kernel
theorem dX10_init_16 : decode cX10_init 16 = .ok (.newarray .int, 2) := by decide +kernel
theorem dX10_init_18 : decode cX10_init 18 = .ok (.putfield 13, 3) := by decide +kernel
theorem dX10_init_21 : decode cX10_init 21 = .ok (.aload_n 0, 1) := by decide +kernel
theorem dX10_init_22 : decode cX10_init 22 = .ok (.bipush 14, 2) := by decide +kernel
theorem dX10_init_24 : decode cX10_init 24 = .ok (.newarray .int, 2) := by decide +kernel
theorem dX10_init_26 : decode cX10_init 26 = .ok (.putfield 16, 3) := by decide +kernel
theorem dX10_init_29 : decode cX10_init 29 = .ok (.aload_n 0, 1) := by decide +kernel
theorem dX10_init_30 : decode cX10_init 30 = .ok (.sipush 497, 3) := by decide +kernel
theorem dX10_init_33 : decode cX10_init 33 = .ok (.newarray .int, 2) := by decide +kernel
theorem dX10_init_35 : decode cX10_init 35 = .ok (.putfield 19, 3) := by decide +kernel
theorem dX10_init_38 : decode cX10_init 38 = .ok (.aload_n 0, 1) := by decide +kernel
theorem dX10_init_39 : decode cX10_init 39 = .ok (.sipush 497, 3) := by decide +kernel
theorem dX10_init_42 : decode cX10_init 42 = .ok (.newarray .int, 2) := by decide +kernel
theorem dX10_init_44 : decode cX10_init 44 = .ok (.putfield 22, 3) := by decide +kernel
theorem dX10_init_47 : decode cX10_init 47 = .ok (.aload_n 0, 1) := by decide +kernel
theorem dX10_init_48 : decode cX10_init 48 = .ok (.sipush 4970, 3) := by decide +kernel
theorem dX10_init_51 : decode cX10_init 51 = .ok (.newarray .int, 2) := by decide +kernel
theorem dX10_init_53 : decode cX10_init 53 = .ok (.putfield 25, 3) := by decide +kernel
theorem dX10_init_56 : decode cX10_init 56 = .ok (.aload_n 0, 1) := by decide +kernel
theorem dX10_init_57 : decode cX10_init 57 = .ok (.sipush 192, 3) := by decide +kernel
theorem dX10_init_60 : decode cX10_init 60 = .ok (.newarray .long, 2) := by decide +kernel
theorem dX10_init_62 : decode cX10_init 62 = .ok (.putfield 28, 3) := by decide +kernel
theorem dX10_init_65 : decode cX10_init 65 = .ok (.aload_n 0, 1) := by decide +kernel
theorem dX10_init_66 : decode cX10_init 66 = .ok (.sipush 192, 3) := by decide +kernel
theorem dX10_init_69 : decode cX10_init 69 = .ok (.newarray .long, 2) := by decide +kernel
theorem dX10_init_71 : decode cX10_init 71 = .ok (.putfield 32, 3) := by decide +kernel
theorem dX10_init_74 : decode cX10_init 74 = .ok (.aload_n 0, 1) := by decide +kernel
theorem dX10_init_75 : decode cX10_init 75 = .ok (.sipush 192, 3) := by decide +kernel
theorem dX10_init_78 : decode cX10_init 78 = .ok (.newarray .long, 2) := by decide +kernel
theorem dX10_init_80 : decode cX10_init 80 = .ok (.putfield 35, 3) := by decide +kernel
theorem dX10_init_83 : decode cX10_init 83 = .ok (.aload_n 0, 1) := by decide +kernel
theorem dX10_init_84 : decode cX10_init 84 = .ok (.iconst 4, 1) := by decide +kernel
theorem dX10_init_85 : decode cX10_init 85 = .ok (.newarray .int, 2) := by decide +kernel
theorem dX10_init_87 : decode cX10_init 87 = .ok (.putfield 38, 3) := by decide +kernel
theorem dX10_init_90 : decode cX10_init 90 = .ok (.aload_n 0, 1) := by decide +kernel
theorem dX10_init_91 : decode cX10_init 91 = .ok (.bipush 8, 2) := by decide +kernel
theorem dX10_init_93 : decode cX10_init 93 = .ok (.newarray .int, 2) := by decide +kernel
theorem dX10_init_95 : decode cX10_init 95 = .ok (.putfield 41, 3) := by decide +kernel
theorem dX10_init_98 : decode cX10_init 98 = .ok (.aload_n 0, 1) := by decide +kernel
theorem dX10_init_99 : decode cX10_init 99 = .ok (.iconst 4, 1) := by decide +kernel
theorem dX10_init_100 : decode cX10_init 100 = .ok (.newarray .int, 2) := by decide +kernel
theorem dX10_init_102 : decode cX10_init 102 = .ok (.putfield 44, 3) := by decide +kernel
theorem dX10_init_105 : decode cX10_init 105 = .ok (.aload_n 0, 1) := by decide +kernel
theorem dX10_init_106 : decode cX10_init 106 = .ok (.sipush 192, 3) := by decide +kernel
theorem dX10_init_109 : decode cX10_init 109 = .ok (.newarray .int, 2) := by decide +kernel
theorem dX10_init_111 : decode cX10_init 111 = .ok (.putfield 47, 3) := by decide +kernel
theorem dX10_init_114 : decode cX10_init 114 = .ok (.aload_n 0, 1) := by decide +kernel
theorem dX10_init_115 : decode cX10_init 115 = .ok (.sipush 192, 3) := by decide +kernel
theorem dX10_init_118 : decode cX10_init 118 = .ok (.newarray .int, 2) := by decide +kernel
theorem dX10_init_120 : decode cX10_init 120 = .ok (.putfield 50, 3) := by decide +kernel
theorem dX10_init_123 : decode cX10_init 123 = .ok (.aload_n 0, 1) := by decide +kernel
theorem dX10_init_124 : decode cX10_init 124 = .ok (.sipush 192, 3) := by decide +kernel
theorem dX10_init_127 : decode cX10_init 127 = .ok (.newarray .int, 2) := by decide +kernel
theorem dX10_init_129 : decode cX10_init 129 = .ok (.putfield 53, 3) := by decide +kernel
theorem dX10_init_132 : decode cX10_init 132 = .ok (.aload_n 0, 1) := by decide +kernel
theorem dX10_init_133 : decode cX10_init 133 = .ok (.iconst (-1), 1) := by decide +kernel
theorem dX10_init_134 : decode cX10_init 134 = .ok (.putfield 56, 3) := by decide +kernel
theorem dX10_init_137 : decode cX10_init 137 = .ok (.aload_n 0, 1) := by decide +kernel
theorem dX10_init_138 : decode cX10_init 138 = .ok (.sipush 497, 3) := by decide +kernel
theorem dX10_init_141 : decode cX10_init 141 = .ok (.newarray .int, 2) := by decide +kernel
theorem dX10_init_143 : decode cX10_init 143 = .ok (.putfield 60, 3) := by decide +kernel
theorem dX10_init_146 : decode cX10_init 146 = .ok (.aload_n 0, 1) := by decide +kernel
theorem dX10_init_147 : decode cX10_init 147 = .ok (.invokevirtual 63, 3) := by decide +kernel
theorem dX10_init_150 : decode cX10_init 150 = .ok (.return_, 1) := by decide +kernel
theorem dX10_thrown_0 : decode cX10_thrown 0 = .ok (.aload_n 0, 1) := by decide +kernel
theorem dX10_thrown_1 : decode cX10_thrown 1 = .ok (.getfield 66, 3) := by decide +kernel
theorem dX10_thrown_4 : decode cX10_thrown 4 = .ok (.ireturn, 1) := by decide +kernel
theorem dX10_feed_0 : decode cX10_feed 0 = .ok (.aload_n 0, 1) := by decide +kernel
theorem dX10_feed_1 : decode cX10_feed 1 = .ok (.iconst 0, 1) := by decide +kernel
theorem dX10_feed_2 : decode cX10_feed 2 = .ok (.putfield 66, 3) := by decide +kernel
theorem dX10_feed_5 : decode cX10_feed 5 = .ok (.aload_n 0, 1) := by decide +kernel
theorem dX10_feed_6 : decode cX10_feed 6 = .ok (.getfield 69, 3) := by decide +kernel
theorem dX10_feed_9 : decode cX10_feed 9 = .ok (.bipush 20, 2) := by decide +kernel
theorem dX10_feed_11 : decode cX10_feed 11 = .ok (.iadd, 1) := by decide +kernel
theorem dX10_feed_12 : decode cX10_feed 12 = .ok (.sipush 900, 3) := by decide +kernel
theorem dX10_feed_15 : decode cX10_feed 15 = .ok (.if_icmp .le 6, 3) := by decide +kernel
theorem dX10_feed_18 : decode cX10_feed 18 = .ok (.bipush (-3), 2) := by decide +kernel
theorem dX10_feed_20 : decode cX10_feed 20 = .ok (.ireturn, 1) := by decide +kernel
theorem dX10_feed_21 : decode cX10_feed 21 = .ok (.iconst 0, 1) := by decide +kernel
theorem dX10_feed_22 : decode cX10_feed 22 = .ok (.istore 6, 2) := by decide +kernel
theorem dX10_feed_24 : decode cX10_feed 24 = .ok (.iload 6, 2) := by decide +kernel
theorem dX10_feed_26 : decode cX10_feed 26 = .ok (.bipush 20, 2) := by decide +kernel
theorem dX10_feed_28 : decode cX10_feed 28 = .ok (.if_icmp .ge 86, 3) := by decide +kernel
theorem dX10_feed_31 : decode cX10_feed 31 = .ok (.iload 6, 2) := by decide +kernel
theorem dX10_feed_33 : decode cX10_feed 33 = .ok (.iconst 4, 1) := by decide +kernel
theorem dX10_feed_34 : decode cX10_feed 34 = .ok (.if_icmp .ge 7, 3) := by decide +kernel
theorem dX10_feed_37 : decode cX10_feed 37 = .ok (.iload_n 1, 1) := by decide +kernel
theorem dX10_feed_38 : decode cX10_feed 38 = .ok (.goto 39, 3) := by decide +kernel
theorem dX10_feed_41 : decode cX10_feed 41 = .ok (.iload 6, 2) := by decide +kernel
theorem dX10_feed_43 : decode cX10_feed 43 = .ok (.bipush 8, 2) := by decide +kernel
theorem dX10_feed_45 : decode cX10_feed 45 = .ok (.if_icmp .ge 7, 3) := by decide +kernel
theorem dX10_feed_48 : decode cX10_feed 48 = .ok (.iload_n 2, 1) := by decide +kernel
theorem dX10_feed_49 : decode cX10_feed 49 = .ok (.goto 28, 3) := by decide +kernel
theorem dX10_feed_52 : decode cX10_feed 52 = .ok (.iload 6, 2) := by decide +kernel
theorem dX10_feed_54 : decode cX10_feed 54 = .ok (.bipush 12, 2) := by decide +kernel
theorem dX10_feed_56 : decode cX10_feed 56 = .ok (.if_icmp .ge 7, 3) := by decide +kernel
theorem dX10_feed_59 : decode cX10_feed 59 = .ok (.iload_n 3, 1) := by decide +kernel
theorem dX10_feed_60 : decode cX10_feed 60 = .ok (.goto 17, 3) := by decide +kernel
theorem dX10_feed_63 : decode cX10_feed 63 = .ok (.iload 6, 2) := by decide +kernel
theorem dX10_feed_65 : decode cX10_feed 65 = .ok (.bipush 16, 2) := by decide +kernel
theorem dX10_feed_67 : decode cX10_feed 67 = .ok (.if_icmp .ge 8, 3) := by decide +kernel
theorem dX10_feed_70 : decode cX10_feed 70 = .ok (.iload 4, 2) := by decide +kernel
theorem dX10_feed_72 : decode cX10_feed 72 = .ok (.goto 5, 3) := by decide +kernel
theorem dX10_feed_75 : decode cX10_feed 75 = .ok (.iload 5, 2) := by decide +kernel
theorem dX10_feed_77 : decode cX10_feed 77 = .ok (.istore 7, 2) := by decide +kernel
theorem dX10_feed_79 : decode cX10_feed 79 = .ok (.aload_n 0, 1) := by decide +kernel
theorem dX10_feed_80 : decode cX10_feed 80 = .ok (.getfield 7, 3) := by decide +kernel
theorem dX10_feed_83 : decode cX10_feed 83 = .ok (.aload_n 0, 1) := by decide +kernel
theorem dX10_feed_84 : decode cX10_feed 84 = .ok (.getfield 69, 3) := by decide +kernel
theorem dX10_feed_87 : decode cX10_feed 87 = .ok (.iload 6, 2) := by decide +kernel
theorem dX10_feed_89 : decode cX10_feed 89 = .ok (.iadd, 1) := by decide +kernel
theorem dX10_feed_90 : decode cX10_feed 90 = .ok (.iload 7, 2) := by decide +kernel
theorem dX10_feed_92 : decode cX10_feed 92 = .ok (.bipush 24, 2) := by decide +kernel
theorem dX10_feed_94 : decode cX10_feed 94 = .ok (.bipush 8, 2) := by decide +kernel
theorem dX10_feed_96 : decode cX10_feed 96 = .ok (.iload 6, 2) := by decide +kernel
theorem dX10_feed_98 : decode cX10_feed 98 = .ok (.iconst 4, 1) := by decide +kernel
theorem dX10_feed_99 : decode cX10_feed 99 = .ok (.irem, 1) := by decide +kernel
theorem dX10_feed_100 : decode cX10_feed 100 = .ok (.imul, 1) := by decide +kernel
theorem dX10_feed_101 : decode cX10_feed 101 = .ok (.isub, 1) := by decide +kernel
theorem dX10_feed_102 : decode cX10_feed 102 = .ok (.ishr, 1) := by decide +kernel
theorem dX10_feed_103 : decode cX10_feed 103 = .ok (.sipush 255, 3) := by decide +kernel
theorem dX10_feed_106 : decode cX10_feed 106 = .ok (.iand, 1) := by decide +kernel
theorem dX10_feed_107 : decode cX10_feed 107 = .ok (.iastore, 1) := by decide +kernel
theorem dX10_feed_108 : decode cX10_feed 108 = .ok (.iinc 6 1, 3) := by decide +kernel
theorem dX10_feed_111 : decode cX10_feed 111 = .ok (.goto (-87), 3) := by decide +kernel
theorem dX10_feed_114 : decode cX10_feed 114 = .ok (.aload_n 0, 1) := by decide +kernel
theorem dX10_feed_115 : decode cX10_feed 115 = .ok (.dup, 1) := by decide +kernel
theorem dX10_feed_116 : decode cX10_feed 116 = .ok (.getfield 69, 3) := by decide +kernel
theorem dX10_feed_119 : decode cX10_feed 119 = .ok (.bipush 20, 2) := by decide +kernel
theorem dX10_feed_121 : decode cX10_feed 121 = .ok (.iadd, 1) := by decide +kernel
theorem dX10_feed_122 : decode cX10_feed 122 = .ok (.putfield 69, 3) := by decide +kernel
theorem dX10_feed_125 : decode cX10_feed 125 = .ok (.aload_n 0, 1) := by decide +kernel
theorem dX10_feed_126 : decode cX10_feed 126 = .ok (.getfield 69, 3) := by decide +kernel
theorem dX10_feed_129 : decode cX10_feed 129 = .ok (.ireturn, 1) := by decide +kernel
theorem dX10_copies_0 : decode cX10_copies 0 = .ok (.iconst 0, 1) := by decide +kernel
theorem dX10_copies_1 : decode cX10_copies 1 = .ok (.istore_n 2, 1) := by decide +kernel
theorem dX10_copies_2 : decode cX10_copies 2 = .ok (.iload_n 2, 1) := by decide +kernel
theorem dX10_copies_3 : decode cX10_copies 3 = .ok (.aload_n 0, 1) := by decide +kernel
theorem dX10_copies_4 : decode cX10_copies 4 = .ok (.arraylength, 1) := by decide +kernel
theorem dX10_copies_5 : decode cX10_copies 5 = .ok (.if_icmp .ge 15, 3) := by decide +kernel
theorem dX10_copies_8 : decode cX10_copies 8 = .ok (.aload_n 1, 1) := by decide +kernel
theorem dX10_copies_9 : decode cX10_copies 9 = .ok (.iload_n 2, 1) := by decide +kernel
theorem dX10_copies_10 : decode cX10_copies 10 = .ok (.aload_n 0, 1) := by decide +kernel
theorem dX10_copies_11 : decode cX10_copies 11 = .ok (.iload_n 2, 1) := by decide +kernel
theorem dX10_copies_12 : decode cX10_copies 12 = .ok (.iaload, 1) := by decide +kernel
theorem dX10_copies_13 : decode cX10_copies 13 = .ok (.iastore, 1) := by decide +kernel
theorem dX10_copies_14 : decode cX10_copies 14 = .ok (.iinc 2 1, 3) := by decide +kernel
theorem dX10_copies_17 : decode cX10_copies 17 = .ok (.goto (-15), 3) := by decide +kernel
theorem dX10_copies_20 : decode cX10_copies 20 = .ok (.return_, 1) := by decide +kernel
theorem dX10_newBooks_0 : decode cX10_newBooks 0 = .ok (.iconst 0, 1) := by decide +kernel
theorem dX10_newBooks_1 : decode cX10_newBooks 1 = .ok (.istore_n 1, 1) := by decide +kernel
theorem dX10_newBooks_2 : decode cX10_newBooks 2 = .ok (.iload_n 1, 1) := by decide +kernel
theorem dX10_newBooks_3 : decode cX10_newBooks 3 = .ok (.bipush 14, 2) := by decide +kernel
theorem dX10_newBooks_5 : decode cX10_newBooks 5 = .ok (.if_icmp .ge 16, 3) := by decide +kernel
theorem dX10_newBooks_8 : decode cX10_newBooks 8 = .ok (.aload_n 0, 1) := by decide +kernel
theorem dX10_newBooks_9 : decode cX10_newBooks 9 = .ok (.getfield 13, 3) := by decide +kernel
theorem dX10_newBooks_12 : decode cX10_newBooks 12 = .ok (.iload_n 1, 1) := by decide +kernel
theorem dX10_newBooks_13 : decode cX10_newBooks 13 = .ok (.iconst 0, 1) := by decide +kernel
theorem dX10_newBooks_14 : decode cX10_newBooks 14 = .ok (.iastore, 1) := by decide +kernel
theorem dX10_newBooks_15 : decode cX10_newBooks 15 = .ok (.iinc 1 1, 3) := by decide +kernel
theorem dX10_newBooks_18 : decode cX10_newBooks 18 = .ok (.goto (-16), 3) := by decide +kernel
theorem dX10_newBooks_21 : decode cX10_newBooks 21 = .ok (.iconst 0, 1) := by decide +kernel
theorem dX10_newBooks_22 : decode cX10_newBooks 22 = .ok (.istore_n 1, 1) := by decide +kernel
theorem dX10_newBooks_23 : decode cX10_newBooks 23 = .ok (.iload_n 1, 1) := by decide +kernel
theorem dX10_newBooks_24 : decode cX10_newBooks 24 = .ok (.sipush 497, 3) := by decide +kernel
theorem dX10_newBooks_27 : decode cX10_newBooks 27 = .ok (.if_icmp .ge 16, 3) := by decide +kernel
theorem dX10_newBooks_30 : decode cX10_newBooks 30 = .ok (.aload_n 0, 1) := by decide +kernel
theorem dX10_newBooks_31 : decode cX10_newBooks 31 = .ok (.getfield 19, 3) := by decide +kernel
theorem dX10_newBooks_34 : decode cX10_newBooks 34 = .ok (.iload_n 1, 1) := by decide +kernel
theorem dX10_newBooks_35 : decode cX10_newBooks 35 = .ok (.iconst 0, 1) := by decide +kernel
theorem dX10_newBooks_36 : decode cX10_newBooks 36 = .ok (.iastore, 1) := by decide +kernel
theorem dX10_newBooks_37 : decode cX10_newBooks 37 = .ok (.iinc 1 1, 3) := by decide +kernel
theorem dX10_newBooks_40 : decode cX10_newBooks 40 = .ok (.goto (-17), 3) := by decide +kernel
theorem dX10_newBooks_43 : decode cX10_newBooks 43 = .ok (.aload_n 0, 1) := by decide +kernel
theorem dX10_newBooks_44 : decode cX10_newBooks 44 = .ok (.getfield 19, 3) := by decide +kernel
theorem dX10_newBooks_47 : decode cX10_newBooks 47 = .ok (.iconst 0, 1) := by decide +kernel
theorem dX10_newBooks_48 : decode cX10_newBooks 48 = .ok (.bipush 25, 2) := by decide +kernel
theorem dX10_newBooks_50 : decode cX10_newBooks 50 = .ok (.iastore, 1) := by decide +kernel
theorem dX10_newBooks_51 : decode cX10_newBooks 51 = .ok (.aload_n 0, 1) := by decide +kernel
theorem dX10_newBooks_52 : decode cX10_newBooks 52 = .ok (.getfield 19, 3) := by decide +kernel
theorem dX10_newBooks_55 : decode cX10_newBooks 55 = .ok (.iconst 1, 1) := by decide +kernel
theorem dX10_newBooks_56 : decode cX10_newBooks 56 = .ok (.bipush 10, 2) := by decide +kernel
theorem dX10_newBooks_58 : decode cX10_newBooks 58 = .ok (.iastore, 1) := by decide +kernel
theorem dX10_newBooks_59 : decode cX10_newBooks 59 = .ok (.aload_n 0, 1) := by decide +kernel
theorem dX10_newBooks_60 : decode cX10_newBooks 60 = .ok (.getfield 19, 3) := by decide +kernel
theorem dX10_newBooks_63 : decode cX10_newBooks 63 = .ok (.iconst 2, 1) := by decide +kernel
theorem dX10_newBooks_64 : decode cX10_newBooks 64 = .ok (.iconst 5, 1) := by decide +kernel
theorem dX10_newBooks_65 : decode cX10_newBooks 65 = .ok (.iastore, 1) := by decide +kernel
theorem dX10_newBooks_66 : decode cX10_newBooks 66 = .ok (.aload_n 0, 1) := by decide +kernel
theorem dX10_newBooks_67 : decode cX10_newBooks 67 = .ok (.getfield 19, 3) := by decide +kernel
theorem dX10_newBooks_70 : decode cX10_newBooks 70 = .ok (.iconst 3, 1) := by decide +kernel
theorem dX10_newBooks_71 : decode cX10_newBooks 71 = .ok (.iconst 3, 1) := by decide +kernel
theorem dX10_newBooks_72 : decode cX10_newBooks 72 = .ok (.iastore, 1) := by decide +kernel
theorem dX10_newBooks_73 : decode cX10_newBooks 73 = .ok (.return_, 1) := by decide +kernel
theorem dX10_leastOf_0 : decode cX10_leastOf 0 = .ok (.iload_n 0, 1) := by decide +kernel
theorem dX10_leastOf_1 : decode cX10_leastOf 1 = .ok (.ifCond .ne 8, 3) := by decide +kernel
theorem dX10_leastOf_4 : decode cX10_leastOf 4 = .ok (.bipush 20, 2) := by decide +kernel
theorem dX10_leastOf_6 : decode cX10_leastOf 6 = .ok (.goto 13, 3) := by decide +kernel
theorem dX10_leastOf_9 : decode cX10_leastOf 9 = .ok (.iload_n 0, 1) := by decide +kernel
theorem dX10_leastOf_10 : decode cX10_leastOf 10 = .ok (.iconst 2, 1) := by decide +kernel
theorem dX10_leastOf_11 : decode cX10_leastOf 11 = .ok (.if_icmp .ne 7, 3) := by decide +kernel
theorem dX10_leastOf_14 : decode cX10_leastOf 14 = .ok (.iconst 1, 1) := by decide +kernel
theorem dX10_leastOf_15 : decode cX10_leastOf 15 = .ok (.goto 4, 3) := by decide +kernel
theorem dX10_leastOf_18 : decode cX10_leastOf 18 = .ok (.iconst 0, 1) := by decide +kernel
theorem dX10_leastOf_19 : decode cX10_leastOf 19 = .ok (.ireturn, 1) := by decide +kernel
theorem dX10_mostOf_0 : decode cX10_mostOf 0 = .ok (.iload_n 0, 1) := by decide +kernel
theorem dX10_mostOf_1 : decode cX10_mostOf 1 = .ok (.tableswitch 43 0 3 #[31, 34, 37, 40], 31) := by decide +kernel
theorem dX10_mostOf_32 : decode cX10_mostOf 32 = .ok (.bipush 100, 2) := by decide +kernel
theorem dX10_mostOf_34 : decode cX10_mostOf 34 = .ok (.ireturn, 1) := by decide +kernel
theorem dX10_mostOf_35 : decode cX10_mostOf 35 = .ok (.bipush 50, 2) := by decide +kernel
theorem dX10_mostOf_37 : decode cX10_mostOf 37 = .ok (.ireturn, 1) := by decide +kernel
theorem dX10_mostOf_38 : decode cX10_mostOf 38 = .ok (.bipush 10, 2) := by decide +kernel
theorem dX10_mostOf_40 : decode cX10_mostOf 40 = .ok (.ireturn, 1) := by decide +kernel
theorem dX10_mostOf_41 : decode cX10_mostOf 41 = .ok (.bipush 20, 2) := by decide +kernel
theorem dX10_mostOf_43 : decode cX10_mostOf 43 = .ok (.ireturn, 1) := by decide +kernel
theorem dX10_mostOf_44 : decode cX10_mostOf 44 = .ok (.iconst 2, 1) := by decide +kernel
theorem dX10_mostOf_45 : decode cX10_mostOf 45 = .ok (.ireturn, 1) := by decide +kernel
theorem dX10_shares_0 : decode cX10_shares 0 = .ok (.lconst 0, 1) := by decide +kernel
theorem dX10_shares_1 : decode cX10_shares 1 = .ok (.lstore 4, 2) := by decide +kernel
theorem dX10_shares_3 : decode cX10_shares 3 = .ok (.iconst 0, 1) := by decide +kernel
theorem dX10_shares_4 : decode cX10_shares 4 = .ok (.istore 6, 2) := by decide +kernel
theorem dX10_shares_6 : decode cX10_shares 6 = .ok (.iload 6, 2) := by decide +kernel
theorem dX10_shares_8 : decode cX10_shares 8 = .ok (.iload_n 1, 1) := by decide +kernel
theorem dX10_shares_9 : decode cX10_shares 9 = .ok (.if_icmp .ge 21, 3) := by decide +kernel
theorem dX10_shares_12 : decode cX10_shares 12 = .ok (.lload 4, 2) := by decide +kernel
theorem dX10_shares_14 : decode cX10_shares 14 = .ok (.aload_n 0, 1) := by decide +kernel
theorem dX10_shares_15 : decode cX10_shares 15 = .ok (.getfield 28, 3) := by decide +kernel
theorem dX10_shares_18 : decode cX10_shares 18 = .ok (.iload 6, 2) := by decide +kernel
theorem dX10_shares_20 : decode cX10_shares 20 = .ok (.laload, 1) := by decide +kernel
theorem dX10_shares_21 : decode cX10_shares 21 = .ok (.ladd, 1) := by decide +kernel
theorem dX10_shares_22 : decode cX10_shares 22 = .ok (.lstore 4, 2) := by decide +kernel
theorem dX10_shares_24 : decode cX10_shares 24 = .ok (.iinc 6 1, 3) := by decide +kernel
theorem dX10_shares_27 : decode cX10_shares 27 = .ok (.goto (-21), 3) := by decide +kernel
theorem dX10_shares_30 : decode cX10_shares 30 = .ok (.lload 4, 2) := by decide +kernel
theorem dX10_shares_32 : decode cX10_shares 32 = .ok (.lconst 0, 1) := by decide +kernel
theorem dX10_shares_33 : decode cX10_shares 33 = .ok (.lcmp, 1) := by decide +kernel
theorem dX10_shares_34 : decode cX10_shares 34 = .ok (.ifCond .ne 5, 3) := by decide +kernel
theorem dX10_shares_37 : decode cX10_shares 37 = .ok (.iconst 0, 1) := by decide +kernel
theorem dX10_shares_38 : decode cX10_shares 38 = .ok (.ireturn, 1) := by decide +kernel
theorem dX10_shares_39 : decode cX10_shares 39 = .ok (.lload_n 2, 1) := by decide +kernel
theorem dX10_shares_40 : decode cX10_shares 40 = .ok (.lstore 6, 2) := by decide +kernel
theorem dX10_shares_42 : decode cX10_shares 42 = .ok (.iconst 0, 1) := by decide +kernel
theorem dX10_shares_43 : decode cX10_shares 43 = .ok (.istore 8, 2) := by decide +kernel
theorem dX10_shares_45 : decode cX10_shares 45 = .ok (.iload 8, 2) := by decide +kernel
theorem dX10_shares_47 : decode cX10_shares 47 = .ok (.iload_n 1, 1) := by decide +kernel
theorem dX10_shares_48 : decode cX10_shares 48 = .ok (.if_icmp .ge 59, 3) := by decide +kernel
theorem dX10_shares_51 : decode cX10_shares 51 = .ok (.aload_n 0, 1) := by decide +kernel
theorem dX10_shares_52 : decode cX10_shares 52 = .ok (.getfield 32, 3) := by decide +kernel
theorem dX10_shares_55 : decode cX10_shares 55 = .ok (.iload 8, 2) := by decide +kernel
theorem dX10_shares_57 : decode cX10_shares 57 = .ok (.lload_n 2, 1) := by decide +kernel
theorem dX10_shares_58 : decode cX10_shares 58 = .ok (.aload_n 0, 1) := by decide +kernel
theorem dX10_shares_59 : decode cX10_shares 59 = .ok (.getfield 28, 3) := by decide +kernel
theorem dX10_shares_62 : decode cX10_shares 62 = .ok (.iload 8, 2) := by decide +kernel
theorem dX10_shares_64 : decode cX10_shares 64 = .ok (.laload, 1) := by decide +kernel
theorem dX10_shares_65 : decode cX10_shares 65 = .ok (.lmul, 1) := by decide +kernel
theorem dX10_shares_66 : decode cX10_shares 66 = .ok (.lload 4, 2) := by decide +kernel
theorem dX10_shares_68 : decode cX10_shares 68 = .ok (.ldiv, 1) := by decide +kernel
theorem dX10_shares_69 : decode cX10_shares 69 = .ok (.lastore, 1) := by decide +kernel
theorem dX10_shares_70 : decode cX10_shares 70 = .ok (.aload_n 0, 1) := by decide +kernel
theorem dX10_shares_71 : decode cX10_shares 71 = .ok (.getfield 35, 3) := by decide +kernel
theorem dX10_shares_74 : decode cX10_shares 74 = .ok (.iload 8, 2) := by decide +kernel
theorem dX10_shares_76 : decode cX10_shares 76 = .ok (.lload_n 2, 1) := by decide +kernel
theorem dX10_shares_77 : decode cX10_shares 77 = .ok (.aload_n 0, 1) := by decide +kernel
theorem dX10_shares_78 : decode cX10_shares 78 = .ok (.getfield 28, 3) := by decide +kernel
theorem dX10_shares_81 : decode cX10_shares 81 = .ok (.iload 8, 2) := by decide +kernel
theorem dX10_shares_83 : decode cX10_shares 83 = .ok (.laload, 1) := by decide +kernel
theorem dX10_shares_84 : decode cX10_shares 84 = .ok (.lmul, 1) := by decide +kernel
theorem dX10_shares_85 : decode cX10_shares 85 = .ok (.lload 4, 2) := by decide +kernel
theorem dX10_shares_87 : decode cX10_shares 87 = .ok (.lrem, 1) := by decide +kernel
theorem dX10_shares_88 : decode cX10_shares 88 = .ok (.lastore, 1) := by decide +kernel
theorem dX10_shares_89 : decode cX10_shares 89 = .ok (.lload 6, 2) := by decide +kernel
theorem dX10_shares_91 : decode cX10_shares 91 = .ok (.aload_n 0, 1) := by decide +kernel
theorem dX10_shares_92 : decode cX10_shares 92 = .ok (.getfield 32, 3) := by decide +kernel
theorem dX10_shares_95 : decode cX10_shares 95 = .ok (.iload 8, 2) := by decide +kernel
theorem dX10_shares_97 : decode cX10_shares 97 = .ok (.laload, 1) := by decide +kernel
theorem dX10_shares_98 : decode cX10_shares 98 = .ok (.lsub, 1) := by decide +kernel
theorem dX10_shares_99 : decode cX10_shares 99 = .ok (.lstore 6, 2) := by decide +kernel
theorem dX10_shares_101 : decode cX10_shares 101 = .ok (.iinc 8 1, 3) := by decide +kernel
theorem dX10_shares_104 : decode cX10_shares 104 = .ok (.goto (-59), 3) := by decide +kernel
theorem dX10_shares_107 : decode cX10_shares 107 = .ok (.lload 6, 2) := by decide +kernel
theorem dX10_shares_109 : decode cX10_shares 109 = .ok (.lconst 0, 1) := by decide +kernel
theorem dX10_shares_110 : decode cX10_shares 110 = .ok (.lcmp, 1) := by decide +kernel
theorem dX10_shares_111 : decode cX10_shares 111 = .ok (.ifCond .le 73, 3) := by decide +kernel
theorem dX10_shares_114 : decode cX10_shares 114 = .ok (.iconst 0, 1) := by decide +kernel
theorem dX10_shares_115 : decode cX10_shares 115 = .ok (.istore 8, 2) := by decide +kernel
theorem dX10_shares_117 : decode cX10_shares 117 = .ok (.iconst 1, 1) := by decide +kernel
theorem dX10_shares_118 : decode cX10_shares 118 = .ok (.istore 9, 2) := by decide +kernel
theorem dX10_shares_120 : decode cX10_shares 120 = .ok (.iload 9, 2) := by decide +kernel
theorem dX10_shares_122 : decode cX10_shares 122 = .ok (.iload_n 1, 1) := by decide +kernel
theorem dX10_shares_123 : decode cX10_shares 123 = .ok (.if_icmp .ge 31, 3) := by decide +kernel
theorem dX10_shares_126 : decode cX10_shares 126 = .ok (.aload_n 0, 1) := by decide +kernel
theorem dX10_shares_127 : decode cX10_shares 127 = .ok (.getfield 35, 3) := by decide +kernel
theorem dX10_shares_130 : decode cX10_shares 130 = .ok (.iload 9, 2) := by decide +kernel
theorem dX10_shares_132 : decode cX10_shares 132 = .ok (.laload, 1) := by decide +kernel
theorem dX10_shares_133 : decode cX10_shares 133 = .ok (.aload_n 0, 1) := by decide +kernel
theorem dX10_shares_134 : decode cX10_shares 134 = .ok (.getfield 35, 3) := by decide +kernel
theorem dX10_shares_137 : decode cX10_shares 137 = .ok (.iload 8, 2) := by decide +kernel
theorem dX10_shares_139 : decode cX10_shares 139 = .ok (.laload, 1) := by decide +kernel
theorem dX10_shares_140 : decode cX10_shares 140 = .ok (.lcmp, 1) := by decide +kernel
theorem dX10_shares_141 : decode cX10_shares 141 = .ok (.ifCond .le 7, 3) := by decide +kernel
theorem dX10_shares_144 : decode cX10_shares 144 = .ok (.iload 9, 2) := by decide +kernel
theorem dX10_shares_146 : decode cX10_shares 146 = .ok (.istore 8, 2) := by decide +kernel
theorem dX10_shares_148 : decode cX10_shares 148 = .ok (.iinc 9 1, 3) := by decide +kernel
theorem dX10_shares_151 : decode cX10_shares 151 = .ok (.goto (-31), 3) := by decide +kernel
theorem dX10_shares_154 : decode cX10_shares 154 = .ok (.aload_n 0, 1) := by decide +kernel
theorem dX10_shares_155 : decode cX10_shares 155 = .ok (.getfield 32, 3) := by decide +kernel
theorem dX10_shares_158 : decode cX10_shares 158 = .ok (.iload 8, 2) := by decide +kernel
theorem dX10_shares_160 : decode cX10_shares 160 = .ok (.dup2, 1) := by decide +kernel
theorem dX10_shares_161 : decode cX10_shares 161 = .ok (.laload, 1) := by decide +kernel
theorem dX10_shares_162 : decode cX10_shares 162 = .ok (.lconst 1, 1) := by decide +kernel
theorem dX10_shares_163 : decode cX10_shares 163 = .ok (.ladd, 1) := by decide +kernel
theorem dX10_shares_164 : decode cX10_shares 164 = .ok (.lastore, 1) := by decide +kernel
theorem dX10_shares_165 : decode cX10_shares 165 = .ok (.aload_n 0, 1) := by decide +kernel
theorem dX10_shares_166 : decode cX10_shares 166 = .ok (.getfield 35, 3) := by decide +kernel
theorem dX10_shares_169 : decode cX10_shares 169 = .ok (.iload 8, 2) := by decide +kernel
theorem dX10_shares_171 : decode cX10_shares 171 = .ok (.ldc2_w 72, 3) := by decide +kernel
theorem dX10_shares_174 : decode cX10_shares 174 = .ok (.lastore, 1) := by decide +kernel
theorem dX10_shares_175 : decode cX10_shares 175 = .ok (.lload 6, 2) := by decide +kernel
theorem dX10_shares_177 : decode cX10_shares 177 = .ok (.lconst 1, 1) := by decide +kernel
theorem dX10_shares_178 : decode cX10_shares 178 = .ok (.lsub, 1) := by decide +kernel
theorem dX10_shares_179 : decode cX10_shares 179 = .ok (.lstore 6, 2) := by decide +kernel
theorem dX10_shares_181 : decode cX10_shares 181 = .ok (.goto (-74), 3) := by decide +kernel
theorem dX10_shares_184 : decode cX10_shares 184 = .ok (.iconst 1, 1) := by decide +kernel
theorem dX10_shares_185 : decode cX10_shares 185 = .ok (.ireturn, 1) := by decide +kernel
theorem dX10_laysResults_0 : decode cX10_laysResults 0 = .ok (.aload_n 0, 1) := by decide +kernel
theorem dX10_laysResults_1 : decode cX10_laysResults 1 = .ok (.getfield 38, 3) := by decide +kernel
theorem dX10_laysResults_4 : decode cX10_laysResults 4 = .ok (.iconst 0, 1) := by decide +kernel
theorem dX10_laysResults_5 : decode cX10_laysResults 5 = .ok (.iload_n 1, 1) := by decide +kernel
theorem dX10_laysResults_6 : decode cX10_laysResults 6 = .ok (.iastore, 1) := by decide +kernel
theorem dX10_laysResults_7 : decode cX10_laysResults 7 = .ok (.aload_n 0, 1) := by decide +kernel
theorem dX10_laysResults_8 : decode cX10_laysResults 8 = .ok (.getfield 38, 3) := by decide +kernel
theorem dX10_laysResults_11 : decode cX10_laysResults 11 = .ok (.iconst 1, 1) := by decide +kernel
theorem dX10_laysResults_12 : decode cX10_laysResults 12 = .ok (.iload_n 2, 1) := by decide +kernel
theorem dX10_laysResults_13 : decode cX10_laysResults 13 = .ok (.iastore, 1) := by decide +kernel
theorem dX10_laysResults_14 : decode cX10_laysResults 14 = .ok (.aload_n 0, 1) := by decide +kernel
theorem dX10_laysResults_15 : decode cX10_laysResults 15 = .ok (.getfield 38, 3) := by decide +kernel
theorem dX10_laysResults_18 : decode cX10_laysResults 18 = .ok (.iconst 2, 1) := by decide +kernel
theorem dX10_laysResults_19 : decode cX10_laysResults 19 = .ok (.iload_n 3, 1) := by decide +kernel
theorem dX10_laysResults_20 : decode cX10_laysResults 20 = .ok (.iastore, 1) := by decide +kernel
theorem dX10_laysResults_21 : decode cX10_laysResults 21 = .ok (.aload_n 0, 1) := by decide +kernel
theorem dX10_laysResults_22 : decode cX10_laysResults 22 = .ok (.getfield 38, 3) := by decide +kernel
theorem dX10_laysResults_25 : decode cX10_laysResults 25 = .ok (.iconst 3, 1) := by decide +kernel
theorem dX10_laysResults_26 : decode cX10_laysResults 26 = .ok (.iload 4, 2) := by decide +kernel
theorem dX10_laysResults_28 : decode cX10_laysResults 28 = .ok (.iastore, 1) := by decide +kernel
theorem dX10_laysResults_29 : decode cX10_laysResults 29 = .ok (.return_, 1) := by decide +kernel
theorem dX10_areResults_0 : decode cX10_areResults 0 = .ok (.iconst 0, 1) := by decide +kernel
theorem dX10_areResults_1 : decode cX10_areResults 1 = .ok (.istore_n 1, 1) := by decide +kernel
theorem dX10_areResults_2 : decode cX10_areResults 2 = .ok (.iload_n 1, 1) := by decide +kernel
theorem dX10_areResults_3 : decode cX10_areResults 3 = .ok (.iconst 4, 1) := by decide +kernel
theorem dX10_areResults_4 : decode cX10_areResults 4 = .ok (.if_icmp .ge 50, 3) := by decide +kernel
theorem dX10_areResults_7 : decode cX10_areResults 7 = .ok (.iload_n 1, 1) := by decide +kernel
theorem dX10_areResults_8 : decode cX10_areResults 8 = .ok (.aload_n 0, 1) := by decide +kernel
theorem dX10_areResults_9 : decode cX10_areResults 9 = .ok (.getfield 13, 3) := by decide +kernel
theorem dX10_areResults_12 : decode cX10_areResults 12 = .ok (.bipush 13, 2) := by decide +kernel
theorem dX10_areResults_14 : decode cX10_areResults 14 = .ok (.iaload, 1) := by decide +kernel
theorem dX10_areResults_15 : decode cX10_areResults 15 = .ok (.if_icmp .ge 8, 3) := by decide +kernel
theorem dX10_areResults_18 : decode cX10_areResults 18 = .ok (.ldc 74, 2) := by decide +kernel
theorem dX10_areResults_20 : decode cX10_areResults 20 = .ok (.goto 4, 3) := by decide +kernel
theorem dX10_areResults_23 : decode cX10_areResults 23 = .ok (.iconst 0, 1) := by decide +kernel
theorem dX10_areResults_24 : decode cX10_areResults 24 = .ok (.istore_n 2, 1) := by decide +kernel
theorem dX10_areResults_25 : decode cX10_areResults 25 = .ok (.aload_n 0, 1) := by decide +kernel
theorem dX10_areResults_26 : decode cX10_areResults 26 = .ok (.getfield 38, 3) := by decide +kernel
theorem dX10_areResults_29 : decode cX10_areResults 29 = .ok (.iload_n 1, 1) := by decide +kernel
theorem dX10_areResults_30 : decode cX10_areResults 30 = .ok (.iaload, 1) := by decide +kernel
theorem dX10_areResults_31 : decode cX10_areResults 31 = .ok (.iload_n 2, 1) := by decide +kernel
theorem dX10_areResults_32 : decode cX10_areResults 32 = .ok (.ineg, 1) := by decide +kernel
theorem dX10_areResults_33 : decode cX10_areResults 33 = .ok (.if_icmp .lt 13, 3) := by decide +kernel
theorem dX10_areResults_36 : decode cX10_areResults 36 = .ok (.aload_n 0, 1) := by decide +kernel
theorem dX10_areResults_37 : decode cX10_areResults 37 = .ok (.getfield 38, 3) := by decide +kernel
theorem dX10_areResults_40 : decode cX10_areResults 40 = .ok (.iload_n 1, 1) := by decide +kernel
theorem dX10_areResults_41 : decode cX10_areResults 41 = .ok (.iaload, 1) := by decide +kernel
theorem dX10_areResults_42 : decode cX10_areResults 42 = .ok (.iload_n 2, 1) := by decide +kernel
theorem dX10_areResults_43 : decode cX10_areResults 43 = .ok (.if_icmp .le 5, 3) := by decide +kernel
theorem dX10_areResults_46 : decode cX10_areResults 46 = .ok (.iconst 0, 1) := by decide +kernel
theorem dX10_areResults_47 : decode cX10_areResults 47 = .ok (.ireturn, 1) := by decide +kernel
theorem dX10_areResults_48 : decode cX10_areResults 48 = .ok (.iinc 1 1, 3) := by decide +kernel
theorem dX10_areResults_51 : decode cX10_areResults 51 = .ok (.goto (-49), 3) := by decide +kernel
theorem dX10_areResults_54 : decode cX10_areResults 54 = .ok (.iconst 1, 1) := by decide +kernel
theorem dX10_areResults_55 : decode cX10_areResults 55 = .ok (.ireturn, 1) := by decide +kernel
theorem dX10_deals_0 : decode cX10_deals 0 = .ok (.aload_n 0, 1) := by decide +kernel
theorem dX10_deals_1 : decode cX10_deals 1 = .ok (.getfield 38, 3) := by decide +kernel
theorem dX10_deals_4 : decode cX10_deals 4 = .ok (.iload_n 1, 1) := by decide +kernel
theorem dX10_deals_5 : decode cX10_deals 5 = .ok (.iaload, 1) := by decide +kernel
theorem dX10_deals_6 : decode cX10_deals 6 = .ok (.istore_n 2, 1) := by decide +kernel
theorem dX10_deals_7 : decode cX10_deals 7 = .ok (.iload_n 2, 1) := by decide +kernel
theorem dX10_deals_8 : decode cX10_deals 8 = .ok (.ifCond .le 17, 3) := by decide +kernel
theorem dX10_deals_11 : decode cX10_deals 11 = .ok (.iload_n 2, 1) := by decide +kernel
theorem dX10_deals_12 : decode cX10_deals 12 = .ok (.aload_n 0, 1) := by decide +kernel
theorem dX10_deals_13 : decode cX10_deals 13 = .ok (.getfield 19, 3) := by decide +kernel
theorem dX10_deals_16 : decode cX10_deals 16 = .ok (.iconst 1, 1) := by decide +kernel
theorem dX10_deals_17 : decode cX10_deals 17 = .ok (.iaload, 1) := by decide +kernel
theorem dX10_deals_18 : decode cX10_deals 18 = .ok (.imul, 1) := by decide +kernel
theorem dX10_deals_19 : decode cX10_deals 19 = .ok (.bipush 100, 2) := by decide +kernel
theorem dX10_deals_21 : decode cX10_deals 21 = .ok (.idiv, 1) := by decide +kernel
theorem dX10_deals_22 : decode cX10_deals 22 = .ok (.goto 4, 3) := by decide +kernel
theorem dX10_deals_25 : decode cX10_deals 25 = .ok (.iconst 0, 1) := by decide +kernel
theorem dX10_deals_26 : decode cX10_deals 26 = .ok (.istore_n 3, 1) := by decide +kernel
theorem dX10_deals_27 : decode cX10_deals 27 = .ok (.iload_n 2, 1) := by decide +kernel
theorem dX10_deals_28 : decode cX10_deals 28 = .ok (.iload_n 3, 1) := by decide +kernel
theorem dX10_deals_29 : decode cX10_deals 29 = .ok (.isub, 1) := by decide +kernel
theorem dX10_deals_30 : decode cX10_deals 30 = .ok (.istore 4, 2) := by decide +kernel
theorem dX10_deals_32 : decode cX10_deals 32 = .ok (.aload_n 0, 1) := by decide +kernel
theorem dX10_deals_33 : decode cX10_deals 33 = .ok (.dup, 1) := by decide +kernel
theorem dX10_deals_34 : decode cX10_deals 34 = .ok (.getfield 75, 3) := by decide +kernel
theorem dX10_deals_37 : decode cX10_deals 37 = .ok (.iload_n 3, 1) := by decide +kernel
theorem dX10_deals_38 : decode cX10_deals 38 = .ok (.iadd, 1) := by decide +kernel
theorem dX10_deals_39 : decode cX10_deals 39 = .ok (.putfield 75, 3) := by decide +kernel
theorem dX10_deals_42 : decode cX10_deals 42 = .ok (.iconst 0, 1) := by decide +kernel
theorem dX10_deals_43 : decode cX10_deals 43 = .ok (.istore 5, 2) := by decide +kernel
theorem dX10_deals_45 : decode cX10_deals 45 = .ok (.iload 5, 2) := by decide +kernel
theorem dX10_deals_47 : decode cX10_deals 47 = .ok (.aload_n 0, 1) := by decide +kernel
theorem dX10_deals_48 : decode cX10_deals 48 = .ok (.getfield 13, 3) := by decide +kernel
theorem dX10_deals_51 : decode cX10_deals 51 = .ok (.bipush 12, 2) := by decide +kernel
theorem dX10_deals_53 : decode cX10_deals 53 = .ok (.iaload, 1) := by decide +kernel
theorem dX10_deals_54 : decode cX10_deals 54 = .ok (.if_icmp .ge 31, 3) := by decide +kernel
theorem dX10_deals_57 : decode cX10_deals 57 = .ok (.aload_n 0, 1) := by decide +kernel
theorem dX10_deals_58 : decode cX10_deals 58 = .ok (.getfield 28, 3) := by decide +kernel
theorem dX10_deals_61 : decode cX10_deals 61 = .ok (.iload 5, 2) := by decide +kernel
theorem dX10_deals_63 : decode cX10_deals 63 = .ok (.aload_n 0, 1) := by decide +kernel
theorem dX10_deals_64 : decode cX10_deals 64 = .ok (.getfield 19, 3) := by decide +kernel
theorem dX10_deals_67 : decode cX10_deals 67 = .ok (.bipush 29, 2) := by decide +kernel
theorem dX10_deals_69 : decode cX10_deals 69 = .ok (.iconst 4, 1) := by decide +kernel
theorem dX10_deals_70 : decode cX10_deals 70 = .ok (.iload 5, 2) := by decide +kernel
theorem dX10_deals_72 : decode cX10_deals 72 = .ok (.imul, 1) := by decide +kernel
theorem dX10_deals_73 : decode cX10_deals 73 = .ok (.iadd, 1) := by decide +kernel
theorem dX10_deals_74 : decode cX10_deals 74 = .ok (.iload_n 1, 1) := by decide +kernel
theorem dX10_deals_75 : decode cX10_deals 75 = .ok (.iadd, 1) := by decide +kernel
theorem dX10_deals_76 : decode cX10_deals 76 = .ok (.iaload, 1) := by decide +kernel
theorem dX10_deals_77 : decode cX10_deals 77 = .ok (.i2l, 1) := by decide +kernel
theorem dX10_deals_78 : decode cX10_deals 78 = .ok (.lastore, 1) := by decide +kernel
theorem dX10_deals_79 : decode cX10_deals 79 = .ok (.iinc 5 1, 3) := by decide +kernel
theorem dX10_deals_82 : decode cX10_deals 82 = .ok (.goto (-37), 3) := by decide +kernel
theorem dX10_deals_85 : decode cX10_deals 85 = .ok (.aload_n 0, 1) := by decide +kernel
theorem dX10_deals_86 : decode cX10_deals 86 = .ok (.aload_n 0, 1) := by decide +kernel
theorem dX10_deals_87 : decode cX10_deals 87 = .ok (.getfield 13, 3) := by decide +kernel
theorem dX10_deals_90 : decode cX10_deals 90 = .ok (.bipush 12, 2) := by decide +kernel
theorem dX10_deals_92 : decode cX10_deals 92 = .ok (.iaload, 1) := by decide +kernel
theorem dX10_deals_93 : decode cX10_deals 93 = .ok (.iload 4, 2) := by decide +kernel
theorem dX10_deals_95 : decode cX10_deals 95 = .ok (.invokestatic 78, 3) := by decide +kernel
theorem dX10_deals_98 : decode cX10_deals 98 = .ok (.i2l, 1) := by decide +kernel
theorem dX10_deals_99 : decode cX10_deals 99 = .ok (.invokevirtual 84, 3) := by decide +kernel
theorem dX10_deals_102 : decode cX10_deals 102 = .ok (.ifCond .ne 15, 3) := by decide +kernel
theorem dX10_deals_105 : decode cX10_deals 105 = .ok (.aload_n 0, 1) := by decide +kernel
theorem dX10_deals_106 : decode cX10_deals 106 = .ok (.dup, 1) := by decide +kernel
theorem dX10_deals_107 : decode cX10_deals 107 = .ok (.getfield 75, 3) := by decide +kernel
theorem dX10_deals_110 : decode cX10_deals 110 = .ok (.iload 4, 2) := by decide +kernel
theorem dX10_deals_112 : decode cX10_deals 112 = .ok (.iadd, 1) := by decide +kernel
theorem dX10_deals_113 : decode cX10_deals 113 = .ok (.putfield 75, 3) := by decide +kernel
theorem dX10_deals_116 : decode cX10_deals 116 = .ok (.return_, 1) := by decide +kernel
theorem dX10_deals_117 : decode cX10_deals 117 = .ok (.aload_n 0, 1) := by decide +kernel
theorem dX10_deals_118 : decode cX10_deals 118 = .ok (.getfield 44, 3) := by decide +kernel
theorem dX10_deals_121 : decode cX10_deals 121 = .ok (.iload_n 1, 1) := by decide +kernel
theorem dX10_deals_122 : decode cX10_deals 122 = .ok (.iload 4, 2) := by decide +kernel
theorem dX10_deals_124 : decode cX10_deals 124 = .ok (.iastore, 1) := by decide +kernel
theorem dX10_deals_125 : decode cX10_deals 125 = .ok (.iconst 0, 1) := by decide +kernel
theorem dX10_deals_126 : decode cX10_deals 126 = .ok (.istore 5, 2) := by decide +kernel
theorem dX10_deals_128 : decode cX10_deals 128 = .ok (.iload 5, 2) := by decide +kernel
theorem dX10_deals_130 : decode cX10_deals 130 = .ok (.aload_n 0, 1) := by decide +kernel
theorem dX10_deals_131 : decode cX10_deals 131 = .ok (.getfield 13, 3) := by decide +kernel
theorem dX10_deals_134 : decode cX10_deals 134 = .ok (.bipush 12, 2) := by decide +kernel
theorem dX10_deals_136 : decode cX10_deals 136 = .ok (.iaload, 1) := by decide +kernel
theorem dX10_deals_137 : decode cX10_deals 137 = .ok (.if_icmp .ge 38, 3) := by decide +kernel
theorem dX10_deals_140 : decode cX10_deals 140 = .ok (.aload_n 0, 1) := by decide +kernel
theorem dX10_deals_141 : decode cX10_deals 141 = .ok (.getfield 41, 3) := by decide +kernel
theorem dX10_deals_144 : decode cX10_deals 144 = .ok (.iload 5, 2) := by decide +kernel
theorem dX10_deals_146 : decode cX10_deals 146 = .ok (.dup2, 1) := by decide +kernel
theorem dX10_deals_147 : decode cX10_deals 147 = .ok (.iaload, 1) := by decide +kernel
theorem dX10_deals_148 : decode cX10_deals 148 = .ok (.aload_n 0, 1) := by decide +kernel
theorem dX10_deals_149 : decode cX10_deals 149 = .ok (.getfield 32, 3) := by decide +kernel
theorem dX10_deals_152 : decode cX10_deals 152 = .ok (.iload 5, 2) := by decide +kernel
theorem dX10_deals_154 : decode cX10_deals 154 = .ok (.laload, 1) := by decide +kernel
theorem dX10_deals_155 : decode cX10_deals 155 = .ok (.l2i, 1) := by decide +kernel
theorem dX10_deals_156 : decode cX10_deals 156 = .ok (.iload 4, 2) := by decide +kernel
theorem dX10_deals_158 : decode cX10_deals 158 = .ok (.ifCond .ge 7, 3) := by decide +kernel
theorem dX10_deals_161 : decode cX10_deals 161 = .ok (.iconst (-1), 1) := by decide +kernel
theorem dX10_deals_162 : decode cX10_deals 162 = .ok (.goto 4, 3) := by decide +kernel
theorem dX10_deals_165 : decode cX10_deals 165 = .ok (.iconst 1, 1) := by decide +kernel
theorem dX10_deals_166 : decode cX10_deals 166 = .ok (.imul, 1) := by decide +kernel
theorem dX10_deals_167 : decode cX10_deals 167 = .ok (.iadd, 1) := by decide +kernel
theorem dX10_deals_168 : decode cX10_deals 168 = .ok (.iastore, 1) := by decide +kernel
theorem dX10_deals_169 : decode cX10_deals 169 = .ok (.iinc 5 1, 3) := by decide +kernel
theorem dX10_deals_172 : decode cX10_deals 172 = .ok (.goto (-44), 3) := by decide +kernel
theorem dX10_deals_175 : decode cX10_deals 175 = .ok (.return_, 1) := by decide +kernel
theorem dX10_dealsAll_0 : decode cX10_dealsAll 0 = .ok (.aload_n 0, 1) := by decide +kernel
theorem dX10_dealsAll_1 : decode cX10_dealsAll 1 = .ok (.iconst 0, 1) := by decide +kernel
theorem dX10_dealsAll_2 : decode cX10_dealsAll 2 = .ok (.putfield 75, 3) := by decide +kernel
theorem dX10_dealsAll_5 : decode cX10_dealsAll 5 = .ok (.iconst 0, 1) := by decide +kernel
theorem dX10_dealsAll_6 : decode cX10_dealsAll 6 = .ok (.istore_n 1, 1) := by decide +kernel
theorem dX10_dealsAll_7 : decode cX10_dealsAll 7 = .ok (.iload_n 1, 1) := by decide +kernel
theorem dX10_dealsAll_8 : decode cX10_dealsAll 8 = .ok (.bipush 8, 2) := by decide +kernel
theorem dX10_dealsAll_10 : decode cX10_dealsAll 10 = .ok (.if_icmp .ge 16, 3) := by decide +kernel
theorem dX10_dealsAll_13 : decode cX10_dealsAll 13 = .ok (.aload_n 0, 1) := by decide +kernel
theorem dX10_dealsAll_14 : decode cX10_dealsAll 14 = .ok (.getfield 41, 3) := by decide +kernel
theorem dX10_dealsAll_17 : decode cX10_dealsAll 17 = .ok (.iload_n 1, 1) := by decide +kernel
theorem dX10_dealsAll_18 : decode cX10_dealsAll 18 = .ok (.iconst 0, 1) := by decide +kernel
theorem dX10_dealsAll_19 : decode cX10_dealsAll 19 = .ok (.iastore, 1) := by decide +kernel
theorem dX10_dealsAll_20 : decode cX10_dealsAll 20 = .ok (.iinc 1 1, 3) := by decide +kernel
theorem dX10_dealsAll_23 : decode cX10_dealsAll 23 = .ok (.goto (-16), 3) := by decide +kernel
theorem dX10_dealsAll_26 : decode cX10_dealsAll 26 = .ok (.iconst 0, 1) := by decide +kernel
theorem dX10_dealsAll_27 : decode cX10_dealsAll 27 = .ok (.istore_n 1, 1) := by decide +kernel
theorem dX10_dealsAll_28 : decode cX10_dealsAll 28 = .ok (.iload_n 1, 1) := by decide +kernel
theorem dX10_dealsAll_29 : decode cX10_dealsAll 29 = .ok (.iconst 4, 1) := by decide +kernel
theorem dX10_dealsAll_30 : decode cX10_dealsAll 30 = .ok (.if_icmp .ge 16, 3) := by decide +kernel
theorem dX10_dealsAll_33 : decode cX10_dealsAll 33 = .ok (.aload_n 0, 1) := by decide +kernel
theorem dX10_dealsAll_34 : decode cX10_dealsAll 34 = .ok (.getfield 44, 3) := by decide +kernel
theorem dX10_dealsAll_37 : decode cX10_dealsAll 37 = .ok (.iload_n 1, 1) := by decide +kernel
theorem dX10_dealsAll_38 : decode cX10_dealsAll 38 = .ok (.iconst 0, 1) := by decide +kernel
theorem dX10_dealsAll_39 : decode cX10_dealsAll 39 = .ok (.iastore, 1) := by decide +kernel
theorem dX10_dealsAll_40 : decode cX10_dealsAll 40 = .ok (.iinc 1 1, 3) := by decide +kernel
theorem dX10_dealsAll_43 : decode cX10_dealsAll 43 = .ok (.goto (-15), 3) := by decide +kernel
theorem dX10_dealsAll_46 : decode cX10_dealsAll 46 = .ok (.iconst 0, 1) := by decide +kernel
theorem dX10_dealsAll_47 : decode cX10_dealsAll 47 = .ok (.istore_n 1, 1) := by decide +kernel
theorem dX10_dealsAll_48 : decode cX10_dealsAll 48 = .ok (.iload_n 1, 1) := by decide +kernel
theorem dX10_dealsAll_49 : decode cX10_dealsAll 49 = .ok (.aload_n 0, 1) := by decide +kernel
theorem dX10_dealsAll_50 : decode cX10_dealsAll 50 = .ok (.getfield 13, 3) := by decide +kernel
theorem dX10_dealsAll_53 : decode cX10_dealsAll 53 = .ok (.bipush 13, 2) := by decide +kernel
theorem dX10_dealsAll_55 : decode cX10_dealsAll 55 = .ok (.iaload, 1) := by decide +kernel
theorem dX10_dealsAll_56 : decode cX10_dealsAll 56 = .ok (.if_icmp .ge 14, 3) := by decide +kernel
theorem dX10_dealsAll_59 : decode cX10_dealsAll 59 = .ok (.aload_n 0, 1) := by decide +kernel
theorem dX10_dealsAll_60 : decode cX10_dealsAll 60 = .ok (.iload_n 1, 1) := by decide +kernel
theorem dX10_dealsAll_61 : decode cX10_dealsAll 61 = .ok (.invokevirtual 88, 3) := by decide +kernel
theorem dX10_dealsAll_64 : decode cX10_dealsAll 64 = .ok (.iinc 1 1, 3) := by decide +kernel
theorem dX10_dealsAll_67 : decode cX10_dealsAll 67 = .ok (.goto (-19), 3) := by decide +kernel
theorem dX10_dealsAll_70 : decode cX10_dealsAll 70 = .ok (.return_, 1) := by decide +kernel
theorem dX10_left_0 : decode cX10_left 0 = .ok (.aload_n 0, 1) := by decide +kernel
theorem dX10_left_1 : decode cX10_left 1 = .ok (.getfield 19, 3) := by decide +kernel
theorem dX10_left_4 : decode cX10_left 4 = .ok (.bipush 61, 2) := by decide +kernel
theorem dX10_left_6 : decode cX10_left 6 = .ok (.bipush 24, 2) := by decide +kernel
theorem dX10_left_8 : decode cX10_left 8 = .ok (.iload_n 1, 1) := by decide +kernel
theorem dX10_left_9 : decode cX10_left 9 = .ok (.imul, 1) := by decide +kernel
theorem dX10_left_10 : decode cX10_left 10 = .ok (.iadd, 1) := by decide +kernel
theorem dX10_left_11 : decode cX10_left 11 = .ok (.iload_n 2, 1) := by decide +kernel
theorem dX10_left_12 : decode cX10_left 12 = .ok (.iadd, 1) := by decide +kernel
theorem dX10_left_13 : decode cX10_left 13 = .ok (.iaload, 1) := by decide +kernel
theorem dX10_left_14 : decode cX10_left 14 = .ok (.ireturn, 1) := by decide +kernel
theorem dX10_takes_0 : decode cX10_takes 0 = .ok (.aload_n 0, 1) := by decide +kernel
theorem dX10_takes_1 : decode cX10_takes 1 = .ok (.getfield 19, 3) := by decide +kernel
theorem dX10_takes_4 : decode cX10_takes 4 = .ok (.bipush 61, 2) := by decide +kernel
theorem dX10_takes_6 : decode cX10_takes 6 = .ok (.bipush 24, 2) := by decide +kernel
theorem dX10_takes_8 : decode cX10_takes 8 = .ok (.iload_n 1, 1) := by decide +kernel
theorem dX10_takes_9 : decode cX10_takes 9 = .ok (.imul, 1) := by decide +kernel
theorem dX10_takes_10 : decode cX10_takes 10 = .ok (.iadd, 1) := by decide +kernel
theorem dX10_takes_11 : decode cX10_takes 11 = .ok (.iload_n 2, 1) := by decide +kernel
theorem dX10_takes_12 : decode cX10_takes 12 = .ok (.iadd, 1) := by decide +kernel
theorem dX10_takes_13 : decode cX10_takes 13 = .ok (.dup2, 1) := by decide +kernel
theorem dX10_takes_14 : decode cX10_takes 14 = .ok (.iaload, 1) := by decide +kernel
theorem dX10_takes_15 : decode cX10_takes 15 = .ok (.iload_n 3, 1) := by decide +kernel
theorem dX10_takes_16 : decode cX10_takes 16 = .ok (.isub, 1) := by decide +kernel
theorem dX10_takes_17 : decode cX10_takes 17 = .ok (.iastore, 1) := by decide +kernel
theorem dX10_takes_18 : decode cX10_takes 18 = .ok (.return_, 1) := by decide +kernel
theorem dX10_pays_0 : decode cX10_pays 0 = .ok (.aload_n 0, 1) := by decide +kernel
theorem dX10_pays_1 : decode cX10_pays 1 = .ok (.getfield 19, 3) := by decide +kernel
theorem dX10_pays_4 : decode cX10_pays 4 = .ok (.sipush 445, 3) := by decide +kernel
theorem dX10_pays_7 : decode cX10_pays 7 = .ok (.iconst 3, 1) := by decide +kernel
theorem dX10_pays_8 : decode cX10_pays 8 = .ok (.iload_n 1, 1) := by decide +kernel
theorem dX10_pays_9 : decode cX10_pays 9 = .ok (.imul, 1) := by decide +kernel
theorem dX10_pays_10 : decode cX10_pays 10 = .ok (.iadd, 1) := by decide +kernel
theorem dX10_pays_11 : decode cX10_pays 11 = .ok (.iload_n 2, 1) := by decide +kernel
theorem dX10_pays_12 : decode cX10_pays 12 = .ok (.iadd, 1) := by decide +kernel
theorem dX10_pays_13 : decode cX10_pays 13 = .ok (.dup2, 1) := by decide +kernel
theorem dX10_pays_14 : decode cX10_pays 14 = .ok (.iaload, 1) := by decide +kernel
theorem dX10_pays_15 : decode cX10_pays 15 = .ok (.iload_n 3, 1) := by decide +kernel
theorem dX10_pays_16 : decode cX10_pays 16 = .ok (.iadd, 1) := by decide +kernel
theorem dX10_pays_17 : decode cX10_pays 17 = .ok (.iastore, 1) := by decide +kernel
theorem dX10_pays_18 : decode cX10_pays 18 = .ok (.return_, 1) := by decide +kernel
theorem dX10_equity_0 : decode cX10_equity 0 = .ok (.iconst 0, 1) := by decide +kernel
theorem dX10_equity_1 : decode cX10_equity 1 = .ok (.istore_n 2, 1) := by decide +kernel
theorem dX10_equity_2 : decode cX10_equity 2 = .ok (.iconst 0, 1) := by decide +kernel
theorem dX10_equity_3 : decode cX10_equity 3 = .ok (.istore_n 3, 1) := by decide +kernel
theorem dX10_equity_4 : decode cX10_equity 4 = .ok (.iload_n 3, 1) := by decide +kernel
theorem dX10_equity_5 : decode cX10_equity 5 = .ok (.bipush 24, 2) := by decide +kernel
theorem dX10_equity_7 : decode cX10_equity 7 = .ok (.if_icmp .ge 18, 3) := by decide +kernel
theorem dX10_equity_10 : decode cX10_equity 10 = .ok (.iload_n 2, 1) := by decide +kernel
theorem dX10_equity_11 : decode cX10_equity 11 = .ok (.aload_n 0, 1) := by decide +kernel
theorem dX10_equity_12 : decode cX10_equity 12 = .ok (.iload_n 1, 1) := by decide +kernel
theorem dX10_equity_13 : decode cX10_equity 13 = .ok (.iload_n 3, 1) := by decide +kernel
theorem dX10_equity_14 : decode cX10_equity 14 = .ok (.invokevirtual 92, 3) := by decide +kernel
theorem dX10_equity_17 : decode cX10_equity 17 = .ok (.iadd, 1) := by decide +kernel
theorem dX10_equity_18 : decode cX10_equity 18 = .ok (.istore_n 2, 1) := by decide +kernel
theorem dX10_equity_19 : decode cX10_equity 19 = .ok (.iinc 3 1, 3) := by decide +kernel
theorem dX10_equity_22 : decode cX10_equity 22 = .ok (.goto (-18), 3) := by decide +kernel
theorem dX10_equity_25 : decode cX10_equity 25 = .ok (.iload_n 2, 1) := by decide +kernel
theorem dX10_equity_26 : decode cX10_equity 26 = .ok (.ireturn, 1) := by decide +kernel
theorem dX10_certifies_0 : decode cX10_certifies 0 = .ok (.aload_n 0, 1) := by decide +kernel
theorem dX10_certifies_1 : decode cX10_certifies 1 = .ok (.getfield 19, 3) := by decide +kernel
theorem dX10_certifies_4 : decode cX10_certifies 4 = .ok (.bipush 13, 2) := by decide +kernel
theorem dX10_certifies_6 : decode cX10_certifies 6 = .ok (.iload_n 1, 1) := by decide +kernel
theorem dX10_certifies_7 : decode cX10_certifies 7 = .ok (.iadd, 1) := by decide +kernel
theorem dX10_certifies_8 : decode cX10_certifies 8 = .ok (.iaload, 1) := by decide +kernel
theorem dX10_certifies_9 : decode cX10_certifies 9 = .ok (.iconst 1, 1) := by decide +kernel
theorem dX10_certifies_10 : decode cX10_certifies 10 = .ok (.if_icmp .ne 7, 3) := by decide +kernel
theorem dX10_certifies_13 : decode cX10_certifies 13 = .ok (.iconst 1, 1) := by decide +kernel
theorem dX10_certifies_14 : decode cX10_certifies 14 = .ok (.goto 4, 3) := by decide +kernel
theorem dX10_certifies_17 : decode cX10_certifies 17 = .ok (.iconst 0, 1) := by decide +kernel
theorem dX10_certifies_18 : decode cX10_certifies 18 = .ok (.istore_n 3, 1) := by decide +kernel
theorem dX10_certifies_19 : decode cX10_certifies 19 = .ok (.iload_n 3, 1) := by decide +kernel
theorem dX10_certifies_20 : decode cX10_certifies 20 = .ok (.ifCond .eq 17, 3) := by decide +kernel
theorem dX10_certifies_23 : decode cX10_certifies 23 = .ok (.iload_n 2, 1) := by decide +kernel
theorem dX10_certifies_24 : decode cX10_certifies 24 = .ok (.aload_n 0, 1) := by decide +kernel
theorem dX10_certifies_25 : decode cX10_certifies 25 = .ok (.getfield 19, 3) := by decide +kernel
theorem dX10_certifies_28 : decode cX10_certifies 28 = .ok (.iconst 0, 1) := by decide +kernel
theorem dX10_certifies_29 : decode cX10_certifies 29 = .ok (.iaload, 1) := by decide +kernel
theorem dX10_certifies_30 : decode cX10_certifies 30 = .ok (.imul, 1) := by decide +kernel
theorem dX10_certifies_31 : decode cX10_certifies 31 = .ok (.bipush 100, 2) := by decide +kernel
theorem dX10_certifies_33 : decode cX10_certifies 33 = .ok (.idiv, 1) := by decide +kernel
theorem dX10_certifies_34 : decode cX10_certifies 34 = .ok (.goto 4, 3) := by decide +kernel
theorem dX10_certifies_37 : decode cX10_certifies 37 = .ok (.iconst 0, 1) := by decide +kernel
theorem dX10_certifies_38 : decode cX10_certifies 38 = .ok (.istore 4, 2) := by decide +kernel
theorem dX10_certifies_40 : decode cX10_certifies 40 = .ok (.aload_n 0, 1) := by decide +kernel
theorem dX10_certifies_41 : decode cX10_certifies 41 = .ok (.iload_n 1, 1) := by decide +kernel
theorem dX10_certifies_42 : decode cX10_certifies 42 = .ok (.iconst 0, 1) := by decide +kernel
theorem dX10_certifies_43 : decode cX10_certifies 43 = .ok (.iload 4, 2) := by decide +kernel
theorem dX10_certifies_45 : decode cX10_certifies 45 = .ok (.invokevirtual 96, 3) := by decide +kernel
theorem dX10_certifies_48 : decode cX10_certifies 48 = .ok (.aload_n 0, 1) := by decide +kernel
theorem dX10_certifies_49 : decode cX10_certifies 49 = .ok (.getfield 19, 3) := by decide +kernel
theorem dX10_certifies_52 : decode cX10_certifies 52 = .ok (.bipush 61, 2) := by decide +kernel
theorem dX10_certifies_54 : decode cX10_certifies 54 = .ok (.bipush 24, 2) := by decide +kernel
theorem dX10_certifies_56 : decode cX10_certifies 56 = .ok (.iload_n 1, 1) := by decide +kernel
theorem dX10_certifies_57 : decode cX10_certifies 57 = .ok (.imul, 1) := by decide +kernel
theorem dX10_certifies_58 : decode cX10_certifies 58 = .ok (.iadd, 1) := by decide +kernel
theorem dX10_certifies_59 : decode cX10_certifies 59 = .ok (.aload_n 0, 1) := by decide +kernel
theorem dX10_certifies_60 : decode cX10_certifies 60 = .ok (.getfield 19, 3) := by decide +kernel
theorem dX10_certifies_63 : decode cX10_certifies 63 = .ok (.sipush 494, 3) := by decide +kernel
theorem dX10_certifies_66 : decode cX10_certifies 66 = .ok (.iaload, 1) := by decide +kernel
theorem dX10_certifies_67 : decode cX10_certifies 67 = .ok (.iadd, 1) := by decide +kernel
theorem dX10_certifies_68 : decode cX10_certifies 68 = .ok (.iload_n 2, 1) := by decide +kernel
theorem dX10_certifies_69 : decode cX10_certifies 69 = .ok (.iload 4, 2) := by decide +kernel
theorem dX10_certifies_71 : decode cX10_certifies 71 = .ok (.isub, 1) := by decide +kernel
theorem dX10_certifies_72 : decode cX10_certifies 72 = .ok (.iastore, 1) := by decide +kernel
theorem dX10_certifies_73 : decode cX10_certifies 73 = .ok (.aload_n 0, 1) := by decide +kernel
theorem dX10_certifies_74 : decode cX10_certifies 74 = .ok (.getfield 19, 3) := by decide +kernel
theorem dX10_certifies_77 : decode cX10_certifies 77 = .ok (.sipush 253, 3) := by decide +kernel
theorem dX10_certifies_80 : decode cX10_certifies 80 = .ok (.bipush 24, 2) := by decide +kernel
theorem dX10_certifies_82 : decode cX10_certifies 82 = .ok (.iload_n 1, 1) := by decide +kernel
theorem dX10_certifies_83 : decode cX10_certifies 83 = .ok (.imul, 1) := by decide +kernel
theorem dX10_certifies_84 : decode cX10_certifies 84 = .ok (.iadd, 1) := by decide +kernel
theorem dX10_certifies_85 : decode cX10_certifies 85 = .ok (.aload_n 0, 1) := by decide +kernel
theorem dX10_certifies_86 : decode cX10_certifies 86 = .ok (.getfield 19, 3) := by decide +kernel
theorem dX10_certifies_89 : decode cX10_certifies 89 = .ok (.sipush 494, 3) := by decide +kernel
theorem dX10_certifies_92 : decode cX10_certifies 92 = .ok (.iaload, 1) := by decide +kernel
theorem dX10_certifies_93 : decode cX10_certifies 93 = .ok (.iadd, 1) := by decide +kernel
theorem dX10_certifies_94 : decode cX10_certifies 94 = .ok (.iload_n 3, 1) := by decide +kernel
theorem dX10_certifies_95 : decode cX10_certifies 95 = .ok (.ifCond .eq 7, 3) := by decide +kernel
theorem dX10_certifies_98 : decode cX10_certifies 98 = .ok (.iconst 0, 1) := by decide +kernel
theorem dX10_certifies_99 : decode cX10_certifies 99 = .ok (.goto 4, 3) := by decide +kernel
theorem dX10_certifies_102 : decode cX10_certifies 102 = .ok (.iconst 1, 1) := by decide +kernel
theorem dX10_certifies_103 : decode cX10_certifies 103 = .ok (.iastore, 1) := by decide +kernel
theorem dX10_certifies_104 : decode cX10_certifies 104 = .ok (.aload_n 0, 1) := by decide +kernel
theorem dX10_certifies_105 : decode cX10_certifies 105 = .ok (.getfield 19, 3) := by decide +kernel
theorem dX10_certifies_108 : decode cX10_certifies 108 = .ok (.sipush 495, 3) := by decide +kernel
theorem dX10_certifies_111 : decode cX10_certifies 111 = .ok (.dup2, 1) := by decide +kernel
theorem dX10_certifies_112 : decode cX10_certifies 112 = .ok (.iaload, 1) := by decide +kernel
theorem dX10_certifies_113 : decode cX10_certifies 113 = .ok (.iload_n 2, 1) := by decide +kernel
theorem dX10_certifies_114 : decode cX10_certifies 114 = .ok (.iload 4, 2) := by decide +kernel
theorem dX10_certifies_116 : decode cX10_certifies 116 = .ok (.isub, 1) := by decide +kernel
theorem dX10_certifies_117 : decode cX10_certifies 117 = .ok (.iadd, 1) := by decide +kernel
theorem dX10_certifies_118 : decode cX10_certifies 118 = .ok (.iastore, 1) := by decide +kernel
theorem dX10_certifies_119 : decode cX10_certifies 119 = .ok (.return_, 1) := by decide +kernel
theorem dX10_recaptures_0 : decode cX10_recaptures 0 = .ok (.iload_n 2, 1) := by decide +kernel
theorem dX10_recaptures_1 : decode cX10_recaptures 1 = .ok (.istore_n 3, 1) := by decide +kernel
theorem dX10_recaptures_2 : decode cX10_recaptures 2 = .ok (.aload_n 0, 1) := by decide +kernel
theorem dX10_recaptures_3 : decode cX10_recaptures 3 = .ok (.getfield 19, 3) := by decide +kernel
theorem dX10_recaptures_6 : decode cX10_recaptures 6 = .ok (.sipush 494, 3) := by decide +kernel
theorem dX10_recaptures_9 : decode cX10_recaptures 9 = .ok (.iaload, 1) := by decide +kernel
theorem dX10_recaptures_10 : decode cX10_recaptures 10 = .ok (.iconst 1, 1) := by decide +kernel
theorem dX10_recaptures_11 : decode cX10_recaptures 11 = .ok (.isub, 1) := by decide +kernel
theorem dX10_recaptures_12 : decode cX10_recaptures 12 = .ok (.istore 4, 2) := by decide +kernel
theorem dX10_recaptures_14 : decode cX10_recaptures 14 = .ok (.iload 4, 2) := by decide +kernel
theorem dX10_recaptures_16 : decode cX10_recaptures 16 = .ok (.ifCond .lt 36, 3) := by decide +kernel
theorem dX10_recaptures_19 : decode cX10_recaptures 19 = .ok (.iload_n 3, 1) := by decide +kernel
theorem dX10_recaptures_20 : decode cX10_recaptures 20 = .ok (.aload_n 0, 1) := by decide +kernel
theorem dX10_recaptures_21 : decode cX10_recaptures 21 = .ok (.iload_n 1, 1) := by decide +kernel
theorem dX10_recaptures_22 : decode cX10_recaptures 22 = .ok (.iload 4, 2) := by decide +kernel
theorem dX10_recaptures_24 : decode cX10_recaptures 24 = .ok (.invokevirtual 92, 3) := by decide +kernel
theorem dX10_recaptures_27 : decode cX10_recaptures 27 = .ok (.invokestatic 100, 3) := by decide +kernel
theorem dX10_recaptures_30 : decode cX10_recaptures 30 = .ok (.istore 5, 2) := by decide +kernel
theorem dX10_recaptures_32 : decode cX10_recaptures 32 = .ok (.aload_n 0, 1) := by decide +kernel
theorem dX10_recaptures_33 : decode cX10_recaptures 33 = .ok (.iload_n 1, 1) := by decide +kernel
theorem dX10_recaptures_34 : decode cX10_recaptures 34 = .ok (.iload 4, 2) := by decide +kernel
theorem dX10_recaptures_36 : decode cX10_recaptures 36 = .ok (.iload 5, 2) := by decide +kernel
theorem dX10_recaptures_38 : decode cX10_recaptures 38 = .ok (.invokevirtual 103, 3) := by decide +kernel
theorem dX10_recaptures_41 : decode cX10_recaptures 41 = .ok (.iload_n 3, 1) := by decide +kernel
theorem dX10_recaptures_42 : decode cX10_recaptures 42 = .ok (.iload 5, 2) := by decide +kernel
theorem dX10_recaptures_44 : decode cX10_recaptures 44 = .ok (.isub, 1) := by decide +kernel
theorem dX10_recaptures_45 : decode cX10_recaptures 45 = .ok (.istore_n 3, 1) := by decide +kernel
theorem dX10_recaptures_46 : decode cX10_recaptures 46 = .ok (.iinc 4 (-1), 3) := by decide +kernel
theorem dX10_recaptures_49 : decode cX10_recaptures 49 = .ok (.goto (-35), 3) := by decide +kernel
theorem dX10_recaptures_52 : decode cX10_recaptures 52 = .ok (.aload_n 0, 1) := by decide +kernel
theorem dX10_recaptures_53 : decode cX10_recaptures 53 = .ok (.getfield 19, 3) := by decide +kernel
theorem dX10_recaptures_56 : decode cX10_recaptures 56 = .ok (.sipush 477, 3) := by decide +kernel
theorem dX10_recaptures_59 : decode cX10_recaptures 59 = .ok (.iload_n 1, 1) := by decide +kernel
theorem dX10_recaptures_60 : decode cX10_recaptures 60 = .ok (.iadd, 1) := by decide +kernel
theorem dX10_recaptures_61 : decode cX10_recaptures 61 = .ok (.iload_n 2, 1) := by decide +kernel
theorem dX10_recaptures_62 : decode cX10_recaptures 62 = .ok (.iload_n 3, 1) := by decide +kernel
theorem dX10_recaptures_63 : decode cX10_recaptures 63 = .ok (.isub, 1) := by decide +kernel
theorem dX10_recaptures_64 : decode cX10_recaptures 64 = .ok (.iastore, 1) := by decide +kernel
theorem dX10_recaptures_65 : decode cX10_recaptures 65 = .ok (.aload_n 0, 1) := by decide +kernel
theorem dX10_recaptures_66 : decode cX10_recaptures 66 = .ok (.getfield 19, 3) := by decide +kernel
theorem dX10_recaptures_69 : decode cX10_recaptures 69 = .ok (.sipush 496, 3) := by decide +kernel
theorem dX10_recaptures_72 : decode cX10_recaptures 72 = .ok (.dup2, 1) := by decide +kernel
theorem dX10_recaptures_73 : decode cX10_recaptures 73 = .ok (.iaload, 1) := by decide +kernel
theorem dX10_recaptures_74 : decode cX10_recaptures 74 = .ok (.iload_n 2, 1) := by decide +kernel
theorem dX10_recaptures_75 : decode cX10_recaptures 75 = .ok (.iload_n 3, 1) := by decide +kernel
theorem dX10_recaptures_76 : decode cX10_recaptures 76 = .ok (.isub, 1) := by decide +kernel
theorem dX10_recaptures_77 : decode cX10_recaptures 77 = .ok (.iadd, 1) := by decide +kernel
theorem dX10_recaptures_78 : decode cX10_recaptures 78 = .ok (.iastore, 1) := by decide +kernel
theorem dX10_recaptures_79 : decode cX10_recaptures 79 = .ok (.aload_n 0, 1) := by decide +kernel
theorem dX10_recaptures_80 : decode cX10_recaptures 80 = .ok (.getfield 19, 3) := by decide +kernel
theorem dX10_recaptures_83 : decode cX10_recaptures 83 = .ok (.sipush 493, 3) := by decide +kernel
theorem dX10_recaptures_86 : decode cX10_recaptures 86 = .ok (.dup2, 1) := by decide +kernel
theorem dX10_recaptures_87 : decode cX10_recaptures 87 = .ok (.iaload, 1) := by decide +kernel
theorem dX10_recaptures_88 : decode cX10_recaptures 88 = .ok (.iload_n 3, 1) := by decide +kernel
theorem dX10_recaptures_89 : decode cX10_recaptures 89 = .ok (.isub, 1) := by decide +kernel
theorem dX10_recaptures_90 : decode cX10_recaptures 90 = .ok (.iastore, 1) := by decide +kernel
theorem dX10_recaptures_91 : decode cX10_recaptures 91 = .ok (.return_, 1) := by decide +kernel
theorem dX10_pays__0 : decode cX10_pays_ 0 = .ok (.aload_n 0, 1) := by decide +kernel
theorem dX10_pays__1 : decode cX10_pays_ 1 = .ok (.iload_n 1, 1) := by decide +kernel
theorem dX10_pays__2 : decode cX10_pays_ 2 = .ok (.invokevirtual 106, 3) := by decide +kernel
theorem dX10_pays__5 : decode cX10_pays_ 5 = .ok (.istore_n 2, 1) := by decide +kernel
theorem dX10_pays__6 : decode cX10_pays_ 6 = .ok (.aload_n 0, 1) := by decide +kernel
theorem dX10_pays__7 : decode cX10_pays_ 7 = .ok (.getfield 19, 3) := by decide +kernel
theorem dX10_pays__10 : decode cX10_pays_ 10 = .ok (.bipush 21, 2) := by decide +kernel
theorem dX10_pays__12 : decode cX10_pays_ 12 = .ok (.iload_n 1, 1) := by decide +kernel
theorem dX10_pays__13 : decode cX10_pays_ 13 = .ok (.iadd, 1) := by decide +kernel
theorem dX10_pays__14 : decode cX10_pays_ 14 = .ok (.iaload, 1) := by decide +kernel
theorem dX10_pays__15 : decode cX10_pays_ 15 = .ok (.istore_n 3, 1) := by decide +kernel
theorem dX10_pays__16 : decode cX10_pays_ 16 = .ok (.iload_n 2, 1) := by decide +kernel
theorem dX10_pays__17 : decode cX10_pays_ 17 = .ok (.iload_n 3, 1) := by decide +kernel
theorem dX10_pays__18 : decode cX10_pays_ 18 = .ok (.iadd, 1) := by decide +kernel
theorem dX10_pays__19 : decode cX10_pays_ 19 = .ok (.iconst 1, 1) := by decide +kernel
theorem dX10_pays__20 : decode cX10_pays_ 20 = .ok (.isub, 1) := by decide +kernel
theorem dX10_pays__21 : decode cX10_pays_ 21 = .ok (.iload_n 3, 1) := by decide +kernel
theorem dX10_pays__22 : decode cX10_pays_ 22 = .ok (.idiv, 1) := by decide +kernel
theorem dX10_pays__23 : decode cX10_pays_ 23 = .ok (.istore 4, 2) := by decide +kernel
theorem dX10_pays__25 : decode cX10_pays_ 25 = .ok (.aload_n 0, 1) := by decide +kernel
theorem dX10_pays__26 : decode cX10_pays_ 26 = .ok (.iload_n 1, 1) := by decide +kernel
theorem dX10_pays__27 : decode cX10_pays_ 27 = .ok (.iconst 2, 1) := by decide +kernel
theorem dX10_pays__28 : decode cX10_pays_ 28 = .ok (.iload 4, 2) := by decide +kernel
theorem dX10_pays__30 : decode cX10_pays_ 30 = .ok (.invokevirtual 96, 3) := by decide +kernel
theorem dX10_pays__33 : decode cX10_pays_ 33 = .ok (.iconst 0, 1) := by decide +kernel
theorem dX10_pays__34 : decode cX10_pays_ 34 = .ok (.istore 5, 2) := by decide +kernel
theorem dX10_pays__36 : decode cX10_pays_ 36 = .ok (.iload 5, 2) := by decide +kernel
theorem dX10_pays__38 : decode cX10_pays_ 38 = .ok (.aload_n 0, 1) := by decide +kernel
theorem dX10_pays__39 : decode cX10_pays_ 39 = .ok (.getfield 19, 3) := by decide +kernel
theorem dX10_pays__42 : decode cX10_pays_ 42 = .ok (.sipush 494, 3) := by decide +kernel
theorem dX10_pays__45 : decode cX10_pays_ 45 = .ok (.iaload, 1) := by decide +kernel
theorem dX10_pays__46 : decode cX10_pays_ 46 = .ok (.if_icmp .ge 39, 3) := by decide +kernel
theorem dX10_pays__49 : decode cX10_pays_ 49 = .ok (.iload 4, 2) := by decide +kernel
theorem dX10_pays__51 : decode cX10_pays_ 51 = .ok (.aload_n 0, 1) := by decide +kernel
theorem dX10_pays__52 : decode cX10_pays_ 52 = .ok (.iload_n 1, 1) := by decide +kernel
theorem dX10_pays__53 : decode cX10_pays_ 53 = .ok (.iload 5, 2) := by decide +kernel
theorem dX10_pays__55 : decode cX10_pays_ 55 = .ok (.invokevirtual 92, 3) := by decide +kernel
theorem dX10_pays__58 : decode cX10_pays_ 58 = .ok (.invokestatic 100, 3) := by decide +kernel
theorem dX10_pays__61 : decode cX10_pays_ 61 = .ok (.istore 6, 2) := by decide +kernel
theorem dX10_pays__63 : decode cX10_pays_ 63 = .ok (.aload_n 0, 1) := by decide +kernel
theorem dX10_pays__64 : decode cX10_pays_ 64 = .ok (.iload_n 1, 1) := by decide +kernel
theorem dX10_pays__65 : decode cX10_pays_ 65 = .ok (.iload 5, 2) := by decide +kernel
theorem dX10_pays__67 : decode cX10_pays_ 67 = .ok (.iload 6, 2) := by decide +kernel
theorem dX10_pays__69 : decode cX10_pays_ 69 = .ok (.invokevirtual 103, 3) := by decide +kernel
theorem dX10_pays__72 : decode cX10_pays_ 72 = .ok (.iload 4, 2) := by decide +kernel
theorem dX10_pays__74 : decode cX10_pays_ 74 = .ok (.iload 6, 2) := by decide +kernel
theorem dX10_pays__76 : decode cX10_pays_ 76 = .ok (.isub, 1) := by decide +kernel
theorem dX10_pays__77 : decode cX10_pays_ 77 = .ok (.istore 4, 2) := by decide +kernel
theorem dX10_pays__79 : decode cX10_pays_ 79 = .ok (.iinc 5 1, 3) := by decide +kernel
theorem dX10_pays__82 : decode cX10_pays_ 82 = .ok (.goto (-46), 3) := by decide +kernel
theorem dX10_pays__85 : decode cX10_pays_ 85 = .ok (.aload_n 0, 1) := by decide +kernel
theorem dX10_pays__86 : decode cX10_pays_ 86 = .ok (.getfield 19, 3) := by decide +kernel
theorem dX10_pays__89 : decode cX10_pays_ 89 = .ok (.bipush 21, 2) := by decide +kernel
theorem dX10_pays__91 : decode cX10_pays_ 91 = .ok (.iload_n 1, 1) := by decide +kernel
theorem dX10_pays__92 : decode cX10_pays_ 92 = .ok (.iadd, 1) := by decide +kernel
theorem dX10_pays__93 : decode cX10_pays_ 93 = .ok (.dup2, 1) := by decide +kernel
theorem dX10_pays__94 : decode cX10_pays_ 94 = .ok (.iaload, 1) := by decide +kernel
theorem dX10_pays__95 : decode cX10_pays_ 95 = .ok (.iconst 1, 1) := by decide +kernel
theorem dX10_pays__96 : decode cX10_pays_ 96 = .ok (.isub, 1) := by decide +kernel
theorem dX10_pays__97 : decode cX10_pays_ 97 = .ok (.iastore, 1) := by decide +kernel
theorem dX10_pays__98 : decode cX10_pays_ 98 = .ok (.iload_n 3, 1) := by decide +kernel
theorem dX10_pays__99 : decode cX10_pays_ 99 = .ok (.iconst 1, 1) := by decide +kernel
theorem dX10_pays__100 : decode cX10_pays_ 100 = .ok (.if_icmp .ne 12, 3) := by decide +kernel
theorem dX10_pays__103 : decode cX10_pays_ 103 = .ok (.aload_n 0, 1) := by decide +kernel
theorem dX10_pays__104 : decode cX10_pays_ 104 = .ok (.getfield 19, 3) := by decide +kernel
theorem dX10_pays__107 : decode cX10_pays_ 107 = .ok (.iconst 5, 1) := by decide +kernel
theorem dX10_pays__108 : decode cX10_pays_ 108 = .ok (.iload_n 1, 1) := by decide +kernel
theorem dX10_pays__109 : decode cX10_pays_ 109 = .ok (.iadd, 1) := by decide +kernel
theorem dX10_pays__110 : decode cX10_pays_ 110 = .ok (.iconst 2, 1) := by decide +kernel
theorem dX10_pays__111 : decode cX10_pays_ 111 = .ok (.iastore, 1) := by decide +kernel
theorem dX10_pays__112 : decode cX10_pays_ 112 = .ok (.return_, 1) := by decide +kernel
theorem dX10_closes_0 : decode cX10_closes 0 = .ok (.aload_n 0, 1) := by decide +kernel
theorem dX10_closes_1 : decode cX10_closes 1 = .ok (.invokevirtual 109, 3) := by decide +kernel
theorem dX10_closes_4 : decode cX10_closes 4 = .ok (.aload_n 0, 1) := by decide +kernel
theorem dX10_closes_5 : decode cX10_closes 5 = .ok (.getfield 19, 3) := by decide +kernel
theorem dX10_closes_8 : decode cX10_closes 8 = .ok (.sipush 493, 3) := by decide +kernel
theorem dX10_closes_11 : decode cX10_closes 11 = .ok (.dup2, 1) := by decide +kernel
theorem dX10_closes_12 : decode cX10_closes 12 = .ok (.iaload, 1) := by decide +kernel
theorem dX10_closes_13 : decode cX10_closes 13 = .ok (.aload_n 0, 1) := by decide +kernel
theorem dX10_closes_14 : decode cX10_closes 14 = .ok (.getfield 75, 3) := by decide +kernel
theorem dX10_closes_17 : decode cX10_closes 17 = .ok (.iadd, 1) := by decide +kernel
theorem dX10_closes_18 : decode cX10_closes 18 = .ok (.iastore, 1) := by decide +kernel
theorem dX10_closes_19 : decode cX10_closes 19 = .ok (.iconst 0, 1) := by decide +kernel
theorem dX10_closes_20 : decode cX10_closes 20 = .ok (.istore_n 1, 1) := by decide +kernel
theorem dX10_closes_21 : decode cX10_closes 21 = .ok (.iload_n 1, 1) := by decide +kernel
theorem dX10_closes_22 : decode cX10_closes 22 = .ok (.aload_n 0, 1) := by decide +kernel
theorem dX10_closes_23 : decode cX10_closes 23 = .ok (.getfield 13, 3) := by decide +kernel
theorem dX10_closes_26 : decode cX10_closes 26 = .ok (.bipush 13, 2) := by decide +kernel
theorem dX10_closes_28 : decode cX10_closes 28 = .ok (.iaload, 1) := by decide +kernel
theorem dX10_closes_29 : decode cX10_closes 29 = .ok (.if_icmp .ge 40, 3) := by decide +kernel
theorem dX10_closes_32 : decode cX10_closes 32 = .ok (.aload_n 0, 1) := by decide +kernel
theorem dX10_closes_33 : decode cX10_closes 33 = .ok (.getfield 19, 3) := by decide +kernel
theorem dX10_closes_36 : decode cX10_closes 36 = .ok (.sipush 485, 3) := by decide +kernel
theorem dX10_closes_39 : decode cX10_closes 39 = .ok (.iload_n 1, 1) := by decide +kernel
theorem dX10_closes_40 : decode cX10_closes 40 = .ok (.iadd, 1) := by decide +kernel
theorem dX10_closes_41 : decode cX10_closes 41 = .ok (.aload_n 0, 1) := by decide +kernel
theorem dX10_closes_42 : decode cX10_closes 42 = .ok (.getfield 44, 3) := by decide +kernel
theorem dX10_closes_45 : decode cX10_closes 45 = .ok (.iload_n 1, 1) := by decide +kernel
theorem dX10_closes_46 : decode cX10_closes 46 = .ok (.iaload, 1) := by decide +kernel
theorem dX10_closes_47 : decode cX10_closes 47 = .ok (.iastore, 1) := by decide +kernel
theorem dX10_closes_48 : decode cX10_closes 48 = .ok (.aload_n 0, 1) := by decide +kernel
theorem dX10_closes_49 : decode cX10_closes 49 = .ok (.getfield 19, 3) := by decide +kernel
theorem dX10_closes_52 : decode cX10_closes 52 = .ok (.sipush 489, 3) := by decide +kernel
theorem dX10_closes_55 : decode cX10_closes 55 = .ok (.iload_n 1, 1) := by decide +kernel
theorem dX10_closes_56 : decode cX10_closes 56 = .ok (.iadd, 1) := by decide +kernel
theorem dX10_closes_57 : decode cX10_closes 57 = .ok (.aload_n 0, 1) := by decide +kernel
theorem dX10_closes_58 : decode cX10_closes 58 = .ok (.iload_n 1, 1) := by decide +kernel
theorem dX10_closes_59 : decode cX10_closes 59 = .ok (.invokevirtual 112, 3) := by decide +kernel
theorem dX10_closes_62 : decode cX10_closes 62 = .ok (.iastore, 1) := by decide +kernel
theorem dX10_closes_63 : decode cX10_closes 63 = .ok (.iinc 1 1, 3) := by decide +kernel
theorem dX10_closes_66 : decode cX10_closes 66 = .ok (.goto (-45), 3) := by decide +kernel
theorem dX10_closes_69 : decode cX10_closes 69 = .ok (.iconst 0, 1) := by decide +kernel
theorem dX10_closes_70 : decode cX10_closes 70 = .ok (.istore_n 1, 1) := by decide +kernel
theorem dX10_closes_71 : decode cX10_closes 71 = .ok (.iload_n 1, 1) := by decide +kernel
theorem dX10_closes_72 : decode cX10_closes 72 = .ok (.aload_n 0, 1) := by decide +kernel
theorem dX10_closes_73 : decode cX10_closes 73 = .ok (.getfield 13, 3) := by decide +kernel
theorem dX10_closes_76 : decode cX10_closes 76 = .ok (.bipush 12, 2) := by decide +kernel
theorem dX10_closes_78 : decode cX10_closes 78 = .ok (.iaload, 1) := by decide +kernel
theorem dX10_closes_79 : decode cX10_closes 79 = .ok (.if_icmp .ge 77, 3) := by decide +kernel
theorem dX10_closes_82 : decode cX10_closes 82 = .ok (.aload_n 0, 1) := by decide +kernel
theorem dX10_closes_83 : decode cX10_closes 83 = .ok (.getfield 19, 3) := by decide +kernel
theorem dX10_closes_86 : decode cX10_closes 86 = .ok (.sipush 469, 3) := by decide +kernel
theorem dX10_closes_89 : decode cX10_closes 89 = .ok (.iload_n 1, 1) := by decide +kernel
theorem dX10_closes_90 : decode cX10_closes 90 = .ok (.iadd, 1) := by decide +kernel
theorem dX10_closes_91 : decode cX10_closes 91 = .ok (.aload_n 0, 1) := by decide +kernel
theorem dX10_closes_92 : decode cX10_closes 92 = .ok (.getfield 41, 3) := by decide +kernel
theorem dX10_closes_95 : decode cX10_closes 95 = .ok (.iload_n 1, 1) := by decide +kernel
theorem dX10_closes_96 : decode cX10_closes 96 = .ok (.iaload, 1) := by decide +kernel
theorem dX10_closes_97 : decode cX10_closes 97 = .ok (.iastore, 1) := by decide +kernel
theorem dX10_closes_98 : decode cX10_closes 98 = .ok (.aload_n 0, 1) := by decide +kernel
theorem dX10_closes_99 : decode cX10_closes 99 = .ok (.getfield 19, 3) := by decide +kernel
theorem dX10_closes_102 : decode cX10_closes 102 = .ok (.sipush 477, 3) := by decide +kernel
theorem dX10_closes_105 : decode cX10_closes 105 = .ok (.iload_n 1, 1) := by decide +kernel
theorem dX10_closes_106 : decode cX10_closes 106 = .ok (.iadd, 1) := by decide +kernel
theorem dX10_closes_107 : decode cX10_closes 107 = .ok (.iconst 0, 1) := by decide +kernel
theorem dX10_closes_108 : decode cX10_closes 108 = .ok (.iastore, 1) := by decide +kernel
theorem dX10_closes_109 : decode cX10_closes 109 = .ok (.aload_n 0, 1) := by decide +kernel
theorem dX10_closes_110 : decode cX10_closes 110 = .ok (.getfield 41, 3) := by decide +kernel
theorem dX10_closes_113 : decode cX10_closes 113 = .ok (.iload_n 1, 1) := by decide +kernel
theorem dX10_closes_114 : decode cX10_closes 114 = .ok (.iaload, 1) := by decide +kernel
theorem dX10_closes_115 : decode cX10_closes 115 = .ok (.ifCond .le 14, 3) := by decide +kernel
theorem dX10_closes_118 : decode cX10_closes 118 = .ok (.aload_n 0, 1) := by decide +kernel
theorem dX10_closes_119 : decode cX10_closes 119 = .ok (.iload_n 1, 1) := by decide +kernel
theorem dX10_closes_120 : decode cX10_closes 120 = .ok (.aload_n 0, 1) := by decide +kernel
theorem dX10_closes_121 : decode cX10_closes 121 = .ok (.getfield 41, 3) := by decide +kernel
theorem dX10_closes_124 : decode cX10_closes 124 = .ok (.iload_n 1, 1) := by decide +kernel
theorem dX10_closes_125 : decode cX10_closes 125 = .ok (.iaload, 1) := by decide +kernel
theorem dX10_closes_126 : decode cX10_closes 126 = .ok (.invokevirtual 115, 3) := by decide +kernel
theorem dX10_closes_129 : decode cX10_closes 129 = .ok (.aload_n 0, 1) := by decide +kernel
theorem dX10_closes_130 : decode cX10_closes 130 = .ok (.getfield 41, 3) := by decide +kernel
theorem dX10_closes_133 : decode cX10_closes 133 = .ok (.iload_n 1, 1) := by decide +kernel
theorem dX10_closes_134 : decode cX10_closes 134 = .ok (.iaload, 1) := by decide +kernel
theorem dX10_closes_135 : decode cX10_closes 135 = .ok (.ifCond .ge 15, 3) := by decide +kernel
theorem dX10_closes_138 : decode cX10_closes 138 = .ok (.aload_n 0, 1) := by decide +kernel
theorem dX10_closes_139 : decode cX10_closes 139 = .ok (.iload_n 1, 1) := by decide +kernel
theorem dX10_closes_140 : decode cX10_closes 140 = .ok (.aload_n 0, 1) := by decide +kernel
theorem dX10_closes_141 : decode cX10_closes 141 = .ok (.getfield 41, 3) := by decide +kernel
theorem dX10_closes_144 : decode cX10_closes 144 = .ok (.iload_n 1, 1) := by decide +kernel
theorem dX10_closes_145 : decode cX10_closes 145 = .ok (.iaload, 1) := by decide +kernel
theorem dX10_closes_146 : decode cX10_closes 146 = .ok (.ineg, 1) := by decide +kernel
theorem dX10_closes_147 : decode cX10_closes 147 = .ok (.invokevirtual 119, 3) := by decide +kernel
theorem dX10_closes_150 : decode cX10_closes 150 = .ok (.iinc 1 1, 3) := by decide +kernel
theorem dX10_closes_153 : decode cX10_closes 153 = .ok (.goto (-82), 3) := by decide +kernel
theorem dX10_closes_156 : decode cX10_closes 156 = .ok (.iconst 0, 1) := by decide +kernel
theorem dX10_closes_157 : decode cX10_closes 157 = .ok (.istore_n 1, 1) := by decide +kernel
theorem dX10_closes_158 : decode cX10_closes 158 = .ok (.iload_n 1, 1) := by decide +kernel
theorem dX10_closes_159 : decode cX10_closes 159 = .ok (.aload_n 0, 1) := by decide +kernel
theorem dX10_closes_160 : decode cX10_closes 160 = .ok (.getfield 13, 3) := by decide +kernel
theorem dX10_closes_163 : decode cX10_closes 163 = .ok (.bipush 12, 2) := by decide +kernel
theorem dX10_closes_165 : decode cX10_closes 165 = .ok (.iaload, 1) := by decide +kernel
theorem dX10_closes_166 : decode cX10_closes 166 = .ok (.if_icmp .ge 26, 3) := by decide +kernel
theorem dX10_closes_169 : decode cX10_closes 169 = .ok (.aload_n 0, 1) := by decide +kernel
theorem dX10_closes_170 : decode cX10_closes 170 = .ok (.getfield 19, 3) := by decide +kernel
theorem dX10_closes_173 : decode cX10_closes 173 = .ok (.iconst 5, 1) := by decide +kernel
theorem dX10_closes_174 : decode cX10_closes 174 = .ok (.iload_n 1, 1) := by decide +kernel
theorem dX10_closes_175 : decode cX10_closes 175 = .ok (.iadd, 1) := by decide +kernel
theorem dX10_closes_176 : decode cX10_closes 176 = .ok (.iaload, 1) := by decide +kernel
theorem dX10_closes_177 : decode cX10_closes 177 = .ok (.iconst 1, 1) := by decide +kernel
theorem dX10_closes_178 : decode cX10_closes 178 = .ok (.if_icmp .ne 8, 3) := by decide +kernel
theorem dX10_closes_181 : decode cX10_closes 181 = .ok (.aload_n 0, 1) := by decide +kernel
theorem dX10_closes_182 : decode cX10_closes 182 = .ok (.iload_n 1, 1) := by decide +kernel
theorem dX10_closes_183 : decode cX10_closes 183 = .ok (.invokevirtual 122, 3) := by decide +kernel
theorem dX10_closes_186 : decode cX10_closes 186 = .ok (.iinc 1 1, 3) := by decide +kernel
theorem dX10_closes_189 : decode cX10_closes 189 = .ok (.goto (-31), 3) := by decide +kernel
theorem dX10_closes_192 : decode cX10_closes 192 = .ok (.iconst 0, 1) := by decide +kernel
theorem dX10_closes_193 : decode cX10_closes 193 = .ok (.istore_n 1, 1) := by decide +kernel
theorem dX10_closes_194 : decode cX10_closes 194 = .ok (.iload_n 1, 1) := by decide +kernel
theorem dX10_closes_195 : decode cX10_closes 195 = .ok (.bipush 32, 2) := by decide +kernel
theorem dX10_closes_197 : decode cX10_closes 197 = .ok (.if_icmp .ge 19, 3) := by decide +kernel
theorem dX10_closes_200 : decode cX10_closes 200 = .ok (.aload_n 0, 1) := by decide +kernel
theorem dX10_closes_201 : decode cX10_closes 201 = .ok (.getfield 19, 3) := by decide +kernel
theorem dX10_closes_204 : decode cX10_closes 204 = .ok (.bipush 29, 2) := by decide +kernel
theorem dX10_closes_206 : decode cX10_closes 206 = .ok (.iload_n 1, 1) := by decide +kernel
theorem dX10_closes_207 : decode cX10_closes 207 = .ok (.iadd, 1) := by decide +kernel
theorem dX10_closes_208 : decode cX10_closes 208 = .ok (.iconst 0, 1) := by decide +kernel
theorem dX10_closes_209 : decode cX10_closes 209 = .ok (.iastore, 1) := by decide +kernel
theorem dX10_closes_210 : decode cX10_closes 210 = .ok (.iinc 1 1, 3) := by decide +kernel
theorem dX10_closes_213 : decode cX10_closes 213 = .ok (.goto (-19), 3) := by decide +kernel
theorem dX10_closes_216 : decode cX10_closes 216 = .ok (.aload_n 0, 1) := by decide +kernel
theorem dX10_closes_217 : decode cX10_closes 217 = .ok (.getfield 19, 3) := by decide +kernel
theorem dX10_closes_220 : decode cX10_closes 220 = .ok (.sipush 494, 3) := by decide +kernel
theorem dX10_closes_223 : decode cX10_closes 223 = .ok (.dup2, 1) := by decide +kernel
theorem dX10_closes_224 : decode cX10_closes 224 = .ok (.iaload, 1) := by decide +kernel
theorem dX10_closes_225 : decode cX10_closes 225 = .ok (.iconst 1, 1) := by decide +kernel
theorem dX10_closes_226 : decode cX10_closes 226 = .ok (.iadd, 1) := by decide +kernel
theorem dX10_closes_227 : decode cX10_closes 227 = .ok (.iastore, 1) := by decide +kernel
theorem dX10_closes_228 : decode cX10_closes 228 = .ok (.return_, 1) := by decide +kernel
theorem dX10_traded_0 : decode cX10_traded 0 = .ok (.iconst 0, 1) := by decide +kernel
theorem dX10_traded_1 : decode cX10_traded 1 = .ok (.istore_n 2, 1) := by decide +kernel
theorem dX10_traded_2 : decode cX10_traded 2 = .ok (.iconst 0, 1) := by decide +kernel
theorem dX10_traded_3 : decode cX10_traded 3 = .ok (.istore_n 3, 1) := by decide +kernel
theorem dX10_traded_4 : decode cX10_traded 4 = .ok (.iload_n 3, 1) := by decide +kernel
theorem dX10_traded_5 : decode cX10_traded 5 = .ok (.aload_n 0, 1) := by decide +kernel
theorem dX10_traded_6 : decode cX10_traded 6 = .ok (.getfield 13, 3) := by decide +kernel
theorem dX10_traded_9 : decode cX10_traded 9 = .ok (.bipush 12, 2) := by decide +kernel
theorem dX10_traded_11 : decode cX10_traded 11 = .ok (.iaload, 1) := by decide +kernel
theorem dX10_traded_12 : decode cX10_traded 12 = .ok (.if_icmp .ge 25, 3) := by decide +kernel
theorem dX10_traded_15 : decode cX10_traded 15 = .ok (.iload_n 2, 1) := by decide +kernel
theorem dX10_traded_16 : decode cX10_traded 16 = .ok (.aload_n 0, 1) := by decide +kernel
theorem dX10_traded_17 : decode cX10_traded 17 = .ok (.getfield 19, 3) := by decide +kernel
theorem dX10_traded_20 : decode cX10_traded 20 = .ok (.bipush 29, 2) := by decide +kernel
theorem dX10_traded_22 : decode cX10_traded 22 = .ok (.iconst 4, 1) := by decide +kernel
theorem dX10_traded_23 : decode cX10_traded 23 = .ok (.iload_n 3, 1) := by decide +kernel
theorem dX10_traded_24 : decode cX10_traded 24 = .ok (.imul, 1) := by decide +kernel
theorem dX10_traded_25 : decode cX10_traded 25 = .ok (.iadd, 1) := by decide +kernel
theorem dX10_traded_26 : decode cX10_traded 26 = .ok (.iload_n 1, 1) := by decide +kernel
theorem dX10_traded_27 : decode cX10_traded 27 = .ok (.iadd, 1) := by decide +kernel
theorem dX10_traded_28 : decode cX10_traded 28 = .ok (.iaload, 1) := by decide +kernel
theorem dX10_traded_29 : decode cX10_traded 29 = .ok (.iadd, 1) := by decide +kernel
theorem dX10_traded_30 : decode cX10_traded 30 = .ok (.istore_n 2, 1) := by decide +kernel
theorem dX10_traded_31 : decode cX10_traded 31 = .ok (.iinc 3 1, 3) := by decide +kernel
theorem dX10_traded_34 : decode cX10_traded 34 = .ok (.goto (-30), 3) := by decide +kernel
theorem dX10_traded_37 : decode cX10_traded 37 = .ok (.iload_n 2, 1) := by decide +kernel
theorem dX10_traded_38 : decode cX10_traded 38 = .ok (.ireturn, 1) := by decide +kernel
theorem dX10_laysCertificates_0 : decode cX10_laysCertificates 0 = .ok (.aload_n 0, 1) := by decide +kernel
theorem dX10_laysCertificates_1 : decode cX10_laysCertificates 1 = .ok (.iconst 0, 1) := by decide +kernel
theorem dX10_laysCertificates_2 : decode cX10_laysCertificates 2 = .ok (.putfield 124, 3) := by decide +kernel
theorem dX10_laysCertificates_5 : decode cX10_laysCertificates 5 = .ok (.iconst 0, 1) := by decide +kernel
theorem dX10_laysCertificates_6 : decode cX10_laysCertificates 6 = .ok (.istore_n 2, 1) := by decide +kernel
theorem dX10_laysCertificates_7 : decode cX10_laysCertificates 7 = .ok (.iconst 0, 1) := by decide +kernel
theorem dX10_laysCertificates_8 : decode cX10_laysCertificates 8 = .ok (.istore_n 3, 1) := by decide +kernel
theorem dX10_laysCertificates_9 : decode cX10_laysCertificates 9 = .ok (.iload_n 3, 1) := by decide +kernel
theorem dX10_laysCertificates_10 : decode cX10_laysCertificates 10 = .ok (.iload_n 1, 1) := by decide +kernel
theorem dX10_laysCertificates_11 : decode cX10_laysCertificates 11 = .ok (.if_icmp .gt 125, 3) := by decide +kernel
theorem dX10_laysCertificates_14 : decode cX10_laysCertificates 14 = .ok (.aload_n 0, 1) := by decide +kernel
theorem dX10_laysCertificates_15 : decode cX10_laysCertificates 15 = .ok (.getfield 19, 3) := by decide +kernel
theorem dX10_laysCertificates_18 : decode cX10_laysCertificates 18 = .ok (.sipush 494, 3) := by decide +kernel
theorem dX10_laysCertificates_21 : decode cX10_laysCertificates 21 = .ok (.iaload, 1) := by decide +kernel
theorem dX10_laysCertificates_22 : decode cX10_laysCertificates 22 = .ok (.iload_n 3, 1) := by decide +kernel
theorem dX10_laysCertificates_23 : decode cX10_laysCertificates 23 = .ok (.isub, 1) := by decide +kernel
theorem dX10_laysCertificates_24 : decode cX10_laysCertificates 24 = .ok (.aload_n 0, 1) := by decide +kernel
theorem dX10_laysCertificates_25 : decode cX10_laysCertificates 25 = .ok (.getfield 19, 3) := by decide +kernel
theorem dX10_laysCertificates_28 : decode cX10_laysCertificates 28 = .ok (.iconst 3, 1) := by decide +kernel
theorem dX10_laysCertificates_29 : decode cX10_laysCertificates 29 = .ok (.iaload, 1) := by decide +kernel
theorem dX10_laysCertificates_30 : decode cX10_laysCertificates 30 = .ok (.if_icmp .lt 106, 3) := by decide +kernel
theorem dX10_laysCertificates_33 : decode cX10_laysCertificates 33 = .ok (.iconst 0, 1) := by decide +kernel
theorem dX10_laysCertificates_34 : decode cX10_laysCertificates 34 = .ok (.istore 4, 2) := by decide +kernel
theorem dX10_laysCertificates_36 : decode cX10_laysCertificates 36 = .ok (.iload 4, 2) := by decide +kernel
theorem dX10_laysCertificates_38 : decode cX10_laysCertificates 38 = .ok (.aload_n 0, 1) := by decide +kernel
theorem dX10_laysCertificates_39 : decode cX10_laysCertificates 39 = .ok (.getfield 13, 3) := by decide +kernel
theorem dX10_laysCertificates_42 : decode cX10_laysCertificates 42 = .ok (.bipush 12, 2) := by decide +kernel
theorem dX10_laysCertificates_44 : decode cX10_laysCertificates 44 = .ok (.iaload, 1) := by decide +kernel
theorem dX10_laysCertificates_45 : decode cX10_laysCertificates 45 = .ok (.if_icmp .ge 85, 3) := by decide +kernel
theorem dX10_laysCertificates_48 : decode cX10_laysCertificates 48 = .ok (.aload_n 0, 1) := by decide +kernel
theorem dX10_laysCertificates_49 : decode cX10_laysCertificates 49 = .ok (.getfield 19, 3) := by decide +kernel
theorem dX10_laysCertificates_52 : decode cX10_laysCertificates 52 = .ok (.iconst 5, 1) := by decide +kernel
theorem dX10_laysCertificates_53 : decode cX10_laysCertificates 53 = .ok (.iload 4, 2) := by decide +kernel
theorem dX10_laysCertificates_55 : decode cX10_laysCertificates 55 = .ok (.iadd, 1) := by decide +kernel
theorem dX10_laysCertificates_56 : decode cX10_laysCertificates 56 = .ok (.iaload, 1) := by decide +kernel
theorem dX10_laysCertificates_57 : decode cX10_laysCertificates 57 = .ok (.ifCond .ne 67, 3) := by decide +kernel
theorem dX10_laysCertificates_60 : decode cX10_laysCertificates 60 = .ok (.aload_n 0, 1) := by decide +kernel
theorem dX10_laysCertificates_61 : decode cX10_laysCertificates 61 = .ok (.iload 4, 2) := by decide +kernel
theorem dX10_laysCertificates_63 : decode cX10_laysCertificates 63 = .ok (.iload_n 3, 1) := by decide +kernel
theorem dX10_laysCertificates_64 : decode cX10_laysCertificates 64 = .ok (.invokevirtual 92, 3) := by decide +kernel
theorem dX10_laysCertificates_67 : decode cX10_laysCertificates 67 = .ok (.ifCond .ne 6, 3) := by decide +kernel
theorem dX10_laysCertificates_70 : decode cX10_laysCertificates 70 = .ok (.goto 54, 3) := by decide +kernel
theorem dX10_laysCertificates_73 : decode cX10_laysCertificates 73 = .ok (.aload_n 0, 1) := by decide +kernel
theorem dX10_laysCertificates_74 : decode cX10_laysCertificates 74 = .ok (.getfield 50, 3) := by decide +kernel
theorem dX10_laysCertificates_77 : decode cX10_laysCertificates 77 = .ok (.aload_n 0, 1) := by decide +kernel
theorem dX10_laysCertificates_78 : decode cX10_laysCertificates 78 = .ok (.getfield 124, 3) := by decide +kernel
theorem dX10_laysCertificates_81 : decode cX10_laysCertificates 81 = .ok (.iload 4, 2) := by decide +kernel
theorem dX10_laysCertificates_83 : decode cX10_laysCertificates 83 = .ok (.iastore, 1) := by decide +kernel
theorem dX10_laysCertificates_84 : decode cX10_laysCertificates 84 = .ok (.aload_n 0, 1) := by decide +kernel
theorem dX10_laysCertificates_85 : decode cX10_laysCertificates 85 = .ok (.getfield 53, 3) := by decide +kernel
theorem dX10_laysCertificates_88 : decode cX10_laysCertificates 88 = .ok (.aload_n 0, 1) := by decide +kernel
theorem dX10_laysCertificates_89 : decode cX10_laysCertificates 89 = .ok (.getfield 124, 3) := by decide +kernel
theorem dX10_laysCertificates_92 : decode cX10_laysCertificates 92 = .ok (.iload_n 3, 1) := by decide +kernel
theorem dX10_laysCertificates_93 : decode cX10_laysCertificates 93 = .ok (.iastore, 1) := by decide +kernel
theorem dX10_laysCertificates_94 : decode cX10_laysCertificates 94 = .ok (.aload_n 0, 1) := by decide +kernel
theorem dX10_laysCertificates_95 : decode cX10_laysCertificates 95 = .ok (.getfield 47, 3) := by decide +kernel
theorem dX10_laysCertificates_98 : decode cX10_laysCertificates 98 = .ok (.aload_n 0, 1) := by decide +kernel
theorem dX10_laysCertificates_99 : decode cX10_laysCertificates 99 = .ok (.getfield 124, 3) := by decide +kernel
theorem dX10_laysCertificates_102 : decode cX10_laysCertificates 102 = .ok (.iconst 0, 1) := by decide +kernel
theorem dX10_laysCertificates_103 : decode cX10_laysCertificates 103 = .ok (.iastore, 1) := by decide +kernel
theorem dX10_laysCertificates_104 : decode cX10_laysCertificates 104 = .ok (.aload_n 0, 1) := by decide +kernel
theorem dX10_laysCertificates_105 : decode cX10_laysCertificates 105 = .ok (.dup, 1) := by decide +kernel
theorem dX10_laysCertificates_106 : decode cX10_laysCertificates 106 = .ok (.getfield 124, 3) := by decide +kernel
theorem dX10_laysCertificates_109 : decode cX10_laysCertificates 109 = .ok (.iconst 1, 1) := by decide +kernel
theorem dX10_laysCertificates_110 : decode cX10_laysCertificates 110 = .ok (.iadd, 1) := by decide +kernel
theorem dX10_laysCertificates_111 : decode cX10_laysCertificates 111 = .ok (.putfield 124, 3) := by decide +kernel
theorem dX10_laysCertificates_114 : decode cX10_laysCertificates 114 = .ok (.iload_n 2, 1) := by decide +kernel
theorem dX10_laysCertificates_115 : decode cX10_laysCertificates 115 = .ok (.aload_n 0, 1) := by decide +kernel
theorem dX10_laysCertificates_116 : decode cX10_laysCertificates 116 = .ok (.iload 4, 2) := by decide +kernel
theorem dX10_laysCertificates_118 : decode cX10_laysCertificates 118 = .ok (.iload_n 3, 1) := by decide +kernel
theorem dX10_laysCertificates_119 : decode cX10_laysCertificates 119 = .ok (.invokevirtual 92, 3) := by decide +kernel
theorem dX10_laysCertificates_122 : decode cX10_laysCertificates 122 = .ok (.iadd, 1) := by decide +kernel
theorem dX10_laysCertificates_123 : decode cX10_laysCertificates 123 = .ok (.istore_n 2, 1) := by decide +kernel
theorem dX10_laysCertificates_124 : decode cX10_laysCertificates 124 = .ok (.iinc 4 1, 3) := by decide +kernel
theorem dX10_laysCertificates_127 : decode cX10_laysCertificates 127 = .ok (.goto (-91), 3) := by decide +kernel
theorem dX10_laysCertificates_130 : decode cX10_laysCertificates 130 = .ok (.iinc 3 1, 3) := by decide +kernel
theorem dX10_laysCertificates_133 : decode cX10_laysCertificates 133 = .ok (.goto (-124), 3) := by decide +kernel
theorem dX10_laysCertificates_136 : decode cX10_laysCertificates 136 = .ok (.iload_n 2, 1) := by decide +kernel
theorem dX10_laysCertificates_137 : decode cX10_laysCertificates 137 = .ok (.ireturn, 1) := by decide +kernel
theorem dX10_lastYear_0 : decode cX10_lastYear 0 = .ok (.aload_n 0, 1) := by decide +kernel
theorem dX10_lastYear_1 : decode cX10_lastYear 1 = .ok (.getfield 19, 3) := by decide +kernel
theorem dX10_lastYear_4 : decode cX10_lastYear 4 = .ok (.sipush 494, 3) := by decide +kernel
theorem dX10_lastYear_7 : decode cX10_lastYear 7 = .ok (.iaload, 1) := by decide +kernel
theorem dX10_lastYear_8 : decode cX10_lastYear 8 = .ok (.bipush 24, 2) := by decide +kernel
theorem dX10_lastYear_10 : decode cX10_lastYear 10 = .ok (.invokestatic 100, 3) := by decide +kernel
theorem dX10_lastYear_13 : decode cX10_lastYear 13 = .ok (.iconst 1, 1) := by decide +kernel
theorem dX10_lastYear_14 : decode cX10_lastYear 14 = .ok (.isub, 1) := by decide +kernel
theorem dX10_lastYear_15 : decode cX10_lastYear 15 = .ok (.ireturn, 1) := by decide +kernel
theorem dX10_amountOf_0 : decode cX10_amountOf 0 = .ok (.aload_n 0, 1) := by decide +kernel
theorem dX10_amountOf_1 : decode cX10_amountOf 1 = .ok (.aload_n 0, 1) := by decide +kernel
theorem dX10_amountOf_2 : decode cX10_amountOf 2 = .ok (.getfield 50, 3) := by decide +kernel
theorem dX10_amountOf_5 : decode cX10_amountOf 5 = .ok (.iload_n 1, 1) := by decide +kernel
theorem dX10_amountOf_6 : decode cX10_amountOf 6 = .ok (.iaload, 1) := by decide +kernel
theorem dX10_amountOf_7 : decode cX10_amountOf 7 = .ok (.aload_n 0, 1) := by decide +kernel
theorem dX10_amountOf_8 : decode cX10_amountOf 8 = .ok (.getfield 53, 3) := by decide +kernel
theorem dX10_amountOf_11 : decode cX10_amountOf 11 = .ok (.iload_n 1, 1) := by decide +kernel
theorem dX10_amountOf_12 : decode cX10_amountOf 12 = .ok (.iaload, 1) := by decide +kernel
theorem dX10_amountOf_13 : decode cX10_amountOf 13 = .ok (.invokevirtual 92, 3) := by decide +kernel
theorem dX10_amountOf_16 : decode cX10_amountOf 16 = .ok (.ireturn, 1) := by decide +kernel
theorem dX10_sharesAmong_0 : decode cX10_sharesAmong 0 = .ok (.iload_n 1, 1) := by decide +kernel
theorem dX10_sharesAmong_1 : decode cX10_sharesAmong 1 = .ok (.istore 4, 2) := by decide +kernel
theorem dX10_sharesAmong_3 : decode cX10_sharesAmong 3 = .ok (.iload 4, 2) := by decide +kernel
theorem dX10_sharesAmong_5 : decode cX10_sharesAmong 5 = .ok (.iload_n 2, 1) := by decide +kernel
theorem dX10_sharesAmong_6 : decode cX10_sharesAmong 6 = .ok (.if_icmp .ge 25, 3) := by decide +kernel
theorem dX10_sharesAmong_9 : decode cX10_sharesAmong 9 = .ok (.aload_n 0, 1) := by decide +kernel
theorem dX10_sharesAmong_10 : decode cX10_sharesAmong 10 = .ok (.getfield 28, 3) := by decide +kernel
theorem dX10_sharesAmong_13 : decode cX10_sharesAmong 13 = .ok (.iload 4, 2) := by decide +kernel
theorem dX10_sharesAmong_15 : decode cX10_sharesAmong 15 = .ok (.iload_n 1, 1) := by decide +kernel
theorem dX10_sharesAmong_16 : decode cX10_sharesAmong 16 = .ok (.isub, 1) := by decide +kernel
theorem dX10_sharesAmong_17 : decode cX10_sharesAmong 17 = .ok (.aload_n 0, 1) := by decide +kernel
theorem dX10_sharesAmong_18 : decode cX10_sharesAmong 18 = .ok (.iload 4, 2) := by decide +kernel
theorem dX10_sharesAmong_20 : decode cX10_sharesAmong 20 = .ok (.invokevirtual 127, 3) := by decide +kernel
theorem dX10_sharesAmong_23 : decode cX10_sharesAmong 23 = .ok (.i2l, 1) := by decide +kernel
theorem dX10_sharesAmong_24 : decode cX10_sharesAmong 24 = .ok (.lastore, 1) := by decide +kernel
theorem dX10_sharesAmong_25 : decode cX10_sharesAmong 25 = .ok (.iinc 4 1, 3) := by decide +kernel
theorem dX10_sharesAmong_28 : decode cX10_sharesAmong 28 = .ok (.goto (-25), 3) := by decide +kernel
theorem dX10_sharesAmong_31 : decode cX10_sharesAmong 31 = .ok (.aload_n 0, 1) := by decide +kernel
theorem dX10_sharesAmong_32 : decode cX10_sharesAmong 32 = .ok (.iload_n 2, 1) := by decide +kernel
theorem dX10_sharesAmong_33 : decode cX10_sharesAmong 33 = .ok (.iload_n 1, 1) := by decide +kernel
theorem dX10_sharesAmong_34 : decode cX10_sharesAmong 34 = .ok (.isub, 1) := by decide +kernel
theorem dX10_sharesAmong_35 : decode cX10_sharesAmong 35 = .ok (.iload_n 3, 1) := by decide +kernel
theorem dX10_sharesAmong_36 : decode cX10_sharesAmong 36 = .ok (.i2l, 1) := by decide +kernel
theorem dX10_sharesAmong_37 : decode cX10_sharesAmong 37 = .ok (.invokevirtual 84, 3) := by decide +kernel
theorem dX10_sharesAmong_40 : decode cX10_sharesAmong 40 = .ok (.istore 4, 2) := by decide +kernel
theorem dX10_sharesAmong_42 : decode cX10_sharesAmong 42 = .ok (.iload_n 1, 1) := by decide +kernel
theorem dX10_sharesAmong_43 : decode cX10_sharesAmong 43 = .ok (.istore 5, 2) := by decide +kernel
theorem dX10_sharesAmong_45 : decode cX10_sharesAmong 45 = .ok (.iload 5, 2) := by decide +kernel
theorem dX10_sharesAmong_47 : decode cX10_sharesAmong 47 = .ok (.iload_n 2, 1) := by decide +kernel
theorem dX10_sharesAmong_48 : decode cX10_sharesAmong 48 = .ok (.if_icmp .ge 31, 3) := by decide +kernel
theorem dX10_sharesAmong_51 : decode cX10_sharesAmong 51 = .ok (.iload 4, 2) := by decide +kernel
theorem dX10_sharesAmong_53 : decode cX10_sharesAmong 53 = .ok (.ifCond .eq 26, 3) := by decide +kernel
theorem dX10_sharesAmong_56 : decode cX10_sharesAmong 56 = .ok (.aload_n 0, 1) := by decide +kernel
theorem dX10_sharesAmong_57 : decode cX10_sharesAmong 57 = .ok (.getfield 47, 3) := by decide +kernel
theorem dX10_sharesAmong_60 : decode cX10_sharesAmong 60 = .ok (.iload 5, 2) := by decide +kernel
theorem dX10_sharesAmong_62 : decode cX10_sharesAmong 62 = .ok (.aload_n 0, 1) := by decide +kernel
theorem dX10_sharesAmong_63 : decode cX10_sharesAmong 63 = .ok (.getfield 32, 3) := by decide +kernel
theorem dX10_sharesAmong_66 : decode cX10_sharesAmong 66 = .ok (.iload 5, 2) := by decide +kernel
theorem dX10_sharesAmong_68 : decode cX10_sharesAmong 68 = .ok (.iload_n 1, 1) := by decide +kernel
theorem dX10_sharesAmong_69 : decode cX10_sharesAmong 69 = .ok (.isub, 1) := by decide +kernel
theorem dX10_sharesAmong_70 : decode cX10_sharesAmong 70 = .ok (.laload, 1) := by decide +kernel
theorem dX10_sharesAmong_71 : decode cX10_sharesAmong 71 = .ok (.l2i, 1) := by decide +kernel
theorem dX10_sharesAmong_72 : decode cX10_sharesAmong 72 = .ok (.iastore, 1) := by decide +kernel
theorem dX10_sharesAmong_73 : decode cX10_sharesAmong 73 = .ok (.iinc 5 1, 3) := by decide +kernel
theorem dX10_sharesAmong_76 : decode cX10_sharesAmong 76 = .ok (.goto (-31), 3) := by decide +kernel
theorem dX10_sharesAmong_79 : decode cX10_sharesAmong 79 = .ok (.return_, 1) := by decide +kernel
theorem dX10_paysByYears_0 : decode cX10_paysByYears 0 = .ok (.iload_n 1, 1) := by decide +kernel
theorem dX10_paysByYears_1 : decode cX10_paysByYears 1 = .ok (.istore_n 2, 1) := by decide +kernel
theorem dX10_paysByYears_2 : decode cX10_paysByYears 2 = .ok (.iconst 0, 1) := by decide +kernel
theorem dX10_paysByYears_3 : decode cX10_paysByYears 3 = .ok (.istore_n 3, 1) := by decide +kernel
theorem dX10_paysByYears_4 : decode cX10_paysByYears 4 = .ok (.iload_n 3, 1) := by decide +kernel
theorem dX10_paysByYears_5 : decode cX10_paysByYears 5 = .ok (.aload_n 0, 1) := by decide +kernel
theorem dX10_paysByYears_6 : decode cX10_paysByYears 6 = .ok (.getfield 124, 3) := by decide +kernel
theorem dX10_paysByYears_9 : decode cX10_paysByYears 9 = .ok (.if_icmp .ge 82, 3) := by decide +kernel
theorem dX10_paysByYears_12 : decode cX10_paysByYears 12 = .ok (.iload_n 3, 1) := by decide +kernel
theorem dX10_paysByYears_13 : decode cX10_paysByYears 13 = .ok (.istore 4, 2) := by decide +kernel
theorem dX10_paysByYears_15 : decode cX10_paysByYears 15 = .ok (.iconst 0, 1) := by decide +kernel
theorem dX10_paysByYears_16 : decode cX10_paysByYears 16 = .ok (.istore 5, 2) := by decide +kernel
theorem dX10_paysByYears_18 : decode cX10_paysByYears 18 = .ok (.iload 4, 2) := by decide +kernel
theorem dX10_paysByYears_20 : decode cX10_paysByYears 20 = .ok (.aload_n 0, 1) := by decide +kernel
theorem dX10_paysByYears_21 : decode cX10_paysByYears 21 = .ok (.getfield 124, 3) := by decide +kernel
theorem dX10_paysByYears_24 : decode cX10_paysByYears 24 = .ok (.if_icmp .ge 36, 3) := by decide +kernel
theorem dX10_paysByYears_27 : decode cX10_paysByYears 27 = .ok (.aload_n 0, 1) := by decide +kernel
theorem dX10_paysByYears_28 : decode cX10_paysByYears 28 = .ok (.getfield 53, 3) := by decide +kernel
theorem dX10_paysByYears_31 : decode cX10_paysByYears 31 = .ok (.iload 4, 2) := by decide +kernel
theorem dX10_paysByYears_33 : decode cX10_paysByYears 33 = .ok (.iaload, 1) := by decide +kernel
theorem dX10_paysByYears_34 : decode cX10_paysByYears 34 = .ok (.aload_n 0, 1) := by decide +kernel
theorem dX10_paysByYears_35 : decode cX10_paysByYears 35 = .ok (.getfield 53, 3) := by decide +kernel
theorem dX10_paysByYears_38 : decode cX10_paysByYears 38 = .ok (.iload_n 3, 1) := by decide +kernel
theorem dX10_paysByYears_39 : decode cX10_paysByYears 39 = .ok (.iaload, 1) := by decide +kernel
theorem dX10_paysByYears_40 : decode cX10_paysByYears 40 = .ok (.if_icmp .ne 20, 3) := by decide +kernel
theorem dX10_paysByYears_43 : decode cX10_paysByYears 43 = .ok (.iload 5, 2) := by decide +kernel
theorem dX10_paysByYears_45 : decode cX10_paysByYears 45 = .ok (.aload_n 0, 1) := by decide +kernel
theorem dX10_paysByYears_46 : decode cX10_paysByYears 46 = .ok (.iload 4, 2) := by decide +kernel
theorem dX10_paysByYears_48 : decode cX10_paysByYears 48 = .ok (.invokevirtual 127, 3) := by decide +kernel
theorem dX10_paysByYears_51 : decode cX10_paysByYears 51 = .ok (.iadd, 1) := by decide +kernel
theorem dX10_paysByYears_52 : decode cX10_paysByYears 52 = .ok (.istore 5, 2) := by decide +kernel
theorem dX10_paysByYears_54 : decode cX10_paysByYears 54 = .ok (.iinc 4 1, 3) := by decide +kernel
theorem dX10_paysByYears_57 : decode cX10_paysByYears 57 = .ok (.goto (-39), 3) := by decide +kernel
theorem dX10_paysByYears_60 : decode cX10_paysByYears 60 = .ok (.aload_n 0, 1) := by decide +kernel
theorem dX10_paysByYears_61 : decode cX10_paysByYears 61 = .ok (.iload_n 3, 1) := by decide +kernel
theorem dX10_paysByYears_62 : decode cX10_paysByYears 62 = .ok (.iload 4, 2) := by decide +kernel
theorem dX10_paysByYears_64 : decode cX10_paysByYears 64 = .ok (.iload_n 2, 1) := by decide +kernel
theorem dX10_paysByYears_65 : decode cX10_paysByYears 65 = .ok (.iload 5, 2) := by decide +kernel
theorem dX10_paysByYears_67 : decode cX10_paysByYears 67 = .ok (.invokestatic 100, 3) := by decide +kernel
theorem dX10_paysByYears_70 : decode cX10_paysByYears 70 = .ok (.invokevirtual 130, 3) := by decide +kernel
theorem dX10_paysByYears_73 : decode cX10_paysByYears 73 = .ok (.iload_n 2, 1) := by decide +kernel
theorem dX10_paysByYears_74 : decode cX10_paysByYears 74 = .ok (.iload 5, 2) := by decide +kernel
theorem dX10_paysByYears_76 : decode cX10_paysByYears 76 = .ok (.if_icmp .ge 4, 3) := by decide +kernel
theorem dX10_paysByYears_79 : decode cX10_paysByYears 79 = .ok (.return_, 1) := by decide +kernel
theorem dX10_paysByYears_80 : decode cX10_paysByYears 80 = .ok (.iload_n 2, 1) := by decide +kernel
theorem dX10_paysByYears_81 : decode cX10_paysByYears 81 = .ok (.iload 5, 2) := by decide +kernel
theorem dX10_paysByYears_83 : decode cX10_paysByYears 83 = .ok (.isub, 1) := by decide +kernel
theorem dX10_paysByYears_84 : decode cX10_paysByYears 84 = .ok (.istore_n 2, 1) := by decide +kernel
theorem dX10_paysByYears_85 : decode cX10_paysByYears 85 = .ok (.iload 4, 2) := by decide +kernel
theorem dX10_paysByYears_87 : decode cX10_paysByYears 87 = .ok (.istore_n 3, 1) := by decide +kernel
theorem dX10_paysByYears_88 : decode cX10_paysByYears 88 = .ok (.goto (-84), 3) := by decide +kernel
theorem dX10_paysByYears_91 : decode cX10_paysByYears 91 = .ok (.return_, 1) := by decide +kernel
theorem dX10_paysSmallest_0 : decode cX10_paysSmallest 0 = .ok (.iload_n 1, 1) := by decide +kernel
theorem dX10_paysSmallest_1 : decode cX10_paysSmallest 1 = .ok (.istore_n 2, 1) := by decide +kernel
theorem dX10_paysSmallest_2 : decode cX10_paysSmallest 2 = .ok (.iload_n 2, 1) := by decide +kernel
theorem dX10_paysSmallest_3 : decode cX10_paysSmallest 3 = .ok (.ifCond .le 88, 3) := by decide +kernel
theorem dX10_paysSmallest_6 : decode cX10_paysSmallest 6 = .ok (.iconst (-1), 1) := by decide +kernel
theorem dX10_paysSmallest_7 : decode cX10_paysSmallest 7 = .ok (.istore_n 3, 1) := by decide +kernel
theorem dX10_paysSmallest_8 : decode cX10_paysSmallest 8 = .ok (.iconst 0, 1) := by decide +kernel
theorem dX10_paysSmallest_9 : decode cX10_paysSmallest 9 = .ok (.istore 4, 2) := by decide +kernel
theorem dX10_paysSmallest_11 : decode cX10_paysSmallest 11 = .ok (.iload 4, 2) := by decide +kernel
theorem dX10_paysSmallest_13 : decode cX10_paysSmallest 13 = .ok (.aload_n 0, 1) := by decide +kernel
theorem dX10_paysSmallest_14 : decode cX10_paysSmallest 14 = .ok (.getfield 124, 3) := by decide +kernel
theorem dX10_paysSmallest_17 : decode cX10_paysSmallest 17 = .ok (.if_icmp .ge 41, 3) := by decide +kernel
theorem dX10_paysSmallest_20 : decode cX10_paysSmallest 20 = .ok (.aload_n 0, 1) := by decide +kernel
theorem dX10_paysSmallest_21 : decode cX10_paysSmallest 21 = .ok (.getfield 47, 3) := by decide +kernel
theorem dX10_paysSmallest_24 : decode cX10_paysSmallest 24 = .ok (.iload 4, 2) := by decide +kernel
theorem dX10_paysSmallest_26 : decode cX10_paysSmallest 26 = .ok (.iaload, 1) := by decide +kernel
theorem dX10_paysSmallest_27 : decode cX10_paysSmallest 27 = .ok (.ifCond .ne 25, 3) := by decide +kernel
theorem dX10_paysSmallest_30 : decode cX10_paysSmallest 30 = .ok (.iload_n 3, 1) := by decide +kernel
theorem dX10_paysSmallest_31 : decode cX10_paysSmallest 31 = .ok (.iconst (-1), 1) := by decide +kernel
theorem dX10_paysSmallest_32 : decode cX10_paysSmallest 32 = .ok (.if_icmp .eq 17, 3) := by decide +kernel
theorem dX10_paysSmallest_35 : decode cX10_paysSmallest 35 = .ok (.aload_n 0, 1) := by decide +kernel
theorem dX10_paysSmallest_36 : decode cX10_paysSmallest 36 = .ok (.iload 4, 2) := by decide +kernel
theorem dX10_paysSmallest_38 : decode cX10_paysSmallest 38 = .ok (.invokevirtual 127, 3) := by decide +kernel
theorem dX10_paysSmallest_41 : decode cX10_paysSmallest 41 = .ok (.aload_n 0, 1) := by decide +kernel
theorem dX10_paysSmallest_42 : decode cX10_paysSmallest 42 = .ok (.iload_n 3, 1) := by decide +kernel
theorem dX10_paysSmallest_43 : decode cX10_paysSmallest 43 = .ok (.invokevirtual 127, 3) := by decide +kernel
theorem dX10_paysSmallest_46 : decode cX10_paysSmallest 46 = .ok (.if_icmp .ge 6, 3) := by decide +kernel
theorem dX10_paysSmallest_49 : decode cX10_paysSmallest 49 = .ok (.iload 4, 2) := by decide +kernel
theorem dX10_paysSmallest_51 : decode cX10_paysSmallest 51 = .ok (.istore_n 3, 1) := by decide +kernel
theorem dX10_paysSmallest_52 : decode cX10_paysSmallest 52 = .ok (.iinc 4 1, 3) := by decide +kernel
theorem dX10_paysSmallest_55 : decode cX10_paysSmallest 55 = .ok (.goto (-44), 3) := by decide +kernel
theorem dX10_paysSmallest_58 : decode cX10_paysSmallest 58 = .ok (.iload_n 3, 1) := by decide +kernel
theorem dX10_paysSmallest_59 : decode cX10_paysSmallest 59 = .ok (.iconst (-1), 1) := by decide +kernel
theorem dX10_paysSmallest_60 : decode cX10_paysSmallest 60 = .ok (.if_icmp .ne 4, 3) := by decide +kernel
theorem dX10_paysSmallest_63 : decode cX10_paysSmallest 63 = .ok (.return_, 1) := by decide +kernel
theorem dX10_paysSmallest_64 : decode cX10_paysSmallest 64 = .ok (.aload_n 0, 1) := by decide +kernel
theorem dX10_paysSmallest_65 : decode cX10_paysSmallest 65 = .ok (.getfield 47, 3) := by decide +kernel
theorem dX10_paysSmallest_68 : decode cX10_paysSmallest 68 = .ok (.iload_n 3, 1) := by decide +kernel
theorem dX10_paysSmallest_69 : decode cX10_paysSmallest 69 = .ok (.iload_n 2, 1) := by decide +kernel
theorem dX10_paysSmallest_70 : decode cX10_paysSmallest 70 = .ok (.aload_n 0, 1) := by decide +kernel
theorem dX10_paysSmallest_71 : decode cX10_paysSmallest 71 = .ok (.iload_n 3, 1) := by decide +kernel
theorem dX10_paysSmallest_72 : decode cX10_paysSmallest 72 = .ok (.invokevirtual 127, 3) := by decide +kernel
theorem dX10_paysSmallest_75 : decode cX10_paysSmallest 75 = .ok (.invokestatic 100, 3) := by decide +kernel
theorem dX10_paysSmallest_78 : decode cX10_paysSmallest 78 = .ok (.iastore, 1) := by decide +kernel
theorem dX10_paysSmallest_79 : decode cX10_paysSmallest 79 = .ok (.iload_n 2, 1) := by decide +kernel
theorem dX10_paysSmallest_80 : decode cX10_paysSmallest 80 = .ok (.aload_n 0, 1) := by decide +kernel
theorem dX10_paysSmallest_81 : decode cX10_paysSmallest 81 = .ok (.getfield 47, 3) := by decide +kernel
theorem dX10_paysSmallest_84 : decode cX10_paysSmallest 84 = .ok (.iload_n 3, 1) := by decide +kernel
theorem dX10_paysSmallest_85 : decode cX10_paysSmallest 85 = .ok (.iaload, 1) := by decide +kernel
theorem dX10_paysSmallest_86 : decode cX10_paysSmallest 86 = .ok (.isub, 1) := by decide +kernel
theorem dX10_paysSmallest_87 : decode cX10_paysSmallest 87 = .ok (.istore_n 2, 1) := by decide +kernel
theorem dX10_paysSmallest_88 : decode cX10_paysSmallest 88 = .ok (.goto (-86), 3) := by decide +kernel
theorem dX10_paysSmallest_91 : decode cX10_paysSmallest 91 = .ok (.return_, 1) := by decide +kernel
theorem dX10_laysPayments_0 : decode cX10_laysPayments 0 = .ok (.aload_n 0, 1) := by decide +kernel
theorem dX10_laysPayments_1 : decode cX10_laysPayments 1 = .ok (.aload_n 0, 1) := by decide +kernel
theorem dX10_laysPayments_2 : decode cX10_laysPayments 2 = .ok (.invokevirtual 133, 3) := by decide +kernel
theorem dX10_laysPayments_5 : decode cX10_laysPayments 5 = .ok (.invokevirtual 137, 3) := by decide +kernel
theorem dX10_laysPayments_8 : decode cX10_laysPayments 8 = .ok (.istore_n 2, 1) := by decide +kernel
theorem dX10_laysPayments_9 : decode cX10_laysPayments 9 = .ok (.iload_n 2, 1) := by decide +kernel
theorem dX10_laysPayments_10 : decode cX10_laysPayments 10 = .ok (.iload_n 1, 1) := by decide +kernel
theorem dX10_laysPayments_11 : decode cX10_laysPayments 11 = .ok (.invokestatic 100, 3) := by decide +kernel
theorem dX10_laysPayments_14 : decode cX10_laysPayments 14 = .ok (.istore_n 3, 1) := by decide +kernel
theorem dX10_laysPayments_15 : decode cX10_laysPayments 15 = .ok (.aload_n 0, 1) := by decide +kernel
theorem dX10_laysPayments_16 : decode cX10_laysPayments 16 = .ok (.getfield 19, 3) := by decide +kernel
theorem dX10_laysPayments_19 : decode cX10_laysPayments 19 = .ok (.iconst 4, 1) := by decide +kernel
theorem dX10_laysPayments_20 : decode cX10_laysPayments 20 = .ok (.iaload, 1) := by decide +kernel
theorem dX10_laysPayments_21 : decode cX10_laysPayments 21 = .ok (.ifCond .ne 11, 3) := by decide +kernel
theorem dX10_laysPayments_24 : decode cX10_laysPayments 24 = .ok (.aload_n 0, 1) := by decide +kernel
theorem dX10_laysPayments_25 : decode cX10_laysPayments 25 = .ok (.iload_n 3, 1) := by decide +kernel
theorem dX10_laysPayments_26 : decode cX10_laysPayments 26 = .ok (.invokevirtual 140, 3) := by decide +kernel
theorem dX10_laysPayments_29 : decode cX10_laysPayments 29 = .ok (.goto 31, 3) := by decide +kernel
theorem dX10_laysPayments_32 : decode cX10_laysPayments 32 = .ok (.aload_n 0, 1) := by decide +kernel
theorem dX10_laysPayments_33 : decode cX10_laysPayments 33 = .ok (.getfield 19, 3) := by decide +kernel
theorem dX10_laysPayments_36 : decode cX10_laysPayments 36 = .ok (.iconst 4, 1) := by decide +kernel
theorem dX10_laysPayments_37 : decode cX10_laysPayments 37 = .ok (.iaload, 1) := by decide +kernel
theorem dX10_laysPayments_38 : decode cX10_laysPayments 38 = .ok (.iconst 1, 1) := by decide +kernel
theorem dX10_laysPayments_39 : decode cX10_laysPayments 39 = .ok (.if_icmp .ne 16, 3) := by decide +kernel
theorem dX10_laysPayments_42 : decode cX10_laysPayments 42 = .ok (.aload_n 0, 1) := by decide +kernel
theorem dX10_laysPayments_43 : decode cX10_laysPayments 43 = .ok (.iconst 0, 1) := by decide +kernel
theorem dX10_laysPayments_44 : decode cX10_laysPayments 44 = .ok (.aload_n 0, 1) := by decide +kernel
theorem dX10_laysPayments_45 : decode cX10_laysPayments 45 = .ok (.getfield 124, 3) := by decide +kernel
theorem dX10_laysPayments_48 : decode cX10_laysPayments 48 = .ok (.iload_n 3, 1) := by decide +kernel
theorem dX10_laysPayments_49 : decode cX10_laysPayments 49 = .ok (.invokevirtual 130, 3) := by decide +kernel
theorem dX10_laysPayments_52 : decode cX10_laysPayments 52 = .ok (.goto 8, 3) := by decide +kernel
theorem dX10_laysPayments_55 : decode cX10_laysPayments 55 = .ok (.aload_n 0, 1) := by decide +kernel
theorem dX10_laysPayments_56 : decode cX10_laysPayments 56 = .ok (.iload_n 3, 1) := by decide +kernel
theorem dX10_laysPayments_57 : decode cX10_laysPayments 57 = .ok (.invokevirtual 143, 3) := by decide +kernel
theorem dX10_laysPayments_60 : decode cX10_laysPayments 60 = .ok (.iload_n 3, 1) := by decide +kernel
theorem dX10_laysPayments_61 : decode cX10_laysPayments 61 = .ok (.ireturn, 1) := by decide +kernel
theorem dX10_paysAll_0 : decode cX10_paysAll 0 = .ok (.iconst 0, 1) := by decide +kernel
theorem dX10_paysAll_1 : decode cX10_paysAll 1 = .ok (.istore_n 1, 1) := by decide +kernel
theorem dX10_paysAll_2 : decode cX10_paysAll 2 = .ok (.iload_n 1, 1) := by decide +kernel
theorem dX10_paysAll_3 : decode cX10_paysAll 3 = .ok (.aload_n 0, 1) := by decide +kernel
theorem dX10_paysAll_4 : decode cX10_paysAll 4 = .ok (.getfield 124, 3) := by decide +kernel
theorem dX10_paysAll_7 : decode cX10_paysAll 7 = .ok (.if_icmp .ge 48, 3) := by decide +kernel
theorem dX10_paysAll_10 : decode cX10_paysAll 10 = .ok (.aload_n 0, 1) := by decide +kernel
theorem dX10_paysAll_11 : decode cX10_paysAll 11 = .ok (.aload_n 0, 1) := by decide +kernel
theorem dX10_paysAll_12 : decode cX10_paysAll 12 = .ok (.getfield 50, 3) := by decide +kernel
theorem dX10_paysAll_15 : decode cX10_paysAll 15 = .ok (.iload_n 1, 1) := by decide +kernel
theorem dX10_paysAll_16 : decode cX10_paysAll 16 = .ok (.iaload, 1) := by decide +kernel
theorem dX10_paysAll_17 : decode cX10_paysAll 17 = .ok (.aload_n 0, 1) := by decide +kernel
theorem dX10_paysAll_18 : decode cX10_paysAll 18 = .ok (.getfield 53, 3) := by decide +kernel
theorem dX10_paysAll_21 : decode cX10_paysAll 21 = .ok (.iload_n 1, 1) := by decide +kernel
theorem dX10_paysAll_22 : decode cX10_paysAll 22 = .ok (.iaload, 1) := by decide +kernel
theorem dX10_paysAll_23 : decode cX10_paysAll 23 = .ok (.aload_n 0, 1) := by decide +kernel
theorem dX10_paysAll_24 : decode cX10_paysAll 24 = .ok (.getfield 47, 3) := by decide +kernel
theorem dX10_paysAll_27 : decode cX10_paysAll 27 = .ok (.iload_n 1, 1) := by decide +kernel
theorem dX10_paysAll_28 : decode cX10_paysAll 28 = .ok (.iaload, 1) := by decide +kernel
theorem dX10_paysAll_29 : decode cX10_paysAll 29 = .ok (.invokevirtual 103, 3) := by decide +kernel
theorem dX10_paysAll_32 : decode cX10_paysAll 32 = .ok (.aload_n 0, 1) := by decide +kernel
theorem dX10_paysAll_33 : decode cX10_paysAll 33 = .ok (.aload_n 0, 1) := by decide +kernel
theorem dX10_paysAll_34 : decode cX10_paysAll 34 = .ok (.getfield 50, 3) := by decide +kernel
theorem dX10_paysAll_37 : decode cX10_paysAll 37 = .ok (.iload_n 1, 1) := by decide +kernel
theorem dX10_paysAll_38 : decode cX10_paysAll 38 = .ok (.iaload, 1) := by decide +kernel
theorem dX10_paysAll_39 : decode cX10_paysAll 39 = .ok (.iconst 1, 1) := by decide +kernel
theorem dX10_paysAll_40 : decode cX10_paysAll 40 = .ok (.aload_n 0, 1) := by decide +kernel
theorem dX10_paysAll_41 : decode cX10_paysAll 41 = .ok (.getfield 47, 3) := by decide +kernel
theorem dX10_paysAll_44 : decode cX10_paysAll 44 = .ok (.iload_n 1, 1) := by decide +kernel
theorem dX10_paysAll_45 : decode cX10_paysAll 45 = .ok (.iaload, 1) := by decide +kernel
theorem dX10_paysAll_46 : decode cX10_paysAll 46 = .ok (.invokevirtual 96, 3) := by decide +kernel
theorem dX10_paysAll_49 : decode cX10_paysAll 49 = .ok (.iinc 1 1, 3) := by decide +kernel
theorem dX10_paysAll_52 : decode cX10_paysAll 52 = .ok (.goto (-50), 3) := by decide +kernel
theorem dX10_paysAll_55 : decode cX10_paysAll 55 = .ok (.return_, 1) := by decide +kernel
theorem dX10_here_0 : decode cX10_here 0 = .ok (.aload_n 0, 1) := by decide +kernel
theorem dX10_here_1 : decode cX10_here 1 = .ok (.getfield 146, 3) := by decide +kernel
theorem dX10_here_4 : decode cX10_here 4 = .ok (.aload_n 0, 1) := by decide +kernel
theorem dX10_here_5 : decode cX10_here 5 = .ok (.getfield 149, 3) := by decide +kernel
theorem dX10_here_8 : decode cX10_here 8 = .ok (.if_icmp .ge 15, 3) := by decide +kernel
theorem dX10_here_11 : decode cX10_here 11 = .ok (.aload_n 0, 1) := by decide +kernel
theorem dX10_here_12 : decode cX10_here 12 = .ok (.getfield 7, 3) := by decide +kernel
theorem dX10_here_15 : decode cX10_here 15 = .ok (.aload_n 0, 1) := by decide +kernel
theorem dX10_here_16 : decode cX10_here 16 = .ok (.getfield 146, 3) := by decide +kernel
theorem dX10_here_19 : decode cX10_here 19 = .ok (.iaload, 1) := by decide +kernel
theorem dX10_here_20 : decode cX10_here 20 = .ok (.goto 4, 3) := by decide +kernel
theorem dX10_here_23 : decode cX10_here 23 = .ok (.iconst (-1), 1) := by decide +kernel
theorem dX10_here_24 : decode cX10_here 24 = .ok (.ireturn, 1) := by decide +kernel
theorem dX10_isSmall_0 : decode cX10_isSmall 0 = .ok (.iload_n 0, 1) := by decide +kernel
theorem dX10_isSmall_1 : decode cX10_isSmall 1 = .ok (.bipush 97, 2) := by decide +kernel
theorem dX10_isSmall_3 : decode cX10_isSmall 3 = .ok (.if_icmp .lt 13, 3) := by decide +kernel
theorem dX10_isSmall_6 : decode cX10_isSmall 6 = .ok (.iload_n 0, 1) := by decide +kernel
theorem dX10_isSmall_7 : decode cX10_isSmall 7 = .ok (.bipush 122, 2) := by decide +kernel
theorem dX10_isSmall_9 : decode cX10_isSmall 9 = .ok (.if_icmp .gt 7, 3) := by decide +kernel
theorem dX10_isSmall_12 : decode cX10_isSmall 12 = .ok (.iconst 1, 1) := by decide +kernel
theorem dX10_isSmall_13 : decode cX10_isSmall 13 = .ok (.goto 4, 3) := by decide +kernel
theorem dX10_isSmall_16 : decode cX10_isSmall 16 = .ok (.iconst 0, 1) := by decide +kernel
theorem dX10_isSmall_17 : decode cX10_isSmall 17 = .ok (.ireturn, 1) := by decide +kernel
theorem dX10_isDigit_0 : decode cX10_isDigit 0 = .ok (.iload_n 0, 1) := by decide +kernel
theorem dX10_isDigit_1 : decode cX10_isDigit 1 = .ok (.bipush 48, 2) := by decide +kernel
theorem dX10_isDigit_3 : decode cX10_isDigit 3 = .ok (.if_icmp .lt 13, 3) := by decide +kernel
theorem dX10_isDigit_6 : decode cX10_isDigit 6 = .ok (.iload_n 0, 1) := by decide +kernel
theorem dX10_isDigit_7 : decode cX10_isDigit 7 = .ok (.bipush 57, 2) := by decide +kernel
theorem dX10_isDigit_9 : decode cX10_isDigit 9 = .ok (.if_icmp .gt 7, 3) := by decide +kernel
theorem dX10_isDigit_12 : decode cX10_isDigit 12 = .ok (.iconst 1, 1) := by decide +kernel
theorem dX10_isDigit_13 : decode cX10_isDigit 13 = .ok (.goto 4, 3) := by decide +kernel
theorem dX10_isDigit_16 : decode cX10_isDigit 16 = .ok (.iconst 0, 1) := by decide +kernel
theorem dX10_isDigit_17 : decode cX10_isDigit 17 = .ok (.ireturn, 1) := by decide +kernel
theorem dX10_next_0 : decode cX10_next 0 = .ok (.aload_n 0, 1) := by decide +kernel
theorem dX10_next_1 : decode cX10_next 1 = .ok (.invokevirtual 152, 3) := by decide +kernel
theorem dX10_next_4 : decode cX10_next 4 = .ok (.bipush 10, 2) := by decide +kernel
theorem dX10_next_6 : decode cX10_next 6 = .ok (.if_icmp .eq 12, 3) := by decide +kernel
theorem dX10_next_9 : decode cX10_next 9 = .ok (.aload_n 0, 1) := by decide +kernel
theorem dX10_next_10 : decode cX10_next 10 = .ok (.invokevirtual 152, 3) := by decide +kernel
theorem dX10_next_13 : decode cX10_next 13 = .ok (.bipush 32, 2) := by decide +kernel
theorem dX10_next_15 : decode cX10_next 15 = .ok (.if_icmp .ne 16, 3) := by decide +kernel
theorem dX10_next_18 : decode cX10_next 18 = .ok (.aload_n 0, 1) := by decide +kernel
theorem dX10_next_19 : decode cX10_next 19 = .ok (.dup, 1) := by decide +kernel
theorem dX10_next_20 : decode cX10_next 20 = .ok (.getfield 146, 3) := by decide +kernel
theorem dX10_next_23 : decode cX10_next 23 = .ok (.iconst 1, 1) := by decide +kernel
theorem dX10_next_24 : decode cX10_next 24 = .ok (.iadd, 1) := by decide +kernel
theorem dX10_next_25 : decode cX10_next 25 = .ok (.putfield 146, 3) := by decide +kernel
theorem dX10_next_28 : decode cX10_next 28 = .ok (.goto (-28), 3) := by decide +kernel
theorem dX10_next_31 : decode cX10_next 31 = .ok (.aload_n 0, 1) := by decide +kernel
theorem dX10_next_32 : decode cX10_next 32 = .ok (.aload_n 0, 1) := by decide +kernel
theorem dX10_next_33 : decode cX10_next 33 = .ok (.getfield 146, 3) := by decide +kernel
theorem dX10_next_36 : decode cX10_next 36 = .ok (.putfield 155, 3) := by decide +kernel
theorem dX10_next_39 : decode cX10_next 39 = .ok (.aload_n 0, 1) := by decide +kernel
theorem dX10_next_40 : decode cX10_next 40 = .ok (.invokevirtual 152, 3) := by decide +kernel
theorem dX10_next_43 : decode cX10_next 43 = .ok (.istore_n 1, 1) := by decide +kernel
theorem dX10_next_44 : decode cX10_next 44 = .ok (.iload_n 1, 1) := by decide +kernel
theorem dX10_next_45 : decode cX10_next 45 = .ok (.iconst (-1), 1) := by decide +kernel
theorem dX10_next_46 : decode cX10_next 46 = .ok (.if_icmp .ne 11, 3) := by decide +kernel
theorem dX10_next_49 : decode cX10_next 49 = .ok (.aload_n 0, 1) := by decide +kernel
theorem dX10_next_50 : decode cX10_next 50 = .ok (.iconst 4, 1) := by decide +kernel
theorem dX10_next_51 : decode cX10_next 51 = .ok (.putfield 158, 3) := by decide +kernel
theorem dX10_next_54 : decode cX10_next 54 = .ok (.goto 159, 3) := by decide +kernel
theorem dX10_next_57 : decode cX10_next 57 = .ok (.iload_n 1, 1) := by decide +kernel
theorem dX10_next_58 : decode cX10_next 58 = .ok (.invokestatic 161, 3) := by decide +kernel
theorem dX10_next_61 : decode cX10_next 61 = .ok (.ifCond .eq 42, 3) := by decide +kernel
theorem dX10_next_64 : decode cX10_next 64 = .ok (.aload_n 0, 1) := by decide +kernel
theorem dX10_next_65 : decode cX10_next 65 = .ok (.invokevirtual 152, 3) := by decide +kernel
theorem dX10_next_68 : decode cX10_next 68 = .ok (.invokestatic 161, 3) := by decide +kernel
theorem dX10_next_71 : decode cX10_next 71 = .ok (.ifCond .eq 16, 3) := by decide +kernel
theorem dX10_next_74 : decode cX10_next 74 = .ok (.aload_n 0, 1) := by decide +kernel
theorem dX10_next_75 : decode cX10_next 75 = .ok (.dup, 1) := by decide +kernel
theorem dX10_next_76 : decode cX10_next 76 = .ok (.getfield 146, 3) := by decide +kernel
theorem dX10_next_79 : decode cX10_next 79 = .ok (.iconst 1, 1) := by decide +kernel
theorem dX10_next_80 : decode cX10_next 80 = .ok (.iadd, 1) := by decide +kernel
theorem dX10_next_81 : decode cX10_next 81 = .ok (.putfield 146, 3) := by decide +kernel
theorem dX10_next_84 : decode cX10_next 84 = .ok (.goto (-20), 3) := by decide +kernel
theorem dX10_next_87 : decode cX10_next 87 = .ok (.aload_n 0, 1) := by decide +kernel
theorem dX10_next_88 : decode cX10_next 88 = .ok (.iconst 0, 1) := by decide +kernel
theorem dX10_next_89 : decode cX10_next 89 = .ok (.putfield 158, 3) := by decide +kernel
theorem dX10_next_92 : decode cX10_next 92 = .ok (.aload_n 0, 1) := by decide +kernel
theorem dX10_next_93 : decode cX10_next 93 = .ok (.aload_n 0, 1) := by decide +kernel
theorem dX10_next_94 : decode cX10_next 94 = .ok (.invokevirtual 165, 3) := by decide +kernel
theorem dX10_next_97 : decode cX10_next 97 = .ok (.putfield 168, 3) := by decide +kernel
theorem dX10_next_100 : decode cX10_next 100 = .ok (.goto 113, 3) := by decide +kernel
theorem dX10_next_103 : decode cX10_next 103 = .ok (.iload_n 1, 1) := by decide +kernel
theorem dX10_next_104 : decode cX10_next 104 = .ok (.invokestatic 171, 3) := by decide +kernel
theorem dX10_next_107 : decode cX10_next 107 = .ok (.ifCond .eq 71, 3) := by decide +kernel
theorem dX10_next_110 : decode cX10_next 110 = .ok (.aload_n 0, 1) := by decide +kernel
theorem dX10_next_111 : decode cX10_next 111 = .ok (.iconst 1, 1) := by decide +kernel
theorem dX10_next_112 : decode cX10_next 112 = .ok (.putfield 158, 3) := by decide +kernel
theorem dX10_next_115 : decode cX10_next 115 = .ok (.aload_n 0, 1) := by decide +kernel
theorem dX10_next_116 : decode cX10_next 116 = .ok (.iconst 0, 1) := by decide +kernel
theorem dX10_next_117 : decode cX10_next 117 = .ok (.putfield 168, 3) := by decide +kernel
theorem dX10_next_120 : decode cX10_next 120 = .ok (.aload_n 0, 1) := by decide +kernel
theorem dX10_next_121 : decode cX10_next 121 = .ok (.invokevirtual 152, 3) := by decide +kernel
theorem dX10_next_124 : decode cX10_next 124 = .ok (.invokestatic 171, 3) := by decide +kernel
theorem dX10_next_127 : decode cX10_next 127 = .ok (.ifCond .eq 86, 3) := by decide +kernel
theorem dX10_next_130 : decode cX10_next 130 = .ok (.aload_n 0, 1) := by decide +kernel
theorem dX10_next_131 : decode cX10_next 131 = .ok (.aload_n 0, 1) := by decide +kernel
theorem dX10_next_132 : decode cX10_next 132 = .ok (.getfield 168, 3) := by decide +kernel
theorem dX10_next_135 : decode cX10_next 135 = .ok (.ldc 174, 2) := by decide +kernel
theorem dX10_next_137 : decode cX10_next 137 = .ok (.if_icmp .le 10, 3) := by decide +kernel
theorem dX10_next_140 : decode cX10_next 140 = .ok (.aload_n 0, 1) := by decide +kernel
theorem dX10_next_141 : decode cX10_next 141 = .ok (.getfield 168, 3) := by decide +kernel
theorem dX10_next_144 : decode cX10_next 144 = .ok (.goto 18, 3) := by decide +kernel
theorem dX10_next_147 : decode cX10_next 147 = .ok (.bipush 10, 2) := by decide +kernel
theorem dX10_next_149 : decode cX10_next 149 = .ok (.aload_n 0, 1) := by decide +kernel
theorem dX10_next_150 : decode cX10_next 150 = .ok (.getfield 168, 3) := by decide +kernel
theorem dX10_next_153 : decode cX10_next 153 = .ok (.imul, 1) := by decide +kernel
theorem dX10_next_154 : decode cX10_next 154 = .ok (.aload_n 0, 1) := by decide +kernel
theorem dX10_next_155 : decode cX10_next 155 = .ok (.invokevirtual 152, 3) := by decide +kernel
theorem dX10_next_158 : decode cX10_next 158 = .ok (.iadd, 1) := by decide +kernel
theorem dX10_next_159 : decode cX10_next 159 = .ok (.bipush 48, 2) := by decide +kernel
theorem dX10_next_161 : decode cX10_next 161 = .ok (.isub, 1) := by decide +kernel
theorem dX10_next_162 : decode cX10_next 162 = .ok (.putfield 168, 3) := by decide +kernel
theorem dX10_next_165 : decode cX10_next 165 = .ok (.aload_n 0, 1) := by decide +kernel
theorem dX10_next_166 : decode cX10_next 166 = .ok (.dup, 1) := by decide +kernel
theorem dX10_next_167 : decode cX10_next 167 = .ok (.getfield 146, 3) := by decide +kernel
theorem dX10_next_170 : decode cX10_next 170 = .ok (.iconst 1, 1) := by decide +kernel
theorem dX10_next_171 : decode cX10_next 171 = .ok (.iadd, 1) := by decide +kernel
theorem dX10_next_172 : decode cX10_next 172 = .ok (.putfield 146, 3) := by decide +kernel
theorem dX10_next_175 : decode cX10_next 175 = .ok (.goto (-55), 3) := by decide +kernel
theorem dX10_next_178 : decode cX10_next 178 = .ok (.aload_n 0, 1) := by decide +kernel
theorem dX10_next_179 : decode cX10_next 179 = .ok (.iload_n 1, 1) := by decide +kernel
theorem dX10_next_180 : decode cX10_next 180 = .ok (.bipush 59, 2) := by decide +kernel
theorem dX10_next_182 : decode cX10_next 182 = .ok (.if_icmp .ne 7, 3) := by decide +kernel
theorem dX10_next_185 : decode cX10_next 185 = .ok (.iconst 2, 1) := by decide +kernel
theorem dX10_next_186 : decode cX10_next 186 = .ok (.goto 14, 3) := by decide +kernel
theorem dX10_next_189 : decode cX10_next 189 = .ok (.iload_n 1, 1) := by decide +kernel
theorem dX10_next_190 : decode cX10_next 190 = .ok (.bipush 45, 2) := by decide +kernel
theorem dX10_next_192 : decode cX10_next 192 = .ok (.if_icmp .ne 7, 3) := by decide +kernel
theorem dX10_next_195 : decode cX10_next 195 = .ok (.iconst 3, 1) := by decide +kernel
theorem dX10_next_196 : decode cX10_next 196 = .ok (.goto 4, 3) := by decide +kernel
theorem dX10_next_199 : decode cX10_next 199 = .ok (.iconst 5, 1) := by decide +kernel
theorem dX10_next_200 : decode cX10_next 200 = .ok (.putfield 158, 3) := by decide +kernel
theorem dX10_next_203 : decode cX10_next 203 = .ok (.aload_n 0, 1) := by decide +kernel
theorem dX10_next_204 : decode cX10_next 204 = .ok (.dup, 1) := by decide +kernel
theorem dX10_next_205 : decode cX10_next 205 = .ok (.getfield 146, 3) := by decide +kernel
theorem dX10_next_208 : decode cX10_next 208 = .ok (.iconst 1, 1) := by decide +kernel
theorem dX10_next_209 : decode cX10_next 209 = .ok (.iadd, 1) := by decide +kernel
theorem dX10_next_210 : decode cX10_next 210 = .ok (.putfield 146, 3) := by decide +kernel
theorem dX10_next_213 : decode cX10_next 213 = .ok (.return_, 1) := by decide +kernel
theorem dX10_wordHere_0 : decode cX10_wordHere 0 = .ok (.iconst 0, 1) := by decide +kernel
theorem dX10_wordHere_1 : decode cX10_wordHere 1 = .ok (.istore_n 1, 1) := by decide +kernel
theorem dX10_wordHere_2 : decode cX10_wordHere 2 = .ok (.iconst 0, 1) := by decide +kernel
theorem dX10_wordHere_3 : decode cX10_wordHere 3 = .ok (.istore_n 2, 1) := by decide +kernel
theorem dX10_wordHere_4 : decode cX10_wordHere 4 = .ok (.iload_n 2, 1) := by decide +kernel
theorem dX10_wordHere_5 : decode cX10_wordHere 5 = .ok (.ldc 175, 2) := by decide +kernel
theorem dX10_wordHere_7 : decode cX10_wordHere 7 = .ok (.invokevirtual 177, 3) := by decide +kernel
theorem dX10_wordHere_10 : decode cX10_wordHere 10 = .ok (.if_icmp .ge 113, 3) := by decide +kernel
theorem dX10_wordHere_13 : decode cX10_wordHere 13 = .ok (.iconst 0, 1) := by decide +kernel
theorem dX10_wordHere_14 : decode cX10_wordHere 14 = .ok (.istore_n 3, 1) := by decide +kernel
theorem dX10_wordHere_15 : decode cX10_wordHere 15 = .ok (.ldc 175, 2) := by decide +kernel
theorem dX10_wordHere_17 : decode cX10_wordHere 17 = .ok (.iload_n 2, 1) := by decide +kernel
theorem dX10_wordHere_18 : decode cX10_wordHere 18 = .ok (.iload_n 3, 1) := by decide +kernel
theorem dX10_wordHere_19 : decode cX10_wordHere 19 = .ok (.iadd, 1) := by decide +kernel
theorem dX10_wordHere_20 : decode cX10_wordHere 20 = .ok (.invokevirtual 182, 3) := by decide +kernel
theorem dX10_wordHere_23 : decode cX10_wordHere 23 = .ok (.bipush 32, 2) := by decide +kernel
theorem dX10_wordHere_25 : decode cX10_wordHere 25 = .ok (.if_icmp .eq 44, 3) := by decide +kernel
theorem dX10_wordHere_28 : decode cX10_wordHere 28 = .ok (.aload_n 0, 1) := by decide +kernel
theorem dX10_wordHere_29 : decode cX10_wordHere 29 = .ok (.getfield 155, 3) := by decide +kernel
theorem dX10_wordHere_32 : decode cX10_wordHere 32 = .ok (.iload_n 3, 1) := by decide +kernel
theorem dX10_wordHere_33 : decode cX10_wordHere 33 = .ok (.iadd, 1) := by decide +kernel
theorem dX10_wordHere_34 : decode cX10_wordHere 34 = .ok (.aload_n 0, 1) := by decide +kernel
theorem dX10_wordHere_35 : decode cX10_wordHere 35 = .ok (.getfield 146, 3) := by decide +kernel
theorem dX10_wordHere_38 : decode cX10_wordHere 38 = .ok (.if_icmp .ge 31, 3) := by decide +kernel
theorem dX10_wordHere_41 : decode cX10_wordHere 41 = .ok (.aload_n 0, 1) := by decide +kernel
theorem dX10_wordHere_42 : decode cX10_wordHere 42 = .ok (.getfield 7, 3) := by decide +kernel
theorem dX10_wordHere_45 : decode cX10_wordHere 45 = .ok (.aload_n 0, 1) := by decide +kernel
theorem dX10_wordHere_46 : decode cX10_wordHere 46 = .ok (.getfield 155, 3) := by decide +kernel
theorem dX10_wordHere_49 : decode cX10_wordHere 49 = .ok (.iload_n 3, 1) := by decide +kernel
theorem dX10_wordHere_50 : decode cX10_wordHere 50 = .ok (.iadd, 1) := by decide +kernel
theorem dX10_wordHere_51 : decode cX10_wordHere 51 = .ok (.iaload, 1) := by decide +kernel
theorem dX10_wordHere_52 : decode cX10_wordHere 52 = .ok (.ldc 175, 2) := by decide +kernel
theorem dX10_wordHere_54 : decode cX10_wordHere 54 = .ok (.iload_n 2, 1) := by decide +kernel
theorem dX10_wordHere_55 : decode cX10_wordHere 55 = .ok (.iload_n 3, 1) := by decide +kernel
theorem dX10_wordHere_56 : decode cX10_wordHere 56 = .ok (.iadd, 1) := by decide +kernel
theorem dX10_wordHere_57 : decode cX10_wordHere 57 = .ok (.invokevirtual 182, 3) := by decide +kernel
theorem dX10_wordHere_60 : decode cX10_wordHere 60 = .ok (.if_icmp .ne 9, 3) := by decide +kernel
theorem dX10_wordHere_63 : decode cX10_wordHere 63 = .ok (.iinc 3 1, 3) := by decide +kernel
theorem dX10_wordHere_66 : decode cX10_wordHere 66 = .ok (.goto (-51), 3) := by decide +kernel
theorem dX10_wordHere_69 : decode cX10_wordHere 69 = .ok (.ldc 175, 2) := by decide +kernel
theorem dX10_wordHere_71 : decode cX10_wordHere 71 = .ok (.iload_n 2, 1) := by decide +kernel
theorem dX10_wordHere_72 : decode cX10_wordHere 72 = .ok (.iload_n 3, 1) := by decide +kernel
theorem dX10_wordHere_73 : decode cX10_wordHere 73 = .ok (.iadd, 1) := by decide +kernel
theorem dX10_wordHere_74 : decode cX10_wordHere 74 = .ok (.invokevirtual 182, 3) := by decide +kernel
theorem dX10_wordHere_77 : decode cX10_wordHere 77 = .ok (.bipush 32, 2) := by decide +kernel
theorem dX10_wordHere_79 : decode cX10_wordHere 79 = .ok (.if_icmp .ne 18, 3) := by decide +kernel
theorem dX10_wordHere_82 : decode cX10_wordHere 82 = .ok (.aload_n 0, 1) := by decide +kernel
theorem dX10_wordHere_83 : decode cX10_wordHere 83 = .ok (.getfield 155, 3) := by decide +kernel
theorem dX10_wordHere_86 : decode cX10_wordHere 86 = .ok (.iload_n 3, 1) := by decide +kernel
theorem dX10_wordHere_87 : decode cX10_wordHere 87 = .ok (.iadd, 1) := by decide +kernel
theorem dX10_wordHere_88 : decode cX10_wordHere 88 = .ok (.aload_n 0, 1) := by decide +kernel
theorem dX10_wordHere_89 : decode cX10_wordHere 89 = .ok (.getfield 146, 3) := by decide +kernel
theorem dX10_wordHere_92 : decode cX10_wordHere 92 = .ok (.if_icmp .ne 5, 3) := by decide +kernel
theorem dX10_wordHere_95 : decode cX10_wordHere 95 = .ok (.iload_n 1, 1) := by decide +kernel
theorem dX10_wordHere_96 : decode cX10_wordHere 96 = .ok (.ireturn, 1) := by decide +kernel
theorem dX10_wordHere_97 : decode cX10_wordHere 97 = .ok (.ldc 175, 2) := by decide +kernel
theorem dX10_wordHere_99 : decode cX10_wordHere 99 = .ok (.iload_n 2, 1) := by decide +kernel
theorem dX10_wordHere_100 : decode cX10_wordHere 100 = .ok (.invokevirtual 182, 3) := by decide +kernel
theorem dX10_wordHere_103 : decode cX10_wordHere 103 = .ok (.bipush 32, 2) := by decide +kernel
theorem dX10_wordHere_105 : decode cX10_wordHere 105 = .ok (.if_icmp .eq 9, 3) := by decide +kernel
theorem dX10_wordHere_108 : decode cX10_wordHere 108 = .ok (.iinc 2 1, 3) := by decide +kernel
theorem dX10_wordHere_111 : decode cX10_wordHere 111 = .ok (.goto (-14), 3) := by decide +kernel
theorem dX10_wordHere_114 : decode cX10_wordHere 114 = .ok (.iinc 2 1, 3) := by decide +kernel
theorem dX10_wordHere_117 : decode cX10_wordHere 117 = .ok (.iinc 1 1, 3) := by decide +kernel
theorem dX10_wordHere_120 : decode cX10_wordHere 120 = .ok (.goto (-116), 3) := by decide +kernel
theorem dX10_wordHere_123 : decode cX10_wordHere 123 = .ok (.iconst (-1), 1) := by decide +kernel
theorem dX10_wordHere_124 : decode cX10_wordHere 124 = .ok (.ireturn, 1) := by decide +kernel
theorem dX10_failsIf_0 : decode cX10_failsIf 0 = .ok (.aload_n 0, 1) := by decide +kernel
theorem dX10_failsIf_1 : decode cX10_failsIf 1 = .ok (.getfield 186, 3) := by decide +kernel
theorem dX10_failsIf_4 : decode cX10_failsIf 4 = .ok (.ifCond .ne 7, 3) := by decide +kernel
theorem dX10_failsIf_7 : decode cX10_failsIf 7 = .ok (.iload_n 1, 1) := by decide +kernel
theorem dX10_failsIf_8 : decode cX10_failsIf 8 = .ok (.ifCond .ne 4, 3) := by decide +kernel
theorem dX10_failsIf_11 : decode cX10_failsIf 11 = .ok (.return_, 1) := by decide +kernel
theorem dX10_failsIf_12 : decode cX10_failsIf 12 = .ok (.aload_n 0, 1) := by decide +kernel
theorem dX10_failsIf_13 : decode cX10_failsIf 13 = .ok (.iload_n 2, 1) := by decide +kernel
theorem dX10_failsIf_14 : decode cX10_failsIf 14 = .ok (.putfield 186, 3) := by decide +kernel
theorem dX10_failsIf_17 : decode cX10_failsIf 17 = .ok (.aload_n 0, 1) := by decide +kernel
theorem dX10_failsIf_18 : decode cX10_failsIf 18 = .ok (.aload_n 0, 1) := by decide +kernel
theorem dX10_failsIf_19 : decode cX10_failsIf 19 = .ok (.getfield 155, 3) := by decide +kernel
theorem dX10_failsIf_22 : decode cX10_failsIf 22 = .ok (.putfield 189, 3) := by decide +kernel
theorem dX10_failsIf_25 : decode cX10_failsIf 25 = .ok (.return_, 1) := by decide +kernel
theorem dX10_goOn_0 : decode cX10_goOn 0 = .ok (.aload_n 0, 1) := by decide +kernel
theorem dX10_goOn_1 : decode cX10_goOn 1 = .ok (.getfield 186, 3) := by decide +kernel
theorem dX10_goOn_4 : decode cX10_goOn 4 = .ok (.ifCond .ne 7, 3) := by decide +kernel
theorem dX10_goOn_7 : decode cX10_goOn 7 = .ok (.aload_n 0, 1) := by decide +kernel
theorem dX10_goOn_8 : decode cX10_goOn 8 = .ok (.invokevirtual 192, 3) := by decide +kernel
theorem dX10_goOn_11 : decode cX10_goOn 11 = .ok (.return_, 1) := by decide +kernel
theorem dX10_figure_0 : decode cX10_figure 0 = .ok (.aload_n 0, 1) := by decide +kernel
theorem dX10_figure_1 : decode cX10_figure 1 = .ok (.aload_n 0, 1) := by decide +kernel
theorem dX10_figure_2 : decode cX10_figure 2 = .ok (.getfield 158, 3) := by decide +kernel
theorem dX10_figure_5 : decode cX10_figure 5 = .ok (.iconst 1, 1) := by decide +kernel
theorem dX10_figure_6 : decode cX10_figure 6 = .ok (.if_icmp .eq 7, 3) := by decide +kernel
theorem dX10_figure_9 : decode cX10_figure 9 = .ok (.iconst 1, 1) := by decide +kernel
theorem dX10_figure_10 : decode cX10_figure 10 = .ok (.goto 4, 3) := by decide +kernel
theorem dX10_figure_13 : decode cX10_figure 13 = .ok (.iconst 0, 1) := by decide +kernel
theorem dX10_figure_14 : decode cX10_figure 14 = .ok (.bipush (-11), 2) := by decide +kernel
theorem dX10_figure_16 : decode cX10_figure 16 = .ok (.invokevirtual 195, 3) := by decide +kernel
theorem dX10_figure_19 : decode cX10_figure 19 = .ok (.aload_n 0, 1) := by decide +kernel
theorem dX10_figure_20 : decode cX10_figure 20 = .ok (.aload_n 0, 1) := by decide +kernel
theorem dX10_figure_21 : decode cX10_figure 21 = .ok (.getfield 168, 3) := by decide +kernel
theorem dX10_figure_24 : decode cX10_figure 24 = .ok (.iload_n 1, 1) := by decide +kernel
theorem dX10_figure_25 : decode cX10_figure 25 = .ok (.if_icmp .lt 11, 3) := by decide +kernel
theorem dX10_figure_28 : decode cX10_figure 28 = .ok (.aload_n 0, 1) := by decide +kernel
theorem dX10_figure_29 : decode cX10_figure 29 = .ok (.getfield 168, 3) := by decide +kernel
theorem dX10_figure_32 : decode cX10_figure 32 = .ok (.iload_n 2, 1) := by decide +kernel
theorem dX10_figure_33 : decode cX10_figure 33 = .ok (.if_icmp .le 7, 3) := by decide +kernel
theorem dX10_figure_36 : decode cX10_figure 36 = .ok (.iconst 1, 1) := by decide +kernel
theorem dX10_figure_37 : decode cX10_figure 37 = .ok (.goto 4, 3) := by decide +kernel
theorem dX10_figure_40 : decode cX10_figure 40 = .ok (.iconst 0, 1) := by decide +kernel
theorem dX10_figure_41 : decode cX10_figure 41 = .ok (.bipush (-12), 2) := by decide +kernel
theorem dX10_figure_43 : decode cX10_figure 43 = .ok (.invokevirtual 195, 3) := by decide +kernel
theorem dX10_figure_46 : decode cX10_figure 46 = .ok (.aload_n 0, 1) := by decide +kernel
theorem dX10_figure_47 : decode cX10_figure 47 = .ok (.getfield 186, 3) := by decide +kernel
theorem dX10_figure_50 : decode cX10_figure 50 = .ok (.ifCond .ne 10, 3) := by decide +kernel
theorem dX10_figure_53 : decode cX10_figure 53 = .ok (.aload_n 0, 1) := by decide +kernel
theorem dX10_figure_54 : decode cX10_figure 54 = .ok (.getfield 168, 3) := by decide +kernel
theorem dX10_figure_57 : decode cX10_figure 57 = .ok (.goto 4, 3) := by decide +kernel
theorem dX10_figure_60 : decode cX10_figure 60 = .ok (.iload_n 1, 1) := by decide +kernel
theorem dX10_figure_61 : decode cX10_figure 61 = .ok (.ireturn, 1) := by decide +kernel
theorem dX10_seesName_0 : decode cX10_seesName 0 = .ok (.aload_n 0, 1) := by decide +kernel
theorem dX10_seesName_1 : decode cX10_seesName 1 = .ok (.aload_n 0, 1) := by decide +kernel
theorem dX10_seesName_2 : decode cX10_seesName 2 = .ok (.getfield 158, 3) := by decide +kernel
theorem dX10_seesName_5 : decode cX10_seesName 5 = .ok (.ifCond .ne 25, 3) := by decide +kernel
theorem dX10_seesName_8 : decode cX10_seesName 8 = .ok (.aload_n 0, 1) := by decide +kernel
theorem dX10_seesName_9 : decode cX10_seesName 9 = .ok (.getfield 168, 3) := by decide +kernel
theorem dX10_seesName_12 : decode cX10_seesName 12 = .ok (.iconst (-1), 1) := by decide +kernel
theorem dX10_seesName_13 : decode cX10_seesName 13 = .ok (.if_icmp .ne 17, 3) := by decide +kernel
theorem dX10_seesName_16 : decode cX10_seesName 16 = .ok (.aload_n 0, 1) := by decide +kernel
theorem dX10_seesName_17 : decode cX10_seesName 17 = .ok (.getfield 146, 3) := by decide +kernel
theorem dX10_seesName_20 : decode cX10_seesName 20 = .ok (.aload_n 0, 1) := by decide +kernel
theorem dX10_seesName_21 : decode cX10_seesName 21 = .ok (.getfield 155, 3) := by decide +kernel
theorem dX10_seesName_24 : decode cX10_seesName 24 = .ok (.isub, 1) := by decide +kernel
theorem dX10_seesName_25 : decode cX10_seesName 25 = .ok (.bipush 6, 2) := by decide +kernel
theorem dX10_seesName_27 : decode cX10_seesName 27 = .ok (.if_icmp .le 7, 3) := by decide +kernel
theorem dX10_seesName_30 : decode cX10_seesName 30 = .ok (.iconst 1, 1) := by decide +kernel
theorem dX10_seesName_31 : decode cX10_seesName 31 = .ok (.goto 4, 3) := by decide +kernel
theorem dX10_seesName_34 : decode cX10_seesName 34 = .ok (.iconst 0, 1) := by decide +kernel
theorem dX10_seesName_35 : decode cX10_seesName 35 = .ok (.bipush (-11), 2) := by decide +kernel
theorem dX10_seesName_37 : decode cX10_seesName 37 = .ok (.invokevirtual 195, 3) := by decide +kernel
theorem dX10_seesName_40 : decode cX10_seesName 40 = .ok (.aload_n 0, 1) := by decide +kernel
theorem dX10_seesName_41 : decode cX10_seesName 41 = .ok (.iconst 0, 1) := by decide +kernel
theorem dX10_seesName_42 : decode cX10_seesName 42 = .ok (.putfield 199, 3) := by decide +kernel
theorem dX10_seesName_45 : decode cX10_seesName 45 = .ok (.iconst 0, 1) := by decide +kernel
theorem dX10_seesName_46 : decode cX10_seesName 46 = .ok (.istore_n 1, 1) := by decide +kernel
theorem dX10_seesName_47 : decode cX10_seesName 47 = .ok (.iload_n 1, 1) := by decide +kernel
theorem dX10_seesName_48 : decode cX10_seesName 48 = .ok (.bipush 6, 2) := by decide +kernel
theorem dX10_seesName_50 : decode cX10_seesName 50 = .ok (.if_icmp .ge 60, 3) := by decide +kernel
theorem dX10_seesName_53 : decode cX10_seesName 53 = .ok (.aload_n 0, 1) := by decide +kernel
theorem dX10_seesName_54 : decode cX10_seesName 54 = .ok (.getfield 186, 3) := by decide +kernel
theorem dX10_seesName_57 : decode cX10_seesName 57 = .ok (.ifCond .ne 53, 3) := by decide +kernel
theorem dX10_seesName_60 : decode cX10_seesName 60 = .ok (.aload_n 0, 1) := by decide +kernel
theorem dX10_seesName_61 : decode cX10_seesName 61 = .ok (.aload_n 0, 1) := by decide +kernel
theorem dX10_seesName_62 : decode cX10_seesName 62 = .ok (.getfield 199, 3) := by decide +kernel
theorem dX10_seesName_65 : decode cX10_seesName 65 = .ok (.iconst 5, 1) := by decide +kernel
theorem dX10_seesName_66 : decode cX10_seesName 66 = .ok (.ishl, 1) := by decide +kernel
theorem dX10_seesName_67 : decode cX10_seesName 67 = .ok (.aload_n 0, 1) := by decide +kernel
theorem dX10_seesName_68 : decode cX10_seesName 68 = .ok (.getfield 155, 3) := by decide +kernel
theorem dX10_seesName_71 : decode cX10_seesName 71 = .ok (.iload_n 1, 1) := by decide +kernel
theorem dX10_seesName_72 : decode cX10_seesName 72 = .ok (.iadd, 1) := by decide +kernel
theorem dX10_seesName_73 : decode cX10_seesName 73 = .ok (.aload_n 0, 1) := by decide +kernel
theorem dX10_seesName_74 : decode cX10_seesName 74 = .ok (.getfield 146, 3) := by decide +kernel
theorem dX10_seesName_77 : decode cX10_seesName 77 = .ok (.if_icmp .ge 22, 3) := by decide +kernel
theorem dX10_seesName_80 : decode cX10_seesName 80 = .ok (.aload_n 0, 1) := by decide +kernel
theorem dX10_seesName_81 : decode cX10_seesName 81 = .ok (.getfield 7, 3) := by decide +kernel
theorem dX10_seesName_84 : decode cX10_seesName 84 = .ok (.aload_n 0, 1) := by decide +kernel
theorem dX10_seesName_85 : decode cX10_seesName 85 = .ok (.getfield 155, 3) := by decide +kernel
theorem dX10_seesName_88 : decode cX10_seesName 88 = .ok (.iload_n 1, 1) := by decide +kernel
theorem dX10_seesName_89 : decode cX10_seesName 89 = .ok (.iadd, 1) := by decide +kernel
theorem dX10_seesName_90 : decode cX10_seesName 90 = .ok (.iaload, 1) := by decide +kernel
theorem dX10_seesName_91 : decode cX10_seesName 91 = .ok (.bipush 97, 2) := by decide +kernel
theorem dX10_seesName_93 : decode cX10_seesName 93 = .ok (.isub, 1) := by decide +kernel
theorem dX10_seesName_94 : decode cX10_seesName 94 = .ok (.iconst 1, 1) := by decide +kernel
theorem dX10_seesName_95 : decode cX10_seesName 95 = .ok (.iadd, 1) := by decide +kernel
theorem dX10_seesName_96 : decode cX10_seesName 96 = .ok (.goto 4, 3) := by decide +kernel
theorem dX10_seesName_99 : decode cX10_seesName 99 = .ok (.iconst 0, 1) := by decide +kernel
theorem dX10_seesName_100 : decode cX10_seesName 100 = .ok (.ior, 1) := by decide +kernel
theorem dX10_seesName_101 : decode cX10_seesName 101 = .ok (.putfield 199, 3) := by decide +kernel
theorem dX10_seesName_104 : decode cX10_seesName 104 = .ok (.iinc 1 1, 3) := by decide +kernel
theorem dX10_seesName_107 : decode cX10_seesName 107 = .ok (.goto (-60), 3) := by decide +kernel
theorem dX10_seesName_110 : decode cX10_seesName 110 = .ok (.return_, 1) := by decide +kernel
theorem dX10_found_0 : decode cX10_found 0 = .ok (.iconst 0, 1) := by decide +kernel
theorem dX10_found_1 : decode cX10_found 1 = .ok (.istore 4, 2) := by decide +kernel
theorem dX10_found_3 : decode cX10_found 3 = .ok (.iload 4, 2) := by decide +kernel
theorem dX10_found_5 : decode cX10_found 5 = .ok (.iload_n 2, 1) := by decide +kernel
theorem dX10_found_6 : decode cX10_found 6 = .ok (.if_icmp .ge 25, 3) := by decide +kernel
theorem dX10_found_9 : decode cX10_found 9 = .ok (.aload_n 0, 1) := by decide +kernel
theorem dX10_found_10 : decode cX10_found 10 = .ok (.getfield 13, 3) := by decide +kernel
theorem dX10_found_13 : decode cX10_found 13 = .ok (.iload_n 1, 1) := by decide +kernel
theorem dX10_found_14 : decode cX10_found 14 = .ok (.iload 4, 2) := by decide +kernel
theorem dX10_found_16 : decode cX10_found 16 = .ok (.iadd, 1) := by decide +kernel
theorem dX10_found_17 : decode cX10_found 17 = .ok (.iaload, 1) := by decide +kernel
theorem dX10_found_18 : decode cX10_found 18 = .ok (.iload_n 3, 1) := by decide +kernel
theorem dX10_found_19 : decode cX10_found 19 = .ok (.if_icmp .ne 6, 3) := by decide +kernel
theorem dX10_found_22 : decode cX10_found 22 = .ok (.iload 4, 2) := by decide +kernel
theorem dX10_found_24 : decode cX10_found 24 = .ok (.ireturn, 1) := by decide +kernel
theorem dX10_found_25 : decode cX10_found 25 = .ok (.iinc 4 1, 3) := by decide +kernel
theorem dX10_found_28 : decode cX10_found 28 = .ok (.goto (-25), 3) := by decide +kernel
theorem dX10_found_31 : decode cX10_found 31 = .ok (.iconst (-1), 1) := by decide +kernel
theorem dX10_found_32 : decode cX10_found 32 = .ok (.ireturn, 1) := by decide +kernel
theorem dX10_newName_0 : decode cX10_newName 0 = .ok (.aload_n 0, 1) := by decide +kernel
theorem dX10_newName_1 : decode cX10_newName 1 = .ok (.invokevirtual 202, 3) := by decide +kernel
theorem dX10_newName_4 : decode cX10_newName 4 = .ok (.aload_n 0, 1) := by decide +kernel
theorem dX10_newName_5 : decode cX10_newName 5 = .ok (.iconst 0, 1) := by decide +kernel
theorem dX10_newName_6 : decode cX10_newName 6 = .ok (.aload_n 0, 1) := by decide +kernel
theorem dX10_newName_7 : decode cX10_newName 7 = .ok (.getfield 13, 3) := by decide +kernel
theorem dX10_newName_10 : decode cX10_newName 10 = .ok (.bipush 12, 2) := by decide +kernel
theorem dX10_newName_12 : decode cX10_newName 12 = .ok (.iaload, 1) := by decide +kernel
theorem dX10_newName_13 : decode cX10_newName 13 = .ok (.aload_n 0, 1) := by decide +kernel
theorem dX10_newName_14 : decode cX10_newName 14 = .ok (.getfield 199, 3) := by decide +kernel
theorem dX10_newName_17 : decode cX10_newName 17 = .ok (.invokevirtual 205, 3) := by decide +kernel
theorem dX10_newName_20 : decode cX10_newName 20 = .ok (.iconst (-1), 1) := by decide +kernel
theorem dX10_newName_21 : decode cX10_newName 21 = .ok (.if_icmp .ne 24, 3) := by decide +kernel
theorem dX10_newName_24 : decode cX10_newName 24 = .ok (.aload_n 0, 1) := by decide +kernel
theorem dX10_newName_25 : decode cX10_newName 25 = .ok (.bipush 8, 2) := by decide +kernel
theorem dX10_newName_27 : decode cX10_newName 27 = .ok (.aload_n 0, 1) := by decide +kernel
theorem dX10_newName_28 : decode cX10_newName 28 = .ok (.getfield 13, 3) := by decide +kernel
theorem dX10_newName_31 : decode cX10_newName 31 = .ok (.bipush 13, 2) := by decide +kernel
theorem dX10_newName_33 : decode cX10_newName 33 = .ok (.iaload, 1) := by decide +kernel
theorem dX10_newName_34 : decode cX10_newName 34 = .ok (.aload_n 0, 1) := by decide +kernel
theorem dX10_newName_35 : decode cX10_newName 35 = .ok (.getfield 199, 3) := by decide +kernel
theorem dX10_newName_38 : decode cX10_newName 38 = .ok (.invokevirtual 205, 3) := by decide +kernel
theorem dX10_newName_41 : decode cX10_newName 41 = .ok (.iconst (-1), 1) := by decide +kernel
theorem dX10_newName_42 : decode cX10_newName 42 = .ok (.if_icmp .eq 7, 3) := by decide +kernel
theorem dX10_newName_45 : decode cX10_newName 45 = .ok (.iconst 1, 1) := by decide +kernel
theorem dX10_newName_46 : decode cX10_newName 46 = .ok (.goto 4, 3) := by decide +kernel
theorem dX10_newName_49 : decode cX10_newName 49 = .ok (.iconst 0, 1) := by decide +kernel
theorem dX10_newName_50 : decode cX10_newName 50 = .ok (.istore_n 1, 1) := by decide +kernel
theorem dX10_newName_51 : decode cX10_newName 51 = .ok (.aload_n 0, 1) := by decide +kernel
theorem dX10_newName_52 : decode cX10_newName 52 = .ok (.aload_n 0, 1) := by decide +kernel
theorem dX10_newName_53 : decode cX10_newName 53 = .ok (.getfield 186, 3) := by decide +kernel
theorem dX10_newName_56 : decode cX10_newName 56 = .ok (.ifCond .ne 11, 3) := by decide +kernel
theorem dX10_newName_59 : decode cX10_newName 59 = .ok (.iload_n 1, 1) := by decide +kernel
theorem dX10_newName_60 : decode cX10_newName 60 = .ok (.ifCond .eq 7, 3) := by decide +kernel
theorem dX10_newName_63 : decode cX10_newName 63 = .ok (.iconst 1, 1) := by decide +kernel
theorem dX10_newName_64 : decode cX10_newName 64 = .ok (.goto 4, 3) := by decide +kernel
theorem dX10_newName_67 : decode cX10_newName 67 = .ok (.iconst 0, 1) := by decide +kernel
theorem dX10_newName_68 : decode cX10_newName 68 = .ok (.bipush (-14), 2) := by decide +kernel
theorem dX10_newName_70 : decode cX10_newName 70 = .ok (.invokevirtual 195, 3) := by decide +kernel
theorem dX10_newName_73 : decode cX10_newName 73 = .ok (.aload_n 0, 1) := by decide +kernel
theorem dX10_newName_74 : decode cX10_newName 74 = .ok (.invokevirtual 209, 3) := by decide +kernel
theorem dX10_newName_77 : decode cX10_newName 77 = .ok (.aload_n 0, 1) := by decide +kernel
theorem dX10_newName_78 : decode cX10_newName 78 = .ok (.getfield 199, 3) := by decide +kernel
theorem dX10_newName_81 : decode cX10_newName 81 = .ok (.ireturn, 1) := by decide +kernel
theorem dX10_oldName_0 : decode cX10_oldName 0 = .ok (.aload_n 0, 1) := by decide +kernel
theorem dX10_oldName_1 : decode cX10_oldName 1 = .ok (.invokevirtual 202, 3) := by decide +kernel
theorem dX10_oldName_4 : decode cX10_oldName 4 = .ok (.aload_n 0, 1) := by decide +kernel
theorem dX10_oldName_5 : decode cX10_oldName 5 = .ok (.getfield 186, 3) := by decide +kernel
theorem dX10_oldName_8 : decode cX10_oldName 8 = .ok (.ifCond .ne 16, 3) := by decide +kernel
theorem dX10_oldName_11 : decode cX10_oldName 11 = .ok (.aload_n 0, 1) := by decide +kernel
theorem dX10_oldName_12 : decode cX10_oldName 12 = .ok (.iload_n 1, 1) := by decide +kernel
theorem dX10_oldName_13 : decode cX10_oldName 13 = .ok (.iload_n 2, 1) := by decide +kernel
theorem dX10_oldName_14 : decode cX10_oldName 14 = .ok (.aload_n 0, 1) := by decide +kernel
theorem dX10_oldName_15 : decode cX10_oldName 15 = .ok (.getfield 199, 3) := by decide +kernel
theorem dX10_oldName_18 : decode cX10_oldName 18 = .ok (.invokevirtual 205, 3) := by decide +kernel
theorem dX10_oldName_21 : decode cX10_oldName 21 = .ok (.goto 4, 3) := by decide +kernel
theorem dX10_oldName_24 : decode cX10_oldName 24 = .ok (.iconst 0, 1) := by decide +kernel
theorem dX10_oldName_25 : decode cX10_oldName 25 = .ok (.istore_n 3, 1) := by decide +kernel
theorem dX10_oldName_26 : decode cX10_oldName 26 = .ok (.aload_n 0, 1) := by decide +kernel
theorem dX10_oldName_27 : decode cX10_oldName 27 = .ok (.iload_n 3, 1) := by decide +kernel
theorem dX10_oldName_28 : decode cX10_oldName 28 = .ok (.iconst (-1), 1) := by decide +kernel
theorem dX10_oldName_29 : decode cX10_oldName 29 = .ok (.if_icmp .ne 7, 3) := by decide +kernel
theorem dX10_oldName_32 : decode cX10_oldName 32 = .ok (.iconst 1, 1) := by decide +kernel
theorem dX10_oldName_33 : decode cX10_oldName 33 = .ok (.goto 4, 3) := by decide +kernel
theorem dX10_oldName_36 : decode cX10_oldName 36 = .ok (.iconst 0, 1) := by decide +kernel
theorem dX10_oldName_37 : decode cX10_oldName 37 = .ok (.bipush (-13), 2) := by decide +kernel
theorem dX10_oldName_39 : decode cX10_oldName 39 = .ok (.invokevirtual 195, 3) := by decide +kernel
theorem dX10_oldName_42 : decode cX10_oldName 42 = .ok (.aload_n 0, 1) := by decide +kernel
theorem dX10_oldName_43 : decode cX10_oldName 43 = .ok (.invokevirtual 209, 3) := by decide +kernel
theorem dX10_oldName_46 : decode cX10_oldName 46 = .ok (.aload_n 0, 1) := by decide +kernel
theorem dX10_oldName_47 : decode cX10_oldName 47 = .ok (.getfield 186, 3) := by decide +kernel
theorem dX10_oldName_50 : decode cX10_oldName 50 = .ok (.ifCond .ne 7, 3) := by decide +kernel
theorem dX10_oldName_53 : decode cX10_oldName 53 = .ok (.iload_n 3, 1) := by decide +kernel
theorem dX10_oldName_54 : decode cX10_oldName 54 = .ok (.goto 4, 3) := by decide +kernel
theorem dX10_oldName_57 : decode cX10_oldName 57 = .ok (.iconst 0, 1) := by decide +kernel
theorem dX10_oldName_58 : decode cX10_oldName 58 = .ok (.ireturn, 1) := by decide +kernel
theorem dX10_readMember_0 : decode cX10_readMember 0 = .ok (.aload_n 0, 1) := by decide +kernel
theorem dX10_readMember_1 : decode cX10_readMember 1 = .ok (.getfield 13, 3) := by decide +kernel
theorem dX10_readMember_4 : decode cX10_readMember 4 = .ok (.bipush 12, 2) := by decide +kernel
theorem dX10_readMember_6 : decode cX10_readMember 6 = .ok (.iaload, 1) := by decide +kernel
theorem dX10_readMember_7 : decode cX10_readMember 7 = .ok (.istore_n 1, 1) := by decide +kernel
theorem dX10_readMember_8 : decode cX10_readMember 8 = .ok (.aload_n 0, 1) := by decide +kernel
theorem dX10_readMember_9 : decode cX10_readMember 9 = .ok (.iload_n 1, 1) := by decide +kernel
theorem dX10_readMember_10 : decode cX10_readMember 10 = .ok (.bipush 8, 2) := by decide +kernel
theorem dX10_readMember_12 : decode cX10_readMember 12 = .ok (.if_icmp .ne 7, 3) := by decide +kernel
theorem dX10_readMember_15 : decode cX10_readMember 15 = .ok (.iconst 1, 1) := by decide +kernel
theorem dX10_readMember_16 : decode cX10_readMember 16 = .ok (.goto 4, 3) := by decide +kernel
theorem dX10_readMember_19 : decode cX10_readMember 19 = .ok (.iconst 0, 1) := by decide +kernel
theorem dX10_readMember_20 : decode cX10_readMember 20 = .ok (.bipush (-16), 2) := by decide +kernel
theorem dX10_readMember_22 : decode cX10_readMember 22 = .ok (.invokevirtual 195, 3) := by decide +kernel
theorem dX10_readMember_25 : decode cX10_readMember 25 = .ok (.aload_n 0, 1) := by decide +kernel
theorem dX10_readMember_26 : decode cX10_readMember 26 = .ok (.invokevirtual 209, 3) := by decide +kernel
theorem dX10_readMember_29 : decode cX10_readMember 29 = .ok (.aload_n 0, 1) := by decide +kernel
theorem dX10_readMember_30 : decode cX10_readMember 30 = .ok (.invokevirtual 212, 3) := by decide +kernel
theorem dX10_readMember_33 : decode cX10_readMember 33 = .ok (.istore_n 2, 1) := by decide +kernel
theorem dX10_readMember_34 : decode cX10_readMember 34 = .ok (.aload_n 0, 1) := by decide +kernel
theorem dX10_readMember_35 : decode cX10_readMember 35 = .ok (.getfield 186, 3) := by decide +kernel
theorem dX10_readMember_38 : decode cX10_readMember 38 = .ok (.ifCond .ne 22, 3) := by decide +kernel
theorem dX10_readMember_41 : decode cX10_readMember 41 = .ok (.aload_n 0, 1) := by decide +kernel
theorem dX10_readMember_42 : decode cX10_readMember 42 = .ok (.getfield 158, 3) := by decide +kernel
theorem dX10_readMember_45 : decode cX10_readMember 45 = .ok (.ifCond .ne 15, 3) := by decide +kernel
theorem dX10_readMember_48 : decode cX10_readMember 48 = .ok (.aload_n 0, 1) := by decide +kernel
theorem dX10_readMember_49 : decode cX10_readMember 49 = .ok (.getfield 168, 3) := by decide +kernel
theorem dX10_readMember_52 : decode cX10_readMember 52 = .ok (.iconst 5, 1) := by decide +kernel
theorem dX10_readMember_53 : decode cX10_readMember 53 = .ok (.if_icmp .ne 7, 3) := by decide +kernel
theorem dX10_readMember_56 : decode cX10_readMember 56 = .ok (.iconst 1, 1) := by decide +kernel
theorem dX10_readMember_57 : decode cX10_readMember 57 = .ok (.goto 4, 3) := by decide +kernel
theorem dX10_readMember_60 : decode cX10_readMember 60 = .ok (.iconst 0, 1) := by decide +kernel
theorem dX10_readMember_61 : decode cX10_readMember 61 = .ok (.istore_n 3, 1) := by decide +kernel
theorem dX10_readMember_62 : decode cX10_readMember 62 = .ok (.iload_n 3, 1) := by decide +kernel
theorem dX10_readMember_63 : decode cX10_readMember 63 = .ok (.ifCond .eq 7, 3) := by decide +kernel
theorem dX10_readMember_66 : decode cX10_readMember 66 = .ok (.aload_n 0, 1) := by decide +kernel
theorem dX10_readMember_67 : decode cX10_readMember 67 = .ok (.invokevirtual 192, 3) := by decide +kernel
theorem dX10_readMember_70 : decode cX10_readMember 70 = .ok (.aload_n 0, 1) := by decide +kernel
theorem dX10_readMember_71 : decode cX10_readMember 71 = .ok (.getfield 186, 3) := by decide +kernel
theorem dX10_readMember_74 : decode cX10_readMember 74 = .ok (.ifCond .eq 4, 3) := by decide +kernel
theorem dX10_readMember_77 : decode cX10_readMember 77 = .ok (.return_, 1) := by decide +kernel
theorem dX10_readMember_78 : decode cX10_readMember 78 = .ok (.aload_n 0, 1) := by decide +kernel
theorem dX10_readMember_79 : decode cX10_readMember 79 = .ok (.getfield 13, 3) := by decide +kernel
theorem dX10_readMember_82 : decode cX10_readMember 82 = .ok (.iconst 0, 1) := by decide +kernel
theorem dX10_readMember_83 : decode cX10_readMember 83 = .ok (.iload_n 1, 1) := by decide +kernel
theorem dX10_readMember_84 : decode cX10_readMember 84 = .ok (.iadd, 1) := by decide +kernel
theorem dX10_readMember_85 : decode cX10_readMember 85 = .ok (.iload_n 2, 1) := by decide +kernel
theorem dX10_readMember_86 : decode cX10_readMember 86 = .ok (.iastore, 1) := by decide +kernel
theorem dX10_readMember_87 : decode cX10_readMember 87 = .ok (.aload_n 0, 1) := by decide +kernel
theorem dX10_readMember_88 : decode cX10_readMember 88 = .ok (.getfield 19, 3) := by decide +kernel
theorem dX10_readMember_91 : decode cX10_readMember 91 = .ok (.bipush 13, 2) := by decide +kernel
theorem dX10_readMember_93 : decode cX10_readMember 93 = .ok (.iload_n 1, 1) := by decide +kernel
theorem dX10_readMember_94 : decode cX10_readMember 94 = .ok (.iadd, 1) := by decide +kernel
theorem dX10_readMember_95 : decode cX10_readMember 95 = .ok (.iload_n 3, 1) := by decide +kernel
theorem dX10_readMember_96 : decode cX10_readMember 96 = .ok (.ifCond .eq 7, 3) := by decide +kernel
theorem dX10_readMember_99 : decode cX10_readMember 99 = .ok (.iconst 1, 1) := by decide +kernel
theorem dX10_readMember_100 : decode cX10_readMember 100 = .ok (.goto 4, 3) := by decide +kernel
theorem dX10_readMember_103 : decode cX10_readMember 103 = .ok (.iconst 0, 1) := by decide +kernel
theorem dX10_readMember_104 : decode cX10_readMember 104 = .ok (.iastore, 1) := by decide +kernel
theorem dX10_readMember_105 : decode cX10_readMember 105 = .ok (.aload_n 0, 1) := by decide +kernel
theorem dX10_readMember_106 : decode cX10_readMember 106 = .ok (.getfield 13, 3) := by decide +kernel
theorem dX10_readMember_109 : decode cX10_readMember 109 = .ok (.bipush 12, 2) := by decide +kernel
theorem dX10_readMember_111 : decode cX10_readMember 111 = .ok (.dup2, 1) := by decide +kernel
theorem dX10_readMember_112 : decode cX10_readMember 112 = .ok (.iaload, 1) := by decide +kernel
theorem dX10_readMember_113 : decode cX10_readMember 113 = .ok (.iconst 1, 1) := by decide +kernel
theorem dX10_readMember_114 : decode cX10_readMember 114 = .ok (.iadd, 1) := by decide +kernel
theorem dX10_readMember_115 : decode cX10_readMember 115 = .ok (.iastore, 1) := by decide +kernel
theorem dX10_readMember_116 : decode cX10_readMember 116 = .ok (.return_, 1) := by decide +kernel
theorem dX10_readSection_0 : decode cX10_readSection 0 = .ok (.aload_n 0, 1) := by decide +kernel
theorem dX10_readSection_1 : decode cX10_readSection 1 = .ok (.getfield 13, 3) := by decide +kernel
theorem dX10_readSection_4 : decode cX10_readSection 4 = .ok (.bipush 13, 2) := by decide +kernel
theorem dX10_readSection_6 : decode cX10_readSection 6 = .ok (.iaload, 1) := by decide +kernel
theorem dX10_readSection_7 : decode cX10_readSection 7 = .ok (.istore_n 1, 1) := by decide +kernel
theorem dX10_readSection_8 : decode cX10_readSection 8 = .ok (.aload_n 0, 1) := by decide +kernel
theorem dX10_readSection_9 : decode cX10_readSection 9 = .ok (.aload_n 0, 1) := by decide +kernel
theorem dX10_readSection_10 : decode cX10_readSection 10 = .ok (.getfield 19, 3) := by decide +kernel
theorem dX10_readSection_13 : decode cX10_readSection 13 = .ok (.sipush 494, 3) := by decide +kernel
theorem dX10_readSection_16 : decode cX10_readSection 16 = .ok (.iaload, 1) := by decide +kernel
theorem dX10_readSection_17 : decode cX10_readSection 17 = .ok (.ifCond .le 7, 3) := by decide +kernel
theorem dX10_readSection_20 : decode cX10_readSection 20 = .ok (.iconst 1, 1) := by decide +kernel
theorem dX10_readSection_21 : decode cX10_readSection 21 = .ok (.goto 4, 3) := by decide +kernel
theorem dX10_readSection_24 : decode cX10_readSection 24 = .ok (.iconst 0, 1) := by decide +kernel
theorem dX10_readSection_25 : decode cX10_readSection 25 = .ok (.bipush (-15), 2) := by decide +kernel
theorem dX10_readSection_27 : decode cX10_readSection 27 = .ok (.invokevirtual 195, 3) := by decide +kernel
theorem dX10_readSection_30 : decode cX10_readSection 30 = .ok (.aload_n 0, 1) := by decide +kernel
theorem dX10_readSection_31 : decode cX10_readSection 31 = .ok (.iload_n 1, 1) := by decide +kernel
theorem dX10_readSection_32 : decode cX10_readSection 32 = .ok (.iconst 4, 1) := by decide +kernel
theorem dX10_readSection_33 : decode cX10_readSection 33 = .ok (.if_icmp .ne 7, 3) := by decide +kernel
theorem dX10_readSection_36 : decode cX10_readSection 36 = .ok (.iconst 1, 1) := by decide +kernel
theorem dX10_readSection_37 : decode cX10_readSection 37 = .ok (.goto 4, 3) := by decide +kernel
theorem dX10_readSection_40 : decode cX10_readSection 40 = .ok (.iconst 0, 1) := by decide +kernel
theorem dX10_readSection_41 : decode cX10_readSection 41 = .ok (.bipush (-16), 2) := by decide +kernel
theorem dX10_readSection_43 : decode cX10_readSection 43 = .ok (.invokevirtual 195, 3) := by decide +kernel
theorem dX10_readSection_46 : decode cX10_readSection 46 = .ok (.aload_n 0, 1) := by decide +kernel
theorem dX10_readSection_47 : decode cX10_readSection 47 = .ok (.invokevirtual 209, 3) := by decide +kernel
theorem dX10_readSection_50 : decode cX10_readSection 50 = .ok (.aload_n 0, 1) := by decide +kernel
theorem dX10_readSection_51 : decode cX10_readSection 51 = .ok (.invokevirtual 212, 3) := by decide +kernel
theorem dX10_readSection_54 : decode cX10_readSection 54 = .ok (.istore_n 2, 1) := by decide +kernel
theorem dX10_readSection_55 : decode cX10_readSection 55 = .ok (.aload_n 0, 1) := by decide +kernel
theorem dX10_readSection_56 : decode cX10_readSection 56 = .ok (.getfield 186, 3) := by decide +kernel
theorem dX10_readSection_59 : decode cX10_readSection 59 = .ok (.ifCond .eq 4, 3) := by decide +kernel
theorem dX10_readSection_62 : decode cX10_readSection 62 = .ok (.return_, 1) := by decide +kernel
theorem dX10_readSection_63 : decode cX10_readSection 63 = .ok (.aload_n 0, 1) := by decide +kernel
theorem dX10_readSection_64 : decode cX10_readSection 64 = .ok (.getfield 13, 3) := by decide +kernel
theorem dX10_readSection_67 : decode cX10_readSection 67 = .ok (.bipush 8, 2) := by decide +kernel
theorem dX10_readSection_69 : decode cX10_readSection 69 = .ok (.iload_n 1, 1) := by decide +kernel
theorem dX10_readSection_70 : decode cX10_readSection 70 = .ok (.iadd, 1) := by decide +kernel
theorem dX10_readSection_71 : decode cX10_readSection 71 = .ok (.iload_n 2, 1) := by decide +kernel
theorem dX10_readSection_72 : decode cX10_readSection 72 = .ok (.iastore, 1) := by decide +kernel
theorem dX10_readSection_73 : decode cX10_readSection 73 = .ok (.aload_n 0, 1) := by decide +kernel
theorem dX10_readSection_74 : decode cX10_readSection 74 = .ok (.getfield 13, 3) := by decide +kernel
theorem dX10_readSection_77 : decode cX10_readSection 77 = .ok (.bipush 13, 2) := by decide +kernel
theorem dX10_readSection_79 : decode cX10_readSection 79 = .ok (.dup2, 1) := by decide +kernel
theorem dX10_readSection_80 : decode cX10_readSection 80 = .ok (.iaload, 1) := by decide +kernel
theorem dX10_readSection_81 : decode cX10_readSection 81 = .ok (.iconst 1, 1) := by decide +kernel
theorem dX10_readSection_82 : decode cX10_readSection 82 = .ok (.iadd, 1) := by decide +kernel
theorem dX10_readSection_83 : decode cX10_readSection 83 = .ok (.iastore, 1) := by decide +kernel
theorem dX10_readSection_84 : decode cX10_readSection 84 = .ok (.return_, 1) := by decide +kernel
theorem dX10_readTrade_0 : decode cX10_readTrade 0 = .ok (.aload_n 0, 1) := by decide +kernel
theorem dX10_readTrade_1 : decode cX10_readTrade 1 = .ok (.invokevirtual 209, 3) := by decide +kernel
theorem dX10_readTrade_4 : decode cX10_readTrade 4 = .ok (.aload_n 0, 1) := by decide +kernel
theorem dX10_readTrade_5 : decode cX10_readTrade 5 = .ok (.iconst 0, 1) := by decide +kernel
theorem dX10_readTrade_6 : decode cX10_readTrade 6 = .ok (.aload_n 0, 1) := by decide +kernel
theorem dX10_readTrade_7 : decode cX10_readTrade 7 = .ok (.getfield 13, 3) := by decide +kernel
theorem dX10_readTrade_10 : decode cX10_readTrade 10 = .ok (.bipush 12, 2) := by decide +kernel
theorem dX10_readTrade_12 : decode cX10_readTrade 12 = .ok (.iaload, 1) := by decide +kernel
theorem dX10_readTrade_13 : decode cX10_readTrade 13 = .ok (.invokevirtual 215, 3) := by decide +kernel
theorem dX10_readTrade_16 : decode cX10_readTrade 16 = .ok (.istore_n 1, 1) := by decide +kernel
theorem dX10_readTrade_17 : decode cX10_readTrade 17 = .ok (.aload_n 0, 1) := by decide +kernel
theorem dX10_readTrade_18 : decode cX10_readTrade 18 = .ok (.bipush 8, 2) := by decide +kernel
theorem dX10_readTrade_20 : decode cX10_readTrade 20 = .ok (.aload_n 0, 1) := by decide +kernel
theorem dX10_readTrade_21 : decode cX10_readTrade 21 = .ok (.getfield 13, 3) := by decide +kernel
theorem dX10_readTrade_24 : decode cX10_readTrade 24 = .ok (.bipush 13, 2) := by decide +kernel
theorem dX10_readTrade_26 : decode cX10_readTrade 26 = .ok (.iaload, 1) := by decide +kernel
theorem dX10_readTrade_27 : decode cX10_readTrade 27 = .ok (.invokevirtual 215, 3) := by decide +kernel
theorem dX10_readTrade_30 : decode cX10_readTrade 30 = .ok (.istore_n 2, 1) := by decide +kernel
theorem dX10_readTrade_31 : decode cX10_readTrade 31 = .ok (.aload_n 0, 1) := by decide +kernel
theorem dX10_readTrade_32 : decode cX10_readTrade 32 = .ok (.iconst 1, 1) := by decide +kernel
theorem dX10_readTrade_33 : decode cX10_readTrade 33 = .ok (.ldc 218, 2) := by decide +kernel
theorem dX10_readTrade_35 : decode cX10_readTrade 35 = .ok (.invokevirtual 219, 3) := by decide +kernel
theorem dX10_readTrade_38 : decode cX10_readTrade 38 = .ok (.istore_n 3, 1) := by decide +kernel
theorem dX10_readTrade_39 : decode cX10_readTrade 39 = .ok (.aload_n 0, 1) := by decide +kernel
theorem dX10_readTrade_40 : decode cX10_readTrade 40 = .ok (.aload_n 0, 1) := by decide +kernel
theorem dX10_readTrade_41 : decode cX10_readTrade 41 = .ok (.getfield 186, 3) := by decide +kernel
theorem dX10_readTrade_44 : decode cX10_readTrade 44 = .ok (.ifCond .ne 27, 3) := by decide +kernel
theorem dX10_readTrade_47 : decode cX10_readTrade 47 = .ok (.aload_n 0, 1) := by decide +kernel
theorem dX10_readTrade_48 : decode cX10_readTrade 48 = .ok (.getfield 19, 3) := by decide +kernel
theorem dX10_readTrade_51 : decode cX10_readTrade 51 = .ok (.bipush 29, 2) := by decide +kernel
theorem dX10_readTrade_53 : decode cX10_readTrade 53 = .ok (.iconst 4, 1) := by decide +kernel
theorem dX10_readTrade_54 : decode cX10_readTrade 54 = .ok (.iload_n 1, 1) := by decide +kernel
theorem dX10_readTrade_55 : decode cX10_readTrade 55 = .ok (.imul, 1) := by decide +kernel
theorem dX10_readTrade_56 : decode cX10_readTrade 56 = .ok (.iadd, 1) := by decide +kernel
theorem dX10_readTrade_57 : decode cX10_readTrade 57 = .ok (.iload_n 2, 1) := by decide +kernel
theorem dX10_readTrade_58 : decode cX10_readTrade 58 = .ok (.iadd, 1) := by decide +kernel
theorem dX10_readTrade_59 : decode cX10_readTrade 59 = .ok (.iaload, 1) := by decide +kernel
theorem dX10_readTrade_60 : decode cX10_readTrade 60 = .ok (.iload_n 3, 1) := by decide +kernel
theorem dX10_readTrade_61 : decode cX10_readTrade 61 = .ok (.iadd, 1) := by decide +kernel
theorem dX10_readTrade_62 : decode cX10_readTrade 62 = .ok (.ldc 74, 2) := by decide +kernel
theorem dX10_readTrade_64 : decode cX10_readTrade 64 = .ok (.if_icmp .le 7, 3) := by decide +kernel
theorem dX10_readTrade_67 : decode cX10_readTrade 67 = .ok (.iconst 1, 1) := by decide +kernel
theorem dX10_readTrade_68 : decode cX10_readTrade 68 = .ok (.goto 4, 3) := by decide +kernel
theorem dX10_readTrade_71 : decode cX10_readTrade 71 = .ok (.iconst 0, 1) := by decide +kernel
theorem dX10_readTrade_72 : decode cX10_readTrade 72 = .ok (.bipush (-16), 2) := by decide +kernel
theorem dX10_readTrade_74 : decode cX10_readTrade 74 = .ok (.invokevirtual 195, 3) := by decide +kernel
theorem dX10_readTrade_77 : decode cX10_readTrade 77 = .ok (.aload_n 0, 1) := by decide +kernel
theorem dX10_readTrade_78 : decode cX10_readTrade 78 = .ok (.getfield 186, 3) := by decide +kernel
theorem dX10_readTrade_81 : decode cX10_readTrade 81 = .ok (.ifCond .ne 20, 3) := by decide +kernel
theorem dX10_readTrade_84 : decode cX10_readTrade 84 = .ok (.aload_n 0, 1) := by decide +kernel
theorem dX10_readTrade_85 : decode cX10_readTrade 85 = .ok (.getfield 19, 3) := by decide +kernel
theorem dX10_readTrade_88 : decode cX10_readTrade 88 = .ok (.bipush 29, 2) := by decide +kernel
theorem dX10_readTrade_90 : decode cX10_readTrade 90 = .ok (.iconst 4, 1) := by decide +kernel
theorem dX10_readTrade_91 : decode cX10_readTrade 91 = .ok (.iload_n 1, 1) := by decide +kernel
theorem dX10_readTrade_92 : decode cX10_readTrade 92 = .ok (.imul, 1) := by decide +kernel
theorem dX10_readTrade_93 : decode cX10_readTrade 93 = .ok (.iadd, 1) := by decide +kernel
theorem dX10_readTrade_94 : decode cX10_readTrade 94 = .ok (.iload_n 2, 1) := by decide +kernel
theorem dX10_readTrade_95 : decode cX10_readTrade 95 = .ok (.iadd, 1) := by decide +kernel
theorem dX10_readTrade_96 : decode cX10_readTrade 96 = .ok (.dup2, 1) := by decide +kernel
theorem dX10_readTrade_97 : decode cX10_readTrade 97 = .ok (.iaload, 1) := by decide +kernel
theorem dX10_readTrade_98 : decode cX10_readTrade 98 = .ok (.iload_n 3, 1) := by decide +kernel
theorem dX10_readTrade_99 : decode cX10_readTrade 99 = .ok (.iadd, 1) := by decide +kernel
theorem dX10_readTrade_100 : decode cX10_readTrade 100 = .ok (.iastore, 1) := by decide +kernel
theorem dX10_readTrade_101 : decode cX10_readTrade 101 = .ok (.aload_n 0, 1) := by decide +kernel
theorem dX10_readTrade_102 : decode cX10_readTrade 102 = .ok (.invokevirtual 209, 3) := by decide +kernel
theorem dX10_readTrade_105 : decode cX10_readTrade 105 = .ok (.return_, 1) := by decide +kernel
theorem dX10_readClose_0 : decode cX10_readClose 0 = .ok (.aload_n 0, 1) := by decide +kernel
theorem dX10_readClose_1 : decode cX10_readClose 1 = .ok (.aload_n 0, 1) := by decide +kernel
theorem dX10_readClose_2 : decode cX10_readClose 2 = .ok (.getfield 19, 3) := by decide +kernel
theorem dX10_readClose_5 : decode cX10_readClose 5 = .ok (.sipush 494, 3) := by decide +kernel
theorem dX10_readClose_8 : decode cX10_readClose 8 = .ok (.iaload, 1) := by decide +kernel
theorem dX10_readClose_9 : decode cX10_readClose 9 = .ok (.bipush 24, 2) := by decide +kernel
theorem dX10_readClose_11 : decode cX10_readClose 11 = .ok (.if_icmp .ne 7, 3) := by decide +kernel
theorem dX10_readClose_14 : decode cX10_readClose 14 = .ok (.iconst 1, 1) := by decide +kernel
theorem dX10_readClose_15 : decode cX10_readClose 15 = .ok (.goto 4, 3) := by decide +kernel
theorem dX10_readClose_18 : decode cX10_readClose 18 = .ok (.iconst 0, 1) := by decide +kernel
theorem dX10_readClose_19 : decode cX10_readClose 19 = .ok (.bipush (-16), 2) := by decide +kernel
theorem dX10_readClose_21 : decode cX10_readClose 21 = .ok (.invokevirtual 195, 3) := by decide +kernel
theorem dX10_readClose_24 : decode cX10_readClose 24 = .ok (.aload_n 0, 1) := by decide +kernel
theorem dX10_readClose_25 : decode cX10_readClose 25 = .ok (.invokevirtual 209, 3) := by decide +kernel
theorem dX10_readClose_28 : decode cX10_readClose 28 = .ok (.aload_n 0, 1) := by decide +kernel
theorem dX10_readClose_29 : decode cX10_readClose 29 = .ok (.iconst 0, 1) := by decide +kernel
theorem dX10_readClose_30 : decode cX10_readClose 30 = .ok (.iconst 0, 1) := by decide +kernel
theorem dX10_readClose_31 : decode cX10_readClose 31 = .ok (.iconst 0, 1) := by decide +kernel
theorem dX10_readClose_32 : decode cX10_readClose 32 = .ok (.iconst 0, 1) := by decide +kernel
theorem dX10_readClose_33 : decode cX10_readClose 33 = .ok (.invokevirtual 222, 3) := by decide +kernel
theorem dX10_readClose_36 : decode cX10_readClose 36 = .ok (.iconst 0, 1) := by decide +kernel
theorem dX10_readClose_37 : decode cX10_readClose 37 = .ok (.istore_n 1, 1) := by decide +kernel
theorem dX10_readClose_38 : decode cX10_readClose 38 = .ok (.iload_n 1, 1) := by decide +kernel
theorem dX10_readClose_39 : decode cX10_readClose 39 = .ok (.aload_n 0, 1) := by decide +kernel
theorem dX10_readClose_40 : decode cX10_readClose 40 = .ok (.getfield 13, 3) := by decide +kernel
theorem dX10_readClose_43 : decode cX10_readClose 43 = .ok (.bipush 13, 2) := by decide +kernel
theorem dX10_readClose_45 : decode cX10_readClose 45 = .ok (.iaload, 1) := by decide +kernel
theorem dX10_readClose_46 : decode cX10_readClose 46 = .ok (.if_icmp .ge 66, 3) := by decide +kernel
theorem dX10_readClose_49 : decode cX10_readClose 49 = .ok (.aload_n 0, 1) := by decide +kernel
theorem dX10_readClose_50 : decode cX10_readClose 50 = .ok (.getfield 186, 3) := by decide +kernel
theorem dX10_readClose_53 : decode cX10_readClose 53 = .ok (.ifCond .ne 59, 3) := by decide +kernel
theorem dX10_readClose_56 : decode cX10_readClose 56 = .ok (.aload_n 0, 1) := by decide +kernel
theorem dX10_readClose_57 : decode cX10_readClose 57 = .ok (.getfield 158, 3) := by decide +kernel
theorem dX10_readClose_60 : decode cX10_readClose 60 = .ok (.iconst 3, 1) := by decide +kernel
theorem dX10_readClose_61 : decode cX10_readClose 61 = .ok (.if_icmp .ne 7, 3) := by decide +kernel
theorem dX10_readClose_64 : decode cX10_readClose 64 = .ok (.iconst 1, 1) := by decide +kernel
theorem dX10_readClose_65 : decode cX10_readClose 65 = .ok (.goto 4, 3) := by decide +kernel
theorem dX10_readClose_68 : decode cX10_readClose 68 = .ok (.iconst 0, 1) := by decide +kernel
theorem dX10_readClose_69 : decode cX10_readClose 69 = .ok (.istore_n 2, 1) := by decide +kernel
theorem dX10_readClose_70 : decode cX10_readClose 70 = .ok (.iload_n 2, 1) := by decide +kernel
theorem dX10_readClose_71 : decode cX10_readClose 71 = .ok (.ifCond .eq 7, 3) := by decide +kernel
theorem dX10_readClose_74 : decode cX10_readClose 74 = .ok (.aload_n 0, 1) := by decide +kernel
theorem dX10_readClose_75 : decode cX10_readClose 75 = .ok (.invokevirtual 192, 3) := by decide +kernel
theorem dX10_readClose_78 : decode cX10_readClose 78 = .ok (.aload_n 0, 1) := by decide +kernel
theorem dX10_readClose_79 : decode cX10_readClose 79 = .ok (.iconst 0, 1) := by decide +kernel
theorem dX10_readClose_80 : decode cX10_readClose 80 = .ok (.ldc 74, 2) := by decide +kernel
theorem dX10_readClose_82 : decode cX10_readClose 82 = .ok (.invokevirtual 219, 3) := by decide +kernel
theorem dX10_readClose_85 : decode cX10_readClose 85 = .ok (.istore_n 3, 1) := by decide +kernel
theorem dX10_readClose_86 : decode cX10_readClose 86 = .ok (.aload_n 0, 1) := by decide +kernel
theorem dX10_readClose_87 : decode cX10_readClose 87 = .ok (.getfield 38, 3) := by decide +kernel
theorem dX10_readClose_90 : decode cX10_readClose 90 = .ok (.iload_n 1, 1) := by decide +kernel
theorem dX10_readClose_91 : decode cX10_readClose 91 = .ok (.iload_n 2, 1) := by decide +kernel
theorem dX10_readClose_92 : decode cX10_readClose 92 = .ok (.ifCond .eq 8, 3) := by decide +kernel
theorem dX10_readClose_95 : decode cX10_readClose 95 = .ok (.iload_n 3, 1) := by decide +kernel
theorem dX10_readClose_96 : decode cX10_readClose 96 = .ok (.ineg, 1) := by decide +kernel
theorem dX10_readClose_97 : decode cX10_readClose 97 = .ok (.goto 4, 3) := by decide +kernel
theorem dX10_readClose_100 : decode cX10_readClose 100 = .ok (.iload_n 3, 1) := by decide +kernel
theorem dX10_readClose_101 : decode cX10_readClose 101 = .ok (.iastore, 1) := by decide +kernel
theorem dX10_readClose_102 : decode cX10_readClose 102 = .ok (.aload_n 0, 1) := by decide +kernel
theorem dX10_readClose_103 : decode cX10_readClose 103 = .ok (.invokevirtual 209, 3) := by decide +kernel
theorem dX10_readClose_106 : decode cX10_readClose 106 = .ok (.iinc 1 1, 3) := by decide +kernel
theorem dX10_readClose_109 : decode cX10_readClose 109 = .ok (.goto (-71), 3) := by decide +kernel
theorem dX10_readClose_112 : decode cX10_readClose 112 = .ok (.aload_n 0, 1) := by decide +kernel
theorem dX10_readClose_113 : decode cX10_readClose 113 = .ok (.aload_n 0, 1) := by decide +kernel
theorem dX10_readClose_114 : decode cX10_readClose 114 = .ok (.getfield 158, 3) := by decide +kernel
theorem dX10_readClose_117 : decode cX10_readClose 117 = .ok (.iconst 2, 1) := by decide +kernel
theorem dX10_readClose_118 : decode cX10_readClose 118 = .ok (.if_icmp .eq 7, 3) := by decide +kernel
theorem dX10_readClose_121 : decode cX10_readClose 121 = .ok (.iconst 1, 1) := by decide +kernel
theorem dX10_readClose_122 : decode cX10_readClose 122 = .ok (.goto 4, 3) := by decide +kernel
theorem dX10_readClose_125 : decode cX10_readClose 125 = .ok (.iconst 0, 1) := by decide +kernel
theorem dX10_readClose_126 : decode cX10_readClose 126 = .ok (.bipush (-11), 2) := by decide +kernel
theorem dX10_readClose_128 : decode cX10_readClose 128 = .ok (.invokevirtual 195, 3) := by decide +kernel
theorem dX10_readClose_131 : decode cX10_readClose 131 = .ok (.aload_n 0, 1) := by decide +kernel
theorem dX10_readClose_132 : decode cX10_readClose 132 = .ok (.getfield 186, 3) := by decide +kernel
theorem dX10_readClose_135 : decode cX10_readClose 135 = .ok (.ifCond .ne 7, 3) := by decide +kernel
theorem dX10_readClose_138 : decode cX10_readClose 138 = .ok (.aload_n 0, 1) := by decide +kernel
theorem dX10_readClose_139 : decode cX10_readClose 139 = .ok (.invokevirtual 226, 3) := by decide +kernel
theorem dX10_readClose_142 : decode cX10_readClose 142 = .ok (.return_, 1) := by decide +kernel
theorem dX10_readSet_0 : decode cX10_readSet 0 = .ok (.aload_n 0, 1) := by decide +kernel
theorem dX10_readSet_1 : decode cX10_readSet 1 = .ok (.invokevirtual 209, 3) := by decide +kernel
theorem dX10_readSet_4 : decode cX10_readSet 4 = .ok (.aload_n 0, 1) := by decide +kernel
theorem dX10_readSet_5 : decode cX10_readSet 5 = .ok (.getfield 186, 3) := by decide +kernel
theorem dX10_readSet_8 : decode cX10_readSet 8 = .ok (.ifCond .ne 23, 3) := by decide +kernel
theorem dX10_readSet_11 : decode cX10_readSet 11 = .ok (.aload_n 0, 1) := by decide +kernel
theorem dX10_readSet_12 : decode cX10_readSet 12 = .ok (.getfield 158, 3) := by decide +kernel
theorem dX10_readSet_15 : decode cX10_readSet 15 = .ok (.ifCond .ne 16, 3) := by decide +kernel
theorem dX10_readSet_18 : decode cX10_readSet 18 = .ok (.aload_n 0, 1) := by decide +kernel
theorem dX10_readSet_19 : decode cX10_readSet 19 = .ok (.getfield 168, 3) := by decide +kernel
theorem dX10_readSet_22 : decode cX10_readSet 22 = .ok (.bipush 6, 2) := by decide +kernel
theorem dX10_readSet_24 : decode cX10_readSet 24 = .ok (.if_icmp .lt 7, 3) := by decide +kernel
theorem dX10_readSet_27 : decode cX10_readSet 27 = .ok (.iconst 1, 1) := by decide +kernel
theorem dX10_readSet_28 : decode cX10_readSet 28 = .ok (.goto 4, 3) := by decide +kernel
theorem dX10_readSet_31 : decode cX10_readSet 31 = .ok (.iconst 0, 1) := by decide +kernel
theorem dX10_readSet_32 : decode cX10_readSet 32 = .ok (.istore_n 1, 1) := by decide +kernel
theorem dX10_readSet_33 : decode cX10_readSet 33 = .ok (.aload_n 0, 1) := by decide +kernel
theorem dX10_readSet_34 : decode cX10_readSet 34 = .ok (.iload_n 1, 1) := by decide +kernel
theorem dX10_readSet_35 : decode cX10_readSet 35 = .ok (.ifCond .ne 7, 3) := by decide +kernel
theorem dX10_readSet_38 : decode cX10_readSet 38 = .ok (.iconst 1, 1) := by decide +kernel
theorem dX10_readSet_39 : decode cX10_readSet 39 = .ok (.goto 4, 3) := by decide +kernel
theorem dX10_readSet_42 : decode cX10_readSet 42 = .ok (.iconst 0, 1) := by decide +kernel
theorem dX10_readSet_43 : decode cX10_readSet 43 = .ok (.bipush (-11), 2) := by decide +kernel
theorem dX10_readSet_45 : decode cX10_readSet 45 = .ok (.invokevirtual 195, 3) := by decide +kernel
theorem dX10_readSet_48 : decode cX10_readSet 48 = .ok (.iload_n 1, 1) := by decide +kernel
theorem dX10_readSet_49 : decode cX10_readSet 49 = .ok (.ifCond .eq 13, 3) := by decide +kernel
theorem dX10_readSet_52 : decode cX10_readSet 52 = .ok (.aload_n 0, 1) := by decide +kernel
theorem dX10_readSet_53 : decode cX10_readSet 53 = .ok (.getfield 168, 3) := by decide +kernel
theorem dX10_readSet_56 : decode cX10_readSet 56 = .ok (.bipush 6, 2) := by decide +kernel
theorem dX10_readSet_58 : decode cX10_readSet 58 = .ok (.isub, 1) := by decide +kernel
theorem dX10_readSet_59 : decode cX10_readSet 59 = .ok (.goto 4, 3) := by decide +kernel
theorem dX10_readSet_62 : decode cX10_readSet 62 = .ok (.iconst 0, 1) := by decide +kernel
theorem dX10_readSet_63 : decode cX10_readSet 63 = .ok (.istore_n 2, 1) := by decide +kernel
theorem dX10_readSet_64 : decode cX10_readSet 64 = .ok (.aload_n 0, 1) := by decide +kernel
theorem dX10_readSet_65 : decode cX10_readSet 65 = .ok (.aload_n 0, 1) := by decide +kernel
theorem dX10_readSet_66 : decode cX10_readSet 66 = .ok (.getfield 229, 3) := by decide +kernel
theorem dX10_readSet_69 : decode cX10_readSet 69 = .ok (.iload_n 2, 1) := by decide +kernel
theorem dX10_readSet_70 : decode cX10_readSet 70 = .ok (.ishr, 1) := by decide +kernel
theorem dX10_readSet_71 : decode cX10_readSet 71 = .ok (.iconst 1, 1) := by decide +kernel
theorem dX10_readSet_72 : decode cX10_readSet 72 = .ok (.iand, 1) := by decide +kernel
theorem dX10_readSet_73 : decode cX10_readSet 73 = .ok (.iconst 1, 1) := by decide +kernel
theorem dX10_readSet_74 : decode cX10_readSet 74 = .ok (.if_icmp .ne 7, 3) := by decide +kernel
theorem dX10_readSet_77 : decode cX10_readSet 77 = .ok (.iconst 1, 1) := by decide +kernel
theorem dX10_readSet_78 : decode cX10_readSet 78 = .ok (.goto 4, 3) := by decide +kernel
