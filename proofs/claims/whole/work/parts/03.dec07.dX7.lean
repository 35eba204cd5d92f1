theorem dX7_init_0 : decode cX7_init 0 = .ok (.aload_n 0, 1) := by decide +kernel
theorem dX7_init_1 : decode cX7_init 1 = .ok (.invokespecial 3, 3) := by decide +kernel
theorem dX7_init_4 : decode cX7_init 4 = .ok (.aload_n 0, 1) := by decide +kernel
theorem dX7_init_5 : decode cX7_init 5 = .ok (.sipush 200, 3) := by decide +kernel
theorem dX7_init_8 : decode cX7_init 8 = .ok (.newarray .int, 2) := by decide +kernel
theorem dX7_init_10 : decode cX7_init 10 = .ok (.putfield 9, 3) := by decide +kernel
theorem dX7_init_13 : decode cX7_init 13 = .ok (.aload_n 0, 1) := by decide +kernel
theorem dX7_init_14 : decode cX7_init 14 = .ok (.sipush 200, 3) := by decide +kernel
theorem dX7_init_17 : decode cX7_init 17 = .ok (.newarray .int, 2) := by decide +kernel
theorem dX7_init_19 : decode cX7_init 19 = .ok (.putfield 15, 3) := by decide +kernel
theorem dX7_init_22 : decode cX7_init 22 = .ok (.aload_n 0, 1) := by decide +kernel
theorem dX7_init_23 : decode cX7_init 23 = .ok (.sipush 200, 3) := by decide +kernel
theorem dX7_init_26 : decode cX7_init 26 = .ok (.newarray .long, 2) := by decide +kernel
theorem dX7_init_28 : decode cX7_init 28 = .ok (.putfield 18, 3) := by decide +kernel
theorem dX7_init_31 : decode cX7_init 31 = .ok (.return_, 1) := by decide +kernel
theorem dX7_start_0 : decode cX7_start 0 = .ok (.aload_n 0, 1) := by decide +kernel
theorem dX7_start_1 : decode cX7_start 1 = .ok (.iconst 0, 1) := by decide +kernel
theorem dX7_start_2 : decode cX7_start 2 = .ok (.putfield 22, 3) := by decide +kernel
theorem dX7_start_5 : decode cX7_start 5 = .ok (.return_, 1) := by decide +kernel
theorem dX7_add_0 : decode cX7_add 0 = .ok (.aload_n 0, 1) := by decide +kernel
theorem dX7_add_1 : decode cX7_add 1 = .ok (.getfield 22, 3) := by decide +kernel
theorem dX7_add_4 : decode cX7_add 4 = .ok (.sipush 200, 3) := by decide +kernel
theorem dX7_add_7 : decode cX7_add 7 = .ok (.if_icmp .ge 33, 3) := by decide +kernel
theorem dX7_add_10 : decode cX7_add 10 = .ok (.aload_n 0, 1) := by decide +kernel
theorem dX7_add_11 : decode cX7_add 11 = .ok (.getfield 9, 3) := by decide +kernel
theorem dX7_add_14 : decode cX7_add 14 = .ok (.aload_n 0, 1) := by decide +kernel
theorem dX7_add_15 : decode cX7_add 15 = .ok (.getfield 22, 3) := by decide +kernel
theorem dX7_add_18 : decode cX7_add 18 = .ok (.iload_n 1, 1) := by decide +kernel
theorem dX7_add_19 : decode cX7_add 19 = .ok (.iastore, 1) := by decide +kernel
theorem dX7_add_20 : decode cX7_add 20 = .ok (.aload_n 0, 1) := by decide +kernel
theorem dX7_add_21 : decode cX7_add 21 = .ok (.getfield 15, 3) := by decide +kernel
theorem dX7_add_24 : decode cX7_add 24 = .ok (.aload_n 0, 1) := by decide +kernel
theorem dX7_add_25 : decode cX7_add 25 = .ok (.getfield 22, 3) := by decide +kernel
theorem dX7_add_28 : decode cX7_add 28 = .ok (.iconst 0, 1) := by decide +kernel
theorem dX7_add_29 : decode cX7_add 29 = .ok (.iastore, 1) := by decide +kernel
theorem dX7_add_30 : decode cX7_add 30 = .ok (.aload_n 0, 1) := by decide +kernel
theorem dX7_add_31 : decode cX7_add 31 = .ok (.dup, 1) := by decide +kernel
theorem dX7_add_32 : decode cX7_add 32 = .ok (.getfield 22, 3) := by decide +kernel
theorem dX7_add_35 : decode cX7_add 35 = .ok (.iconst 1, 1) := by decide +kernel
theorem dX7_add_36 : decode cX7_add 36 = .ok (.iadd, 1) := by decide +kernel
theorem dX7_add_37 : decode cX7_add 37 = .ok (.putfield 22, 3) := by decide +kernel
theorem dX7_add_40 : decode cX7_add 40 = .ok (.return_, 1) := by decide +kernel
theorem dX7_shareAt_0 : decode cX7_shareAt 0 = .ok (.iload_n 1, 1) := by decide +kernel
theorem dX7_shareAt_1 : decode cX7_shareAt 1 = .ok (.ifCond .lt 20, 3) := by decide +kernel
theorem dX7_shareAt_4 : decode cX7_shareAt 4 = .ok (.iload_n 1, 1) := by decide +kernel
theorem dX7_shareAt_5 : decode cX7_shareAt 5 = .ok (.aload_n 0, 1) := by decide +kernel
theorem dX7_shareAt_6 : decode cX7_shareAt 6 = .ok (.getfield 22, 3) := by decide +kernel
theorem dX7_shareAt_9 : decode cX7_shareAt 9 = .ok (.if_icmp .ge 12, 3) := by decide +kernel
theorem dX7_shareAt_12 : decode cX7_shareAt 12 = .ok (.aload_n 0, 1) := by decide +kernel
theorem dX7_shareAt_13 : decode cX7_shareAt 13 = .ok (.getfield 15, 3) := by decide +kernel
theorem dX7_shareAt_16 : decode cX7_shareAt 16 = .ok (.iload_n 1, 1) := by decide +kernel
theorem dX7_shareAt_17 : decode cX7_shareAt 17 = .ok (.iaload, 1) := by decide +kernel
theorem dX7_shareAt_18 : decode cX7_shareAt 18 = .ok (.goto 4, 3) := by decide +kernel
theorem dX7_shareAt_21 : decode cX7_shareAt 21 = .ok (.iconst 0, 1) := by decide +kernel
theorem dX7_shareAt_22 : decode cX7_shareAt 22 = .ok (.ireturn, 1) := by decide +kernel
theorem dX7_share_0 : decode cX7_share 0 = .ok (.lconst 0, 1) := by decide +kernel
theorem dX7_share_1 : decode cX7_share 1 = .ok (.lstore_n 2, 1) := by decide +kernel
theorem dX7_share_2 : decode cX7_share 2 = .ok (.iconst 0, 1) := by decide +kernel
theorem dX7_share_3 : decode cX7_share 3 = .ok (.istore 4, 2) := by decide +kernel
theorem dX7_share_5 : decode cX7_share 5 = .ok (.iload 4, 2) := by decide +kernel
theorem dX7_share_7 : decode cX7_share 7 = .ok (.aload_n 0, 1) := by decide +kernel
theorem dX7_share_8 : decode cX7_share 8 = .ok (.getfield 22, 3) := by decide +kernel
theorem dX7_share_11 : decode cX7_share 11 = .ok (.if_icmp .ge 20, 3) := by decide +kernel
theorem dX7_share_14 : decode cX7_share 14 = .ok (.lload_n 2, 1) := by decide +kernel
theorem dX7_share_15 : decode cX7_share 15 = .ok (.aload_n 0, 1) := by decide +kernel
theorem dX7_share_16 : decode cX7_share 16 = .ok (.getfield 9, 3) := by decide +kernel
theorem dX7_share_19 : decode cX7_share 19 = .ok (.iload 4, 2) := by decide +kernel
theorem dX7_share_21 : decode cX7_share 21 = .ok (.iaload, 1) := by decide +kernel
theorem dX7_share_22 : decode cX7_share 22 = .ok (.i2l, 1) := by decide +kernel
theorem dX7_share_23 : decode cX7_share 23 = .ok (.ladd, 1) := by decide +kernel
theorem dX7_share_24 : decode cX7_share 24 = .ok (.lstore_n 2, 1) := by decide +kernel
theorem dX7_share_25 : decode cX7_share 25 = .ok (.iinc 4 1, 3) := by decide +kernel
theorem dX7_share_28 : decode cX7_share 28 = .ok (.goto (-23), 3) := by decide +kernel
theorem dX7_share_31 : decode cX7_share 31 = .ok (.lload_n 2, 1) := by decide +kernel
theorem dX7_share_32 : decode cX7_share 32 = .ok (.lconst 0, 1) := by decide +kernel
theorem dX7_share_33 : decode cX7_share 33 = .ok (.lcmp, 1) := by decide +kernel
theorem dX7_share_34 : decode cX7_share 34 = .ok (.ifCond .gt 4, 3) := by decide +kernel
theorem dX7_share_37 : decode cX7_share 37 = .ok (.return_, 1) := by decide +kernel
theorem dX7_share_38 : decode cX7_share 38 = .ok (.iload_n 1, 1) := by decide +kernel
theorem dX7_share_39 : decode cX7_share 39 = .ok (.istore 4, 2) := by decide +kernel
theorem dX7_share_41 : decode cX7_share 41 = .ok (.iconst 0, 1) := by decide +kernel
theorem dX7_share_42 : decode cX7_share 42 = .ok (.istore 5, 2) := by decide +kernel
theorem dX7_share_44 : decode cX7_share 44 = .ok (.iload 5, 2) := by decide +kernel
theorem dX7_share_46 : decode cX7_share 46 = .ok (.aload_n 0, 1) := by decide +kernel
theorem dX7_share_47 : decode cX7_share 47 = .ok (.getfield 22, 3) := by decide +kernel
theorem dX7_share_50 : decode cX7_share 50 = .ok (.if_icmp .ge 57, 3) := by decide +kernel
theorem dX7_share_53 : decode cX7_share 53 = .ok (.iload_n 1, 1) := by decide +kernel
theorem dX7_share_54 : decode cX7_share 54 = .ok (.i2l, 1) := by decide +kernel
theorem dX7_share_55 : decode cX7_share 55 = .ok (.aload_n 0, 1) := by decide +kernel
theorem dX7_share_56 : decode cX7_share 56 = .ok (.getfield 9, 3) := by decide +kernel
theorem dX7_share_59 : decode cX7_share 59 = .ok (.iload 5, 2) := by decide +kernel
theorem dX7_share_61 : decode cX7_share 61 = .ok (.iaload, 1) := by decide +kernel
theorem dX7_share_62 : decode cX7_share 62 = .ok (.i2l, 1) := by decide +kernel
theorem dX7_share_63 : decode cX7_share 63 = .ok (.lmul, 1) := by decide +kernel
theorem dX7_share_64 : decode cX7_share 64 = .ok (.lstore 6, 2) := by decide +kernel
theorem dX7_share_66 : decode cX7_share 66 = .ok (.aload_n 0, 1) := by decide +kernel
theorem dX7_share_67 : decode cX7_share 67 = .ok (.getfield 15, 3) := by decide +kernel
theorem dX7_share_70 : decode cX7_share 70 = .ok (.iload 5, 2) := by decide +kernel
theorem dX7_share_72 : decode cX7_share 72 = .ok (.lload 6, 2) := by decide +kernel
theorem dX7_share_74 : decode cX7_share 74 = .ok (.lload_n 2, 1) := by decide +kernel
theorem dX7_share_75 : decode cX7_share 75 = .ok (.ldiv, 1) := by decide +kernel
theorem dX7_share_76 : decode cX7_share 76 = .ok (.l2i, 1) := by decide +kernel
theorem dX7_share_77 : decode cX7_share 77 = .ok (.iastore, 1) := by decide +kernel
theorem dX7_share_78 : decode cX7_share 78 = .ok (.aload_n 0, 1) := by decide +kernel
theorem dX7_share_79 : decode cX7_share 79 = .ok (.getfield 18, 3) := by decide +kernel
theorem dX7_share_82 : decode cX7_share 82 = .ok (.iload 5, 2) := by decide +kernel
theorem dX7_share_84 : decode cX7_share 84 = .ok (.lload 6, 2) := by decide +kernel
theorem dX7_share_86 : decode cX7_share 86 = .ok (.lload_n 2, 1) := by decide +kernel
theorem dX7_share_87 : decode cX7_share 87 = .ok (.lrem, 1) := by decide +kernel
theorem dX7_share_88 : decode cX7_share 88 = .ok (.lastore, 1) := by decide +kernel
theorem dX7_share_89 : decode cX7_share 89 = .ok (.iload 4, 2) := by decide +kernel
theorem dX7_share_91 : decode cX7_share 91 = .ok (.aload_n 0, 1) := by decide +kernel
theorem dX7_share_92 : decode cX7_share 92 = .ok (.getfield 15, 3) := by decide +kernel
theorem dX7_share_95 : decode cX7_share 95 = .ok (.iload 5, 2) := by decide +kernel
theorem dX7_share_97 : decode cX7_share 97 = .ok (.iaload, 1) := by decide +kernel
theorem dX7_share_98 : decode cX7_share 98 = .ok (.isub, 1) := by decide +kernel
theorem dX7_share_99 : decode cX7_share 99 = .ok (.istore 4, 2) := by decide +kernel
theorem dX7_share_101 : decode cX7_share 101 = .ok (.iinc 5 1, 3) := by decide +kernel
theorem dX7_share_104 : decode cX7_share 104 = .ok (.goto (-60), 3) := by decide +kernel
theorem dX7_share_107 : decode cX7_share 107 = .ok (.iconst 0, 1) := by decide +kernel
theorem dX7_share_108 : decode cX7_share 108 = .ok (.istore 5, 2) := by decide +kernel
theorem dX7_share_110 : decode cX7_share 110 = .ok (.iload 5, 2) := by decide +kernel
theorem dX7_share_112 : decode cX7_share 112 = .ok (.iload 4, 2) := by decide +kernel
theorem dX7_share_114 : decode cX7_share 114 = .ok (.if_icmp .ge 82, 3) := by decide +kernel
theorem dX7_share_117 : decode cX7_share 117 = .ok (.iload 5, 2) := by decide +kernel
theorem dX7_share_119 : decode cX7_share 119 = .ok (.aload_n 0, 1) := by decide +kernel
theorem dX7_share_120 : decode cX7_share 120 = .ok (.getfield 22, 3) := by decide +kernel
theorem dX7_share_123 : decode cX7_share 123 = .ok (.if_icmp .ge 73, 3) := by decide +kernel
theorem dX7_share_126 : decode cX7_share 126 = .ok (.iconst 0, 1) := by decide +kernel
theorem dX7_share_127 : decode cX7_share 127 = .ok (.istore 6, 2) := by decide +kernel
theorem dX7_share_129 : decode cX7_share 129 = .ok (.iconst 1, 1) := by decide +kernel
theorem dX7_share_130 : decode cX7_share 130 = .ok (.istore 7, 2) := by decide +kernel
theorem dX7_share_132 : decode cX7_share 132 = .ok (.iload 7, 2) := by decide +kernel
theorem dX7_share_134 : decode cX7_share 134 = .ok (.aload_n 0, 1) := by decide +kernel
theorem dX7_share_135 : decode cX7_share 135 = .ok (.getfield 22, 3) := by decide +kernel
theorem dX7_share_138 : decode cX7_share 138 = .ok (.if_icmp .ge 31, 3) := by decide +kernel
theorem dX7_share_141 : decode cX7_share 141 = .ok (.aload_n 0, 1) := by decide +kernel
theorem dX7_share_142 : decode cX7_share 142 = .ok (.getfield 18, 3) := by decide +kernel
theorem dX7_share_145 : decode cX7_share 145 = .ok (.iload 7, 2) := by decide +kernel
theorem dX7_share_147 : decode cX7_share 147 = .ok (.laload, 1) := by decide +kernel
theorem dX7_share_148 : decode cX7_share 148 = .ok (.aload_n 0, 1) := by decide +kernel
theorem dX7_share_149 : decode cX7_share 149 = .ok (.getfield 18, 3) := by decide +kernel
theorem dX7_share_152 : decode cX7_share 152 = .ok (.iload 6, 2) := by decide +kernel
theorem dX7_share_154 : decode cX7_share 154 = .ok (.laload, 1) := by decide +kernel
theorem dX7_share_155 : decode cX7_share 155 = .ok (.lcmp, 1) := by decide +kernel
theorem dX7_share_156 : decode cX7_share 156 = .ok (.ifCond .le 7, 3) := by decide +kernel
theorem dX7_share_159 : decode cX7_share 159 = .ok (.iload 7, 2) := by decide +kernel
theorem dX7_share_161 : decode cX7_share 161 = .ok (.istore 6, 2) := by decide +kernel
theorem dX7_share_163 : decode cX7_share 163 = .ok (.iinc 7 1, 3) := by decide +kernel
theorem dX7_share_166 : decode cX7_share 166 = .ok (.goto (-34), 3) := by decide +kernel
theorem dX7_share_169 : decode cX7_share 169 = .ok (.aload_n 0, 1) := by decide +kernel
theorem dX7_share_170 : decode cX7_share 170 = .ok (.getfield 15, 3) := by decide +kernel
theorem dX7_share_173 : decode cX7_share 173 = .ok (.iload 6, 2) := by decide +kernel
theorem dX7_share_175 : decode cX7_share 175 = .ok (.dup2, 1) := by decide +kernel
theorem dX7_share_176 : decode cX7_share 176 = .ok (.iaload, 1) := by decide +kernel
theorem dX7_share_177 : decode cX7_share 177 = .ok (.iconst 1, 1) := by decide +kernel
theorem dX7_share_178 : decode cX7_share 178 = .ok (.iadd, 1) := by decide +kernel
theorem dX7_share_179 : decode cX7_share 179 = .ok (.iastore, 1) := by decide +kernel
theorem dX7_share_180 : decode cX7_share 180 = .ok (.aload_n 0, 1) := by decide +kernel
theorem dX7_share_181 : decode cX7_share 181 = .ok (.getfield 18, 3) := by decide +kernel
theorem dX7_share_184 : decode cX7_share 184 = .ok (.iload 6, 2) := by decide +kernel
theorem dX7_share_186 : decode cX7_share 186 = .ok (.ldc2_w 26, 3) := by decide +kernel
theorem dX7_share_189 : decode cX7_share 189 = .ok (.lastore, 1) := by decide +kernel
theorem dX7_share_190 : decode cX7_share 190 = .ok (.iinc 5 1, 3) := by decide +kernel
theorem dX7_share_193 : decode cX7_share 193 = .ok (.goto (-83), 3) := by decide +kernel
theorem dX7_share_196 : decode cX7_share 196 = .ok (.return_, 1) := by decide +kernel
