theorem dX1_init_0 : decode cX1_init 0 = .ok (.aload_n 0, 1) := by decide +kernel
theorem dX1_init_1 : decode cX1_init 1 = .ok (.invokespecial 3, 3) := by decide +kernel
theorem dX1_init_4 : decode cX1_init 4 = .ok (.aload_n 0, 1) := by decide +kernel
theorem dX1_init_5 : decode cX1_init 5 = .ok (.aload_n 1, 1) := by decide +kernel
theorem dX1_init_6 : decode cX1_init 6 = .ok (.putfield 9, 3) := by decide +kernel
theorem dX1_init_9 : decode cX1_init 9 = .ok (.return_, 1) := by decide +kernel
theorem dX1_carryOut_0 : decode cX1_carryOut 0 = .ok (.iconst 0, 1) := by decide +kernel
theorem dX1_carryOut_1 : decode cX1_carryOut 1 = .ok (.istore_n 3, 1) := by decide +kernel
theorem dX1_carryOut_2 : decode cX1_carryOut 2 = .ok (.iload_n 3, 1) := by decide +kernel
theorem dX1_carryOut_3 : decode cX1_carryOut 3 = .ok (.aload_n 1, 1) := by decide +kernel
theorem dX1_carryOut_4 : decode cX1_carryOut 4 = .ok (.getfield 15, 3) := by decide +kernel
theorem dX1_carryOut_7 : decode cX1_carryOut 7 = .ok (.if_icmp .ge 29, 3) := by decide +kernel
theorem dX1_carryOut_10 : decode cX1_carryOut 10 = .ok (.aload_n 1, 1) := by decide +kernel
theorem dX1_carryOut_11 : decode cX1_carryOut 11 = .ok (.getfield 21, 3) := by decide +kernel
theorem dX1_carryOut_14 : decode cX1_carryOut 14 = .ok (.iload_n 3, 1) := by decide +kernel
theorem dX1_carryOut_15 : decode cX1_carryOut 15 = .ok (.aaload, 1) := by decide +kernel
theorem dX1_carryOut_16 : decode cX1_carryOut 16 = .ok (.iconst 0, 1) := by decide +kernel
theorem dX1_carryOut_17 : decode cX1_carryOut 17 = .ok (.putfield 25, 3) := by decide +kernel
theorem dX1_carryOut_20 : decode cX1_carryOut 20 = .ok (.aload_n 1, 1) := by decide +kernel
theorem dX1_carryOut_21 : decode cX1_carryOut 21 = .ok (.getfield 21, 3) := by decide +kernel
theorem dX1_carryOut_24 : decode cX1_carryOut 24 = .ok (.iload_n 3, 1) := by decide +kernel
theorem dX1_carryOut_25 : decode cX1_carryOut 25 = .ok (.aaload, 1) := by decide +kernel
theorem dX1_carryOut_26 : decode cX1_carryOut 26 = .ok (.iconst 0, 1) := by decide +kernel
theorem dX1_carryOut_27 : decode cX1_carryOut 27 = .ok (.putfield 30, 3) := by decide +kernel
theorem dX1_carryOut_30 : decode cX1_carryOut 30 = .ok (.iinc 3 1, 3) := by decide +kernel
theorem dX1_carryOut_33 : decode cX1_carryOut 33 = .ok (.goto (-31), 3) := by decide +kernel
theorem dX1_carryOut_36 : decode cX1_carryOut 36 = .ok (.iconst 0, 1) := by decide +kernel
theorem dX1_carryOut_37 : decode cX1_carryOut 37 = .ok (.istore_n 3, 1) := by decide +kernel
theorem dX1_carryOut_38 : decode cX1_carryOut 38 = .ok (.iload_n 3, 1) := by decide +kernel
theorem dX1_carryOut_39 : decode cX1_carryOut 39 = .ok (.aload_n 1, 1) := by decide +kernel
theorem dX1_carryOut_40 : decode cX1_carryOut 40 = .ok (.getfield 33, 3) := by decide +kernel
theorem dX1_carryOut_43 : decode cX1_carryOut 43 = .ok (.if_icmp .ge 63, 3) := by decide +kernel
theorem dX1_carryOut_46 : decode cX1_carryOut 46 = .ok (.iload_n 3, 1) := by decide +kernel
theorem dX1_carryOut_47 : decode cX1_carryOut 47 = .ok (.aload_n 2, 1) := by decide +kernel
theorem dX1_carryOut_48 : decode cX1_carryOut 48 = .ok (.arraylength, 1) := by decide +kernel
theorem dX1_carryOut_49 : decode cX1_carryOut 49 = .ok (.if_icmp .ge 57, 3) := by decide +kernel
theorem dX1_carryOut_52 : decode cX1_carryOut 52 = .ok (.aload_n 2, 1) := by decide +kernel
theorem dX1_carryOut_53 : decode cX1_carryOut 53 = .ok (.iload_n 3, 1) := by decide +kernel
theorem dX1_carryOut_54 : decode cX1_carryOut 54 = .ok (.iaload, 1) := by decide +kernel
theorem dX1_carryOut_55 : decode cX1_carryOut 55 = .ok (.ifCond .le 19, 3) := by decide +kernel
theorem dX1_carryOut_58 : decode cX1_carryOut 58 = .ok (.aload_n 2, 1) := by decide +kernel
theorem dX1_carryOut_59 : decode cX1_carryOut 59 = .ok (.iload_n 3, 1) := by decide +kernel
theorem dX1_carryOut_60 : decode cX1_carryOut 60 = .ok (.iaload, 1) := by decide +kernel
theorem dX1_carryOut_61 : decode cX1_carryOut 61 = .ok (.aload_n 1, 1) := by decide +kernel
theorem dX1_carryOut_62 : decode cX1_carryOut 62 = .ok (.getfield 36, 3) := by decide +kernel
theorem dX1_carryOut_65 : decode cX1_carryOut 65 = .ok (.iconst 1, 1) := by decide +kernel
theorem dX1_carryOut_66 : decode cX1_carryOut 66 = .ok (.iaload, 1) := by decide +kernel
theorem dX1_carryOut_67 : decode cX1_carryOut 67 = .ok (.imul, 1) := by decide +kernel
theorem dX1_carryOut_68 : decode cX1_carryOut 68 = .ok (.bipush 100, 2) := by decide +kernel
theorem dX1_carryOut_70 : decode cX1_carryOut 70 = .ok (.idiv, 1) := by decide +kernel
theorem dX1_carryOut_71 : decode cX1_carryOut 71 = .ok (.goto 4, 3) := by decide +kernel
theorem dX1_carryOut_74 : decode cX1_carryOut 74 = .ok (.iconst 0, 1) := by decide +kernel
theorem dX1_carryOut_75 : decode cX1_carryOut 75 = .ok (.istore 4, 2) := by decide +kernel
theorem dX1_carryOut_77 : decode cX1_carryOut 77 = .ok (.aload_n 1, 1) := by decide +kernel
theorem dX1_carryOut_78 : decode cX1_carryOut 78 = .ok (.dup, 1) := by decide +kernel
theorem dX1_carryOut_79 : decode cX1_carryOut 79 = .ok (.getfield 40, 3) := by decide +kernel
theorem dX1_carryOut_82 : decode cX1_carryOut 82 = .ok (.iload 4, 2) := by decide +kernel
theorem dX1_carryOut_84 : decode cX1_carryOut 84 = .ok (.iadd, 1) := by decide +kernel
theorem dX1_carryOut_85 : decode cX1_carryOut 85 = .ok (.putfield 40, 3) := by decide +kernel
theorem dX1_carryOut_88 : decode cX1_carryOut 88 = .ok (.aload_n 0, 1) := by decide +kernel
theorem dX1_carryOut_89 : decode cX1_carryOut 89 = .ok (.aload_n 1, 1) := by decide +kernel
theorem dX1_carryOut_90 : decode cX1_carryOut 90 = .ok (.iload_n 3, 1) := by decide +kernel
theorem dX1_carryOut_91 : decode cX1_carryOut 91 = .ok (.aload_n 2, 1) := by decide +kernel
theorem dX1_carryOut_92 : decode cX1_carryOut 92 = .ok (.iload_n 3, 1) := by decide +kernel
theorem dX1_carryOut_93 : decode cX1_carryOut 93 = .ok (.iaload, 1) := by decide +kernel
theorem dX1_carryOut_94 : decode cX1_carryOut 94 = .ok (.iload 4, 2) := by decide +kernel
theorem dX1_carryOut_96 : decode cX1_carryOut 96 = .ok (.isub, 1) := by decide +kernel
theorem dX1_carryOut_97 : decode cX1_carryOut 97 = .ok (.invokevirtual 43, 3) := by decide +kernel
theorem dX1_carryOut_100 : decode cX1_carryOut 100 = .ok (.iinc 3 1, 3) := by decide +kernel
theorem dX1_carryOut_103 : decode cX1_carryOut 103 = .ok (.goto (-65), 3) := by decide +kernel
theorem dX1_carryOut_106 : decode cX1_carryOut 106 = .ok (.iconst 0, 1) := by decide +kernel
theorem dX1_carryOut_107 : decode cX1_carryOut 107 = .ok (.istore_n 3, 1) := by decide +kernel
theorem dX1_carryOut_108 : decode cX1_carryOut 108 = .ok (.iload_n 3, 1) := by decide +kernel
theorem dX1_carryOut_109 : decode cX1_carryOut 109 = .ok (.aload_n 1, 1) := by decide +kernel
theorem dX1_carryOut_110 : decode cX1_carryOut 110 = .ok (.getfield 15, 3) := by decide +kernel
theorem dX1_carryOut_113 : decode cX1_carryOut 113 = .ok (.if_icmp .ge 20, 3) := by decide +kernel
theorem dX1_carryOut_116 : decode cX1_carryOut 116 = .ok (.aload_n 0, 1) := by decide +kernel
theorem dX1_carryOut_117 : decode cX1_carryOut 117 = .ok (.aload_n 1, 1) := by decide +kernel
theorem dX1_carryOut_118 : decode cX1_carryOut 118 = .ok (.aload_n 1, 1) := by decide +kernel
theorem dX1_carryOut_119 : decode cX1_carryOut 119 = .ok (.getfield 21, 3) := by decide +kernel
theorem dX1_carryOut_122 : decode cX1_carryOut 122 = .ok (.iload_n 3, 1) := by decide +kernel
theorem dX1_carryOut_123 : decode cX1_carryOut 123 = .ok (.aaload, 1) := by decide +kernel
theorem dX1_carryOut_124 : decode cX1_carryOut 124 = .ok (.invokevirtual 47, 3) := by decide +kernel
theorem dX1_carryOut_127 : decode cX1_carryOut 127 = .ok (.iinc 3 1, 3) := by decide +kernel
theorem dX1_carryOut_130 : decode cX1_carryOut 130 = .ok (.goto (-22), 3) := by decide +kernel
theorem dX1_carryOut_133 : decode cX1_carryOut 133 = .ok (.iconst 0, 1) := by decide +kernel
theorem dX1_carryOut_134 : decode cX1_carryOut 134 = .ok (.istore_n 3, 1) := by decide +kernel
theorem dX1_carryOut_135 : decode cX1_carryOut 135 = .ok (.iload_n 3, 1) := by decide +kernel
theorem dX1_carryOut_136 : decode cX1_carryOut 136 = .ok (.aload_n 1, 1) := by decide +kernel
theorem dX1_carryOut_137 : decode cX1_carryOut 137 = .ok (.getfield 15, 3) := by decide +kernel
theorem dX1_carryOut_140 : decode cX1_carryOut 140 = .ok (.if_icmp .ge 44, 3) := by decide +kernel
theorem dX1_carryOut_143 : decode cX1_carryOut 143 = .ok (.aload_n 1, 1) := by decide +kernel
theorem dX1_carryOut_144 : decode cX1_carryOut 144 = .ok (.getfield 21, 3) := by decide +kernel
theorem dX1_carryOut_147 : decode cX1_carryOut 147 = .ok (.iload_n 3, 1) := by decide +kernel
theorem dX1_carryOut_148 : decode cX1_carryOut 148 = .ok (.aaload, 1) := by decide +kernel
theorem dX1_carryOut_149 : decode cX1_carryOut 149 = .ok (.getfield 51, 3) := by decide +kernel
theorem dX1_carryOut_152 : decode cX1_carryOut 152 = .ok (.iconst 1, 1) := by decide +kernel
theorem dX1_carryOut_153 : decode cX1_carryOut 153 = .ok (.if_icmp .ne 12, 3) := by decide +kernel
theorem dX1_carryOut_156 : decode cX1_carryOut 156 = .ok (.aload_n 1, 1) := by decide +kernel
theorem dX1_carryOut_157 : decode cX1_carryOut 157 = .ok (.getfield 21, 3) := by decide +kernel
theorem dX1_carryOut_160 : decode cX1_carryOut 160 = .ok (.iload_n 3, 1) := by decide +kernel
theorem dX1_carryOut_161 : decode cX1_carryOut 161 = .ok (.aaload, 1) := by decide +kernel
theorem dX1_carryOut_162 : decode cX1_carryOut 162 = .ok (.invokevirtual 54, 3) := by decide +kernel
theorem dX1_carryOut_165 : decode cX1_carryOut 165 = .ok (.aload_n 1, 1) := by decide +kernel
theorem dX1_carryOut_166 : decode cX1_carryOut 166 = .ok (.getfield 21, 3) := by decide +kernel
theorem dX1_carryOut_169 : decode cX1_carryOut 169 = .ok (.iload_n 3, 1) := by decide +kernel
theorem dX1_carryOut_170 : decode cX1_carryOut 170 = .ok (.aaload, 1) := by decide +kernel
theorem dX1_carryOut_171 : decode cX1_carryOut 171 = .ok (.getfield 57, 3) := by decide +kernel
theorem dX1_carryOut_174 : decode cX1_carryOut 174 = .ok (.iconst 0, 1) := by decide +kernel
theorem dX1_carryOut_175 : decode cX1_carryOut 175 = .ok (.invokestatic 60, 3) := by decide +kernel
theorem dX1_carryOut_178 : decode cX1_carryOut 178 = .ok (.iinc 3 1, 3) := by decide +kernel
theorem dX1_carryOut_181 : decode cX1_carryOut 181 = .ok (.goto (-46), 3) := by decide +kernel
theorem dX1_carryOut_184 : decode cX1_carryOut 184 = .ok (.aload_n 1, 1) := by decide +kernel
theorem dX1_carryOut_185 : decode cX1_carryOut 185 = .ok (.dup, 1) := by decide +kernel
theorem dX1_carryOut_186 : decode cX1_carryOut 186 = .ok (.getfield 66, 3) := by decide +kernel
theorem dX1_carryOut_189 : decode cX1_carryOut 189 = .ok (.iconst 1, 1) := by decide +kernel
theorem dX1_carryOut_190 : decode cX1_carryOut 190 = .ok (.iadd, 1) := by decide +kernel
theorem dX1_carryOut_191 : decode cX1_carryOut 191 = .ok (.putfield 66, 3) := by decide +kernel
theorem dX1_carryOut_194 : decode cX1_carryOut 194 = .ok (.return_, 1) := by decide +kernel
theorem dX1_allocate_0 : decode cX1_allocate 0 = .ok (.aload_n 1, 1) := by decide +kernel
theorem dX1_allocate_1 : decode cX1_allocate 1 = .ok (.getfield 69, 3) := by decide +kernel
theorem dX1_allocate_4 : decode cX1_allocate 4 = .ok (.iload_n 2, 1) := by decide +kernel
theorem dX1_allocate_5 : decode cX1_allocate 5 = .ok (.aaload, 1) := by decide +kernel
theorem dX1_allocate_6 : decode cX1_allocate 6 = .ok (.astore 4, 2) := by decide +kernel
theorem dX1_allocate_8 : decode cX1_allocate 8 = .ok (.aload 4, 2) := by decide +kernel
theorem dX1_allocate_10 : decode cX1_allocate 10 = .ok (.aload_n 1, 1) := by decide +kernel
theorem dX1_allocate_11 : decode cX1_allocate 11 = .ok (.iload_n 2, 1) := by decide +kernel
theorem dX1_allocate_12 : decode cX1_allocate 12 = .ok (.invokevirtual 73, 3) := by decide +kernel
theorem dX1_allocate_15 : decode cX1_allocate 15 = .ok (.putfield 77, 3) := by decide +kernel
theorem dX1_allocate_18 : decode cX1_allocate 18 = .ok (.aload 4, 2) := by decide +kernel
theorem dX1_allocate_20 : decode cX1_allocate 20 = .ok (.iconst 0, 1) := by decide +kernel
theorem dX1_allocate_21 : decode cX1_allocate 21 = .ok (.putfield 82, 3) := by decide +kernel
theorem dX1_allocate_24 : decode cX1_allocate 24 = .ok (.aload 4, 2) := by decide +kernel
theorem dX1_allocate_26 : decode cX1_allocate 26 = .ok (.getfield 77, 3) := by decide +kernel
theorem dX1_allocate_29 : decode cX1_allocate 29 = .ok (.ifCond .ne 14, 3) := by decide +kernel
theorem dX1_allocate_32 : decode cX1_allocate 32 = .ok (.aload_n 1, 1) := by decide +kernel
theorem dX1_allocate_33 : decode cX1_allocate 33 = .ok (.dup, 1) := by decide +kernel
theorem dX1_allocate_34 : decode cX1_allocate 34 = .ok (.getfield 40, 3) := by decide +kernel
theorem dX1_allocate_37 : decode cX1_allocate 37 = .ok (.iload_n 3, 1) := by decide +kernel
theorem dX1_allocate_38 : decode cX1_allocate 38 = .ok (.iadd, 1) := by decide +kernel
theorem dX1_allocate_39 : decode cX1_allocate 39 = .ok (.putfield 40, 3) := by decide +kernel
theorem dX1_allocate_42 : decode cX1_allocate 42 = .ok (.return_, 1) := by decide +kernel
theorem dX1_allocate_43 : decode cX1_allocate 43 = .ok (.aload 4, 2) := by decide +kernel
theorem dX1_allocate_45 : decode cX1_allocate 45 = .ok (.iload_n 3, 1) := by decide +kernel
theorem dX1_allocate_46 : decode cX1_allocate 46 = .ok (.putfield 82, 3) := by decide +kernel
theorem dX1_allocate_49 : decode cX1_allocate 49 = .ok (.aload_n 0, 1) := by decide +kernel
theorem dX1_allocate_50 : decode cX1_allocate 50 = .ok (.getfield 9, 3) := by decide +kernel
theorem dX1_allocate_53 : decode cX1_allocate 53 = .ok (.invokevirtual 85, 3) := by decide +kernel
theorem dX1_allocate_56 : decode cX1_allocate 56 = .ok (.iconst 0, 1) := by decide +kernel
theorem dX1_allocate_57 : decode cX1_allocate 57 = .ok (.istore 5, 2) := by decide +kernel
theorem dX1_allocate_59 : decode cX1_allocate 59 = .ok (.iload 5, 2) := by decide +kernel
theorem dX1_allocate_61 : decode cX1_allocate 61 = .ok (.aload_n 1, 1) := by decide +kernel
theorem dX1_allocate_62 : decode cX1_allocate 62 = .ok (.getfield 15, 3) := by decide +kernel
theorem dX1_allocate_65 : decode cX1_allocate 65 = .ok (.if_icmp .ge 28, 3) := by decide +kernel
theorem dX1_allocate_68 : decode cX1_allocate 68 = .ok (.aload_n 0, 1) := by decide +kernel
theorem dX1_allocate_69 : decode cX1_allocate 69 = .ok (.getfield 9, 3) := by decide +kernel
theorem dX1_allocate_72 : decode cX1_allocate 72 = .ok (.aload_n 1, 1) := by decide +kernel
theorem dX1_allocate_73 : decode cX1_allocate 73 = .ok (.getfield 21, 3) := by decide +kernel
theorem dX1_allocate_76 : decode cX1_allocate 76 = .ok (.iload 5, 2) := by decide +kernel
theorem dX1_allocate_78 : decode cX1_allocate 78 = .ok (.aaload, 1) := by decide +kernel
theorem dX1_allocate_79 : decode cX1_allocate 79 = .ok (.getfield 57, 3) := by decide +kernel
theorem dX1_allocate_82 : decode cX1_allocate 82 = .ok (.iload_n 2, 1) := by decide +kernel
theorem dX1_allocate_83 : decode cX1_allocate 83 = .ok (.iaload, 1) := by decide +kernel
theorem dX1_allocate_84 : decode cX1_allocate 84 = .ok (.invokevirtual 90, 3) := by decide +kernel
theorem dX1_allocate_87 : decode cX1_allocate 87 = .ok (.iinc 5 1, 3) := by decide +kernel
theorem dX1_allocate_90 : decode cX1_allocate 90 = .ok (.goto (-31), 3) := by decide +kernel
theorem dX1_allocate_93 : decode cX1_allocate 93 = .ok (.aload_n 0, 1) := by decide +kernel
theorem dX1_allocate_94 : decode cX1_allocate 94 = .ok (.getfield 9, 3) := by decide +kernel
theorem dX1_allocate_97 : decode cX1_allocate 97 = .ok (.iload_n 3, 1) := by decide +kernel
theorem dX1_allocate_98 : decode cX1_allocate 98 = .ok (.ifCond .ge 8, 3) := by decide +kernel
theorem dX1_allocate_101 : decode cX1_allocate 101 = .ok (.iload_n 3, 1) := by decide +kernel
theorem dX1_allocate_102 : decode cX1_allocate 102 = .ok (.ineg, 1) := by decide +kernel
theorem dX1_allocate_103 : decode cX1_allocate 103 = .ok (.goto 4, 3) := by decide +kernel
theorem dX1_allocate_106 : decode cX1_allocate 106 = .ok (.iload_n 3, 1) := by decide +kernel
theorem dX1_allocate_107 : decode cX1_allocate 107 = .ok (.invokevirtual 94, 3) := by decide +kernel
theorem dX1_allocate_110 : decode cX1_allocate 110 = .ok (.iconst 0, 1) := by decide +kernel
theorem dX1_allocate_111 : decode cX1_allocate 111 = .ok (.istore 5, 2) := by decide +kernel
theorem dX1_allocate_113 : decode cX1_allocate 113 = .ok (.iload 5, 2) := by decide +kernel
theorem dX1_allocate_115 : decode cX1_allocate 115 = .ok (.aload_n 1, 1) := by decide +kernel
theorem dX1_allocate_116 : decode cX1_allocate 116 = .ok (.getfield 15, 3) := by decide +kernel
theorem dX1_allocate_119 : decode cX1_allocate 119 = .ok (.if_icmp .ge 47, 3) := by decide +kernel
theorem dX1_allocate_122 : decode cX1_allocate 122 = .ok (.aload_n 0, 1) := by decide +kernel
theorem dX1_allocate_123 : decode cX1_allocate 123 = .ok (.getfield 9, 3) := by decide +kernel
theorem dX1_allocate_126 : decode cX1_allocate 126 = .ok (.iload 5, 2) := by decide +kernel
theorem dX1_allocate_128 : decode cX1_allocate 128 = .ok (.invokevirtual 97, 3) := by decide +kernel
theorem dX1_allocate_131 : decode cX1_allocate 131 = .ok (.istore 6, 2) := by decide +kernel
theorem dX1_allocate_133 : decode cX1_allocate 133 = .ok (.aload_n 1, 1) := by decide +kernel
theorem dX1_allocate_134 : decode cX1_allocate 134 = .ok (.getfield 21, 3) := by decide +kernel
theorem dX1_allocate_137 : decode cX1_allocate 137 = .ok (.iload 5, 2) := by decide +kernel
theorem dX1_allocate_139 : decode cX1_allocate 139 = .ok (.aaload, 1) := by decide +kernel
theorem dX1_allocate_140 : decode cX1_allocate 140 = .ok (.dup, 1) := by decide +kernel
theorem dX1_allocate_141 : decode cX1_allocate 141 = .ok (.getfield 25, 3) := by decide +kernel
theorem dX1_allocate_144 : decode cX1_allocate 144 = .ok (.iload_n 3, 1) := by decide +kernel
theorem dX1_allocate_145 : decode cX1_allocate 145 = .ok (.ifCond .ge 9, 3) := by decide +kernel
theorem dX1_allocate_148 : decode cX1_allocate 148 = .ok (.iload 6, 2) := by decide +kernel
theorem dX1_allocate_150 : decode cX1_allocate 150 = .ok (.ineg, 1) := by decide +kernel
theorem dX1_allocate_151 : decode cX1_allocate 151 = .ok (.goto 5, 3) := by decide +kernel
theorem dX1_allocate_154 : decode cX1_allocate 154 = .ok (.iload 6, 2) := by decide +kernel
theorem dX1_allocate_156 : decode cX1_allocate 156 = .ok (.iadd, 1) := by decide +kernel
theorem dX1_allocate_157 : decode cX1_allocate 157 = .ok (.putfield 25, 3) := by decide +kernel
theorem dX1_allocate_160 : decode cX1_allocate 160 = .ok (.iinc 5 1, 3) := by decide +kernel
theorem dX1_allocate_163 : decode cX1_allocate 163 = .ok (.goto (-50), 3) := by decide +kernel
theorem dX1_allocate_166 : decode cX1_allocate 166 = .ok (.return_, 1) := by decide +kernel
theorem dX1_settle_0 : decode cX1_settle 0 = .ok (.aload_n 2, 1) := by decide +kernel
theorem dX1_settle_1 : decode cX1_settle 1 = .ok (.getfield 25, 3) := by decide +kernel
theorem dX1_settle_4 : decode cX1_settle 4 = .ok (.istore_n 3, 1) := by decide +kernel
theorem dX1_settle_5 : decode cX1_settle 5 = .ok (.iload_n 3, 1) := by decide +kernel
theorem dX1_settle_6 : decode cX1_settle 6 = .ok (.ifCond .le 75, 3) := by decide +kernel
theorem dX1_settle_9 : decode cX1_settle 9 = .ok (.aload_n 2, 1) := by decide +kernel
theorem dX1_settle_10 : decode cX1_settle 10 = .ok (.getfield 100, 3) := by decide +kernel
theorem dX1_settle_13 : decode cX1_settle 13 = .ok (.ifCond .eq 17, 3) := by decide +kernel
theorem dX1_settle_16 : decode cX1_settle 16 = .ok (.iload_n 3, 1) := by decide +kernel
theorem dX1_settle_17 : decode cX1_settle 17 = .ok (.aload_n 1, 1) := by decide +kernel
theorem dX1_settle_18 : decode cX1_settle 18 = .ok (.getfield 36, 3) := by decide +kernel
theorem dX1_settle_21 : decode cX1_settle 21 = .ok (.iconst 0, 1) := by decide +kernel
theorem dX1_settle_22 : decode cX1_settle 22 = .ok (.iaload, 1) := by decide +kernel
theorem dX1_settle_23 : decode cX1_settle 23 = .ok (.imul, 1) := by decide +kernel
theorem dX1_settle_24 : decode cX1_settle 24 = .ok (.bipush 100, 2) := by decide +kernel
theorem dX1_settle_26 : decode cX1_settle 26 = .ok (.idiv, 1) := by decide +kernel
theorem dX1_settle_27 : decode cX1_settle 27 = .ok (.goto 4, 3) := by decide +kernel
theorem dX1_settle_30 : decode cX1_settle 30 = .ok (.iconst 0, 1) := by decide +kernel
theorem dX1_settle_31 : decode cX1_settle 31 = .ok (.istore 4, 2) := by decide +kernel
theorem dX1_settle_33 : decode cX1_settle 33 = .ok (.aload_n 2, 1) := by decide +kernel
theorem dX1_settle_34 : decode cX1_settle 34 = .ok (.getfield 104, 3) := by decide +kernel
theorem dX1_settle_37 : decode cX1_settle 37 = .ok (.iconst 0, 1) := by decide +kernel
theorem dX1_settle_38 : decode cX1_settle 38 = .ok (.dup2, 1) := by decide +kernel
theorem dX1_settle_39 : decode cX1_settle 39 = .ok (.iaload, 1) := by decide +kernel
theorem dX1_settle_40 : decode cX1_settle 40 = .ok (.iload 4, 2) := by decide +kernel
theorem dX1_settle_42 : decode cX1_settle 42 = .ok (.iadd, 1) := by decide +kernel
theorem dX1_settle_43 : decode cX1_settle 43 = .ok (.iastore, 1) := by decide +kernel
theorem dX1_settle_44 : decode cX1_settle 44 = .ok (.aload_n 2, 1) := by decide +kernel
theorem dX1_settle_45 : decode cX1_settle 45 = .ok (.aload_n 1, 1) := by decide +kernel
theorem dX1_settle_46 : decode cX1_settle 46 = .ok (.getfield 66, 3) := by decide +kernel
theorem dX1_settle_49 : decode cX1_settle 49 = .ok (.iload_n 3, 1) := by decide +kernel
theorem dX1_settle_50 : decode cX1_settle 50 = .ok (.iload 4, 2) := by decide +kernel
theorem dX1_settle_52 : decode cX1_settle 52 = .ok (.isub, 1) := by decide +kernel
theorem dX1_settle_53 : decode cX1_settle 53 = .ok (.aload_n 2, 1) := by decide +kernel
theorem dX1_settle_54 : decode cX1_settle 54 = .ok (.getfield 100, 3) := by decide +kernel
theorem dX1_settle_57 : decode cX1_settle 57 = .ok (.ifCond .eq 7, 3) := by decide +kernel
theorem dX1_settle_60 : decode cX1_settle 60 = .ok (.iconst 0, 1) := by decide +kernel
theorem dX1_settle_61 : decode cX1_settle 61 = .ok (.goto 4, 3) := by decide +kernel
theorem dX1_settle_64 : decode cX1_settle 64 = .ok (.iconst 1, 1) := by decide +kernel
theorem dX1_settle_65 : decode cX1_settle 65 = .ok (.invokevirtual 107, 3) := by decide +kernel
theorem dX1_settle_68 : decode cX1_settle 68 = .ok (.aload_n 1, 1) := by decide +kernel
theorem dX1_settle_69 : decode cX1_settle 69 = .ok (.dup, 1) := by decide +kernel
theorem dX1_settle_70 : decode cX1_settle 70 = .ok (.getfield 111, 3) := by decide +kernel
theorem dX1_settle_73 : decode cX1_settle 73 = .ok (.iload_n 3, 1) := by decide +kernel
theorem dX1_settle_74 : decode cX1_settle 74 = .ok (.iadd, 1) := by decide +kernel
theorem dX1_settle_75 : decode cX1_settle 75 = .ok (.putfield 111, 3) := by decide +kernel
theorem dX1_settle_78 : decode cX1_settle 78 = .ok (.goto 46, 3) := by decide +kernel
theorem dX1_settle_81 : decode cX1_settle 81 = .ok (.iload_n 3, 1) := by decide +kernel
theorem dX1_settle_82 : decode cX1_settle 82 = .ok (.ifCond .ge 42, 3) := by decide +kernel
theorem dX1_settle_85 : decode cX1_settle 85 = .ok (.aload_n 2, 1) := by decide +kernel
theorem dX1_settle_86 : decode cX1_settle 86 = .ok (.aload_n 2, 1) := by decide +kernel
theorem dX1_settle_87 : decode cX1_settle 87 = .ok (.iload_n 3, 1) := by decide +kernel
theorem dX1_settle_88 : decode cX1_settle 88 = .ok (.ineg, 1) := by decide +kernel
theorem dX1_settle_89 : decode cX1_settle 89 = .ok (.invokevirtual 114, 3) := by decide +kernel
theorem dX1_settle_92 : decode cX1_settle 92 = .ok (.putfield 30, 3) := by decide +kernel
theorem dX1_settle_95 : decode cX1_settle 95 = .ok (.aload_n 1, 1) := by decide +kernel
theorem dX1_settle_96 : decode cX1_settle 96 = .ok (.dup, 1) := by decide +kernel
theorem dX1_settle_97 : decode cX1_settle 97 = .ok (.getfield 117, 3) := by decide +kernel
theorem dX1_settle_100 : decode cX1_settle 100 = .ok (.aload_n 2, 1) := by decide +kernel
theorem dX1_settle_101 : decode cX1_settle 101 = .ok (.getfield 30, 3) := by decide +kernel
theorem dX1_settle_104 : decode cX1_settle 104 = .ok (.iadd, 1) := by decide +kernel
theorem dX1_settle_105 : decode cX1_settle 105 = .ok (.putfield 117, 3) := by decide +kernel
theorem dX1_settle_108 : decode cX1_settle 108 = .ok (.aload_n 1, 1) := by decide +kernel
theorem dX1_settle_109 : decode cX1_settle 109 = .ok (.dup, 1) := by decide +kernel
theorem dX1_settle_110 : decode cX1_settle 110 = .ok (.getfield 40, 3) := by decide +kernel
theorem dX1_settle_113 : decode cX1_settle 113 = .ok (.iload_n 3, 1) := by decide +kernel
theorem dX1_settle_114 : decode cX1_settle 114 = .ok (.ineg, 1) := by decide +kernel
theorem dX1_settle_115 : decode cX1_settle 115 = .ok (.aload_n 2, 1) := by decide +kernel
theorem dX1_settle_116 : decode cX1_settle 116 = .ok (.getfield 30, 3) := by decide +kernel
theorem dX1_settle_119 : decode cX1_settle 119 = .ok (.isub, 1) := by decide +kernel
theorem dX1_settle_120 : decode cX1_settle 120 = .ok (.isub, 1) := by decide +kernel
theorem dX1_settle_121 : decode cX1_settle 121 = .ok (.putfield 40, 3) := by decide +kernel
theorem dX1_settle_124 : decode cX1_settle 124 = .ok (.return_, 1) := by decide +kernel
