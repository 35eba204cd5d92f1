theorem dX10_readSet_81 : decode cX10_readSet 81 = .ok (.iconst 0, 1) := by decide +kernel
theorem dX10_readSet_82 : decode cX10_readSet 82 = .ok (.bipush (-14), 2) := by decide +kernel
theorem dX10_readSet_84 : decode cX10_readSet 84 = .ok (.invokevirtual 195, 3) := by decide +kernel
theorem dX10_readSet_87 : decode cX10_readSet 87 = .ok (.aload_n 0, 1) := by decide +kernel
theorem dX10_readSet_88 : decode cX10_readSet 88 = .ok (.dup, 1) := by decide +kernel
theorem dX10_readSet_89 : decode cX10_readSet 89 = .ok (.getfield 229, 3) := by decide +kernel
theorem dX10_readSet_92 : decode cX10_readSet 92 = .ok (.iconst 1, 1) := by decide +kernel
theorem dX10_readSet_93 : decode cX10_readSet 93 = .ok (.iload_n 2, 1) := by decide +kernel
theorem dX10_readSet_94 : decode cX10_readSet 94 = .ok (.ishl, 1) := by decide +kernel
theorem dX10_readSet_95 : decode cX10_readSet 95 = .ok (.ior, 1) := by decide +kernel
theorem dX10_readSet_96 : decode cX10_readSet 96 = .ok (.putfield 229, 3) := by decide +kernel
theorem dX10_readSet_99 : decode cX10_readSet 99 = .ok (.aload_n 0, 1) := by decide +kernel
theorem dX10_readSet_100 : decode cX10_readSet 100 = .ok (.invokevirtual 209, 3) := by decide +kernel
theorem dX10_readSet_103 : decode cX10_readSet 103 = .ok (.aload_n 0, 1) := by decide +kernel
theorem dX10_readSet_104 : decode cX10_readSet 104 = .ok (.getfield 19, 3) := by decide +kernel
theorem dX10_readSet_107 : decode cX10_readSet 107 = .ok (.iconst 0, 1) := by decide +kernel
theorem dX10_readSet_108 : decode cX10_readSet 108 = .ok (.iload_n 2, 1) := by decide +kernel
theorem dX10_readSet_109 : decode cX10_readSet 109 = .ok (.iadd, 1) := by decide +kernel
theorem dX10_readSet_110 : decode cX10_readSet 110 = .ok (.aload_n 0, 1) := by decide +kernel
theorem dX10_readSet_111 : decode cX10_readSet 111 = .ok (.iload_n 2, 1) := by decide +kernel
theorem dX10_readSet_112 : decode cX10_readSet 112 = .ok (.invokestatic 232, 3) := by decide +kernel
theorem dX10_readSet_115 : decode cX10_readSet 115 = .ok (.iload_n 2, 1) := by decide +kernel
theorem dX10_readSet_116 : decode cX10_readSet 116 = .ok (.invokestatic 235, 3) := by decide +kernel
theorem dX10_readSet_119 : decode cX10_readSet 119 = .ok (.invokevirtual 219, 3) := by decide +kernel
theorem dX10_readSet_122 : decode cX10_readSet 122 = .ok (.iastore, 1) := by decide +kernel
theorem dX10_readSet_123 : decode cX10_readSet 123 = .ok (.aload_n 0, 1) := by decide +kernel
theorem dX10_readSet_124 : decode cX10_readSet 124 = .ok (.invokevirtual 209, 3) := by decide +kernel
theorem dX10_readSet_127 : decode cX10_readSet 127 = .ok (.return_, 1) := by decide +kernel
theorem dX10_readStatement_0 : decode cX10_readStatement 0 = .ok (.aload_n 0, 1) := by decide +kernel
theorem dX10_readStatement_1 : decode cX10_readStatement 1 = .ok (.getfield 158, 3) := by decide +kernel
theorem dX10_readStatement_4 : decode cX10_readStatement 4 = .ok (.ifCond .ne 10, 3) := by decide +kernel
theorem dX10_readStatement_7 : decode cX10_readStatement 7 = .ok (.aload_n 0, 1) := by decide +kernel
theorem dX10_readStatement_8 : decode cX10_readStatement 8 = .ok (.getfield 168, 3) := by decide +kernel
theorem dX10_readStatement_11 : decode cX10_readStatement 11 = .ok (.goto 4, 3) := by decide +kernel
theorem dX10_readStatement_14 : decode cX10_readStatement 14 = .ok (.iconst (-1), 1) := by decide +kernel
theorem dX10_readStatement_15 : decode cX10_readStatement 15 = .ok (.istore_n 1, 1) := by decide +kernel
theorem dX10_readStatement_16 : decode cX10_readStatement 16 = .ok (.iload_n 1, 1) := by decide +kernel
theorem dX10_readStatement_17 : decode cX10_readStatement 17 = .ok (.tableswitch 70 0 4 #[35, 42, 49, 56, 63], 35) := by decide +kernel
theorem dX10_readStatement_52 : decode cX10_readStatement 52 = .ok (.aload_n 0, 1) := by decide +kernel
theorem dX10_readStatement_53 : decode cX10_readStatement 53 = .ok (.invokevirtual 238, 3) := by decide +kernel
theorem dX10_readStatement_56 : decode cX10_readStatement 56 = .ok (.goto 38, 3) := by decide +kernel
theorem dX10_readStatement_59 : decode cX10_readStatement 59 = .ok (.aload_n 0, 1) := by decide +kernel
theorem dX10_readStatement_60 : decode cX10_readStatement 60 = .ok (.invokevirtual 241, 3) := by decide +kernel
theorem dX10_readStatement_63 : decode cX10_readStatement 63 = .ok (.goto 31, 3) := by decide +kernel
theorem dX10_readStatement_66 : decode cX10_readStatement 66 = .ok (.aload_n 0, 1) := by decide +kernel
theorem dX10_readStatement_67 : decode cX10_readStatement 67 = .ok (.invokevirtual 244, 3) := by decide +kernel
theorem dX10_readStatement_70 : decode cX10_readStatement 70 = .ok (.goto 24, 3) := by decide +kernel
theorem dX10_readStatement_73 : decode cX10_readStatement 73 = .ok (.aload_n 0, 1) := by decide +kernel
theorem dX10_readStatement_74 : decode cX10_readStatement 74 = .ok (.invokevirtual 247, 3) := by decide +kernel
theorem dX10_readStatement_77 : decode cX10_readStatement 77 = .ok (.goto 17, 3) := by decide +kernel
theorem dX10_readStatement_80 : decode cX10_readStatement 80 = .ok (.aload_n 0, 1) := by decide +kernel
theorem dX10_readStatement_81 : decode cX10_readStatement 81 = .ok (.invokevirtual 250, 3) := by decide +kernel
theorem dX10_readStatement_84 : decode cX10_readStatement 84 = .ok (.goto 10, 3) := by decide +kernel
theorem dX10_readStatement_87 : decode cX10_readStatement 87 = .ok (.aload_n 0, 1) := by decide +kernel
theorem dX10_readStatement_88 : decode cX10_readStatement 88 = .ok (.iconst 1, 1) := by decide +kernel
theorem dX10_readStatement_89 : decode cX10_readStatement 89 = .ok (.bipush (-11), 2) := by decide +kernel
theorem dX10_readStatement_91 : decode cX10_readStatement 91 = .ok (.invokevirtual 195, 3) := by decide +kernel
theorem dX10_readStatement_94 : decode cX10_readStatement 94 = .ok (.aload_n 0, 1) := by decide +kernel
theorem dX10_readStatement_95 : decode cX10_readStatement 95 = .ok (.aload_n 0, 1) := by decide +kernel
theorem dX10_readStatement_96 : decode cX10_readStatement 96 = .ok (.getfield 158, 3) := by decide +kernel
theorem dX10_readStatement_99 : decode cX10_readStatement 99 = .ok (.iconst 2, 1) := by decide +kernel
theorem dX10_readStatement_100 : decode cX10_readStatement 100 = .ok (.if_icmp .eq 7, 3) := by decide +kernel
theorem dX10_readStatement_103 : decode cX10_readStatement 103 = .ok (.iconst 1, 1) := by decide +kernel
theorem dX10_readStatement_104 : decode cX10_readStatement 104 = .ok (.goto 4, 3) := by decide +kernel
theorem dX10_readStatement_107 : decode cX10_readStatement 107 = .ok (.iconst 0, 1) := by decide +kernel
theorem dX10_readStatement_108 : decode cX10_readStatement 108 = .ok (.bipush (-11), 2) := by decide +kernel
theorem dX10_readStatement_110 : decode cX10_readStatement 110 = .ok (.invokevirtual 195, 3) := by decide +kernel
theorem dX10_readStatement_113 : decode cX10_readStatement 113 = .ok (.aload_n 0, 1) := by decide +kernel
theorem dX10_readStatement_114 : decode cX10_readStatement 114 = .ok (.invokevirtual 209, 3) := by decide +kernel
theorem dX10_readStatement_117 : decode cX10_readStatement 117 = .ok (.aload_n 0, 1) := by decide +kernel
theorem dX10_readStatement_118 : decode cX10_readStatement 118 = .ok (.dup, 1) := by decide +kernel
theorem dX10_readStatement_119 : decode cX10_readStatement 119 = .ok (.getfield 253, 3) := by decide +kernel
theorem dX10_readStatement_122 : decode cX10_readStatement 122 = .ok (.iconst 1, 1) := by decide +kernel
theorem dX10_readStatement_123 : decode cX10_readStatement 123 = .ok (.iadd, 1) := by decide +kernel
theorem dX10_readStatement_124 : decode cX10_readStatement 124 = .ok (.putfield 253, 3) := by decide +kernel
theorem dX10_readStatement_127 : decode cX10_readStatement 127 = .ok (.return_, 1) := by decide +kernel
theorem dX10_load_0 : decode cX10_load 0 = .ok (.aload_n 0, 1) := by decide +kernel
theorem dX10_load_1 : decode cX10_load 1 = .ok (.iconst 0, 1) := by decide +kernel
theorem dX10_load_2 : decode cX10_load 2 = .ok (.putfield 66, 3) := by decide +kernel
theorem dX10_load_5 : decode cX10_load 5 = .ok (.iload_n 1, 1) := by decide +kernel
theorem dX10_load_6 : decode cX10_load 6 = .ok (.ifCond .lt 11, 3) := by decide +kernel
theorem dX10_load_9 : decode cX10_load 9 = .ok (.iload_n 1, 1) := by decide +kernel
theorem dX10_load_10 : decode cX10_load 10 = .ok (.aload_n 0, 1) := by decide +kernel
theorem dX10_load_11 : decode cX10_load 11 = .ok (.getfield 69, 3) := by decide +kernel
theorem dX10_load_14 : decode cX10_load 14 = .ok (.if_icmp .le 6, 3) := by decide +kernel
theorem dX10_load_17 : decode cX10_load 17 = .ok (.bipush (-2), 2) := by decide +kernel
theorem dX10_load_19 : decode cX10_load 19 = .ok (.ireturn, 1) := by decide +kernel
theorem dX10_load_20 : decode cX10_load 20 = .ok (.aload_n 0, 1) := by decide +kernel
theorem dX10_load_21 : decode cX10_load 21 = .ok (.getfield 13, 3) := by decide +kernel
theorem dX10_load_24 : decode cX10_load 24 = .ok (.aload_n 0, 1) := by decide +kernel
theorem dX10_load_25 : decode cX10_load 25 = .ok (.getfield 16, 3) := by decide +kernel
theorem dX10_load_28 : decode cX10_load 28 = .ok (.invokestatic 256, 3) := by decide +kernel
theorem dX10_load_31 : decode cX10_load 31 = .ok (.aload_n 0, 1) := by decide +kernel
theorem dX10_load_32 : decode cX10_load 32 = .ok (.getfield 19, 3) := by decide +kernel
theorem dX10_load_35 : decode cX10_load 35 = .ok (.aload_n 0, 1) := by decide +kernel
theorem dX10_load_36 : decode cX10_load 36 = .ok (.getfield 22, 3) := by decide +kernel
theorem dX10_load_39 : decode cX10_load 39 = .ok (.invokestatic 256, 3) := by decide +kernel
theorem dX10_load_42 : decode cX10_load 42 = .ok (.aload_n 0, 1) := by decide +kernel
theorem dX10_load_43 : decode cX10_load 43 = .ok (.invokevirtual 63, 3) := by decide +kernel
theorem dX10_load_46 : decode cX10_load 46 = .ok (.aload_n 0, 1) := by decide +kernel
theorem dX10_load_47 : decode cX10_load 47 = .ok (.iload_n 1, 1) := by decide +kernel
theorem dX10_load_48 : decode cX10_load 48 = .ok (.putfield 149, 3) := by decide +kernel
theorem dX10_load_51 : decode cX10_load 51 = .ok (.aload_n 0, 1) := by decide +kernel
theorem dX10_load_52 : decode cX10_load 52 = .ok (.iconst 0, 1) := by decide +kernel
theorem dX10_load_53 : decode cX10_load 53 = .ok (.putfield 146, 3) := by decide +kernel
theorem dX10_load_56 : decode cX10_load 56 = .ok (.aload_n 0, 1) := by decide +kernel
theorem dX10_load_57 : decode cX10_load 57 = .ok (.iconst 0, 1) := by decide +kernel
theorem dX10_load_58 : decode cX10_load 58 = .ok (.putfield 186, 3) := by decide +kernel
theorem dX10_load_61 : decode cX10_load 61 = .ok (.aload_n 0, 1) := by decide +kernel
theorem dX10_load_62 : decode cX10_load 62 = .ok (.iconst 0, 1) := by decide +kernel
theorem dX10_load_63 : decode cX10_load 63 = .ok (.putfield 229, 3) := by decide +kernel
theorem dX10_load_66 : decode cX10_load 66 = .ok (.aload_n 0, 1) := by decide +kernel
theorem dX10_load_67 : decode cX10_load 67 = .ok (.iconst 0, 1) := by decide +kernel
theorem dX10_load_68 : decode cX10_load 68 = .ok (.putfield 253, 3) := by decide +kernel
theorem dX10_load_71 : decode cX10_load 71 = .ok (.aload_n 0, 1) := by decide +kernel
theorem dX10_load_72 : decode cX10_load 72 = .ok (.invokevirtual 192, 3) := by decide +kernel
theorem dX10_load_75 : decode cX10_load 75 = .ok (.aload_n 0, 1) := by decide +kernel
theorem dX10_load_76 : decode cX10_load 76 = .ok (.getfield 186, 3) := by decide +kernel
theorem dX10_load_79 : decode cX10_load 79 = .ok (.ifCond .ne 18, 3) := by decide +kernel
theorem dX10_load_82 : decode cX10_load 82 = .ok (.aload_n 0, 1) := by decide +kernel
theorem dX10_load_83 : decode cX10_load 83 = .ok (.getfield 158, 3) := by decide +kernel
theorem dX10_load_86 : decode cX10_load 86 = .ok (.iconst 4, 1) := by decide +kernel
theorem dX10_load_87 : decode cX10_load 87 = .ok (.if_icmp .eq 10, 3) := by decide +kernel
theorem dX10_load_90 : decode cX10_load 90 = .ok (.aload_n 0, 1) := by decide +kernel
theorem dX10_load_91 : decode cX10_load 91 = .ok (.invokevirtual 260, 3) := by decide +kernel
theorem dX10_load_94 : decode cX10_load 94 = .ok (.goto (-19), 3) := by decide +kernel
theorem dX10_load_97 : decode cX10_load 97 = .ok (.aload_n 0, 1) := by decide +kernel
theorem dX10_load_98 : decode cX10_load 98 = .ok (.iconst 0, 1) := by decide +kernel
theorem dX10_load_99 : decode cX10_load 99 = .ok (.putfield 69, 3) := by decide +kernel
theorem dX10_load_102 : decode cX10_load 102 = .ok (.aload_n 0, 1) := by decide +kernel
theorem dX10_load_103 : decode cX10_load 103 = .ok (.aload_n 0, 1) := by decide +kernel
theorem dX10_load_104 : decode cX10_load 104 = .ok (.getfield 186, 3) := by decide +kernel
theorem dX10_load_107 : decode cX10_load 107 = .ok (.ifCond .ne 7, 3) := by decide +kernel
theorem dX10_load_110 : decode cX10_load 110 = .ok (.iconst (-1), 1) := by decide +kernel
theorem dX10_load_111 : decode cX10_load 111 = .ok (.goto 7, 3) := by decide +kernel
theorem dX10_load_114 : decode cX10_load 114 = .ok (.aload_n 0, 1) := by decide +kernel
theorem dX10_load_115 : decode cX10_load 115 = .ok (.getfield 189, 3) := by decide +kernel
theorem dX10_load_118 : decode cX10_load 118 = .ok (.putfield 56, 3) := by decide +kernel
theorem dX10_load_121 : decode cX10_load 121 = .ok (.aload_n 0, 1) := by decide +kernel
theorem dX10_load_122 : decode cX10_load 122 = .ok (.getfield 186, 3) := by decide +kernel
theorem dX10_load_125 : decode cX10_load 125 = .ok (.ifCond .eq 30, 3) := by decide +kernel
theorem dX10_load_128 : decode cX10_load 128 = .ok (.aload_n 0, 1) := by decide +kernel
theorem dX10_load_129 : decode cX10_load 129 = .ok (.getfield 16, 3) := by decide +kernel
theorem dX10_load_132 : decode cX10_load 132 = .ok (.aload_n 0, 1) := by decide +kernel
theorem dX10_load_133 : decode cX10_load 133 = .ok (.getfield 13, 3) := by decide +kernel
theorem dX10_load_136 : decode cX10_load 136 = .ok (.invokestatic 256, 3) := by decide +kernel
theorem dX10_load_139 : decode cX10_load 139 = .ok (.aload_n 0, 1) := by decide +kernel
theorem dX10_load_140 : decode cX10_load 140 = .ok (.getfield 22, 3) := by decide +kernel
theorem dX10_load_143 : decode cX10_load 143 = .ok (.aload_n 0, 1) := by decide +kernel
theorem dX10_load_144 : decode cX10_load 144 = .ok (.getfield 19, 3) := by decide +kernel
theorem dX10_load_147 : decode cX10_load 147 = .ok (.invokestatic 256, 3) := by decide +kernel
theorem dX10_load_150 : decode cX10_load 150 = .ok (.aload_n 0, 1) := by decide +kernel
theorem dX10_load_151 : decode cX10_load 151 = .ok (.getfield 186, 3) := by decide +kernel
theorem dX10_load_154 : decode cX10_load 154 = .ok (.ireturn, 1) := by decide +kernel
theorem dX10_load_155 : decode cX10_load 155 = .ok (.aload_n 0, 1) := by decide +kernel
theorem dX10_load_156 : decode cX10_load 156 = .ok (.iconst 0, 1) := by decide +kernel
theorem dX10_load_157 : decode cX10_load 157 = .ok (.putfield 263, 3) := by decide +kernel
theorem dX10_load_160 : decode cX10_load 160 = .ok (.aload_n 0, 1) := by decide +kernel
theorem dX10_load_161 : decode cX10_load 161 = .ok (.getfield 253, 3) := by decide +kernel
theorem dX10_load_164 : decode cX10_load 164 = .ok (.ireturn, 1) := by decide +kernel
theorem dX10_errorPosition_0 : decode cX10_errorPosition 0 = .ok (.aload_n 0, 1) := by decide +kernel
theorem dX10_errorPosition_1 : decode cX10_errorPosition 1 = .ok (.iconst 0, 1) := by decide +kernel
theorem dX10_errorPosition_2 : decode cX10_errorPosition 2 = .ok (.putfield 66, 3) := by decide +kernel
theorem dX10_errorPosition_5 : decode cX10_errorPosition 5 = .ok (.aload_n 0, 1) := by decide +kernel
theorem dX10_errorPosition_6 : decode cX10_errorPosition 6 = .ok (.getfield 56, 3) := by decide +kernel
theorem dX10_errorPosition_9 : decode cX10_errorPosition 9 = .ok (.ireturn, 1) := by decide +kernel
theorem dX10_isMember_0 : decode cX10_isMember 0 = .ok (.iload_n 1, 1) := by decide +kernel
theorem dX10_isMember_1 : decode cX10_isMember 1 = .ok (.ifCond .lt 18, 3) := by decide +kernel
theorem dX10_isMember_4 : decode cX10_isMember 4 = .ok (.iload_n 1, 1) := by decide +kernel
theorem dX10_isMember_5 : decode cX10_isMember 5 = .ok (.aload_n 0, 1) := by decide +kernel
theorem dX10_isMember_6 : decode cX10_isMember 6 = .ok (.getfield 13, 3) := by decide +kernel
theorem dX10_isMember_9 : decode cX10_isMember 9 = .ok (.bipush 12, 2) := by decide +kernel
theorem dX10_isMember_11 : decode cX10_isMember 11 = .ok (.iaload, 1) := by decide +kernel
theorem dX10_isMember_12 : decode cX10_isMember 12 = .ok (.if_icmp .ge 7, 3) := by decide +kernel
theorem dX10_isMember_15 : decode cX10_isMember 15 = .ok (.iconst 1, 1) := by decide +kernel
theorem dX10_isMember_16 : decode cX10_isMember 16 = .ok (.goto 4, 3) := by decide +kernel
theorem dX10_isMember_19 : decode cX10_isMember 19 = .ok (.iconst 0, 1) := by decide +kernel
theorem dX10_isMember_20 : decode cX10_isMember 20 = .ok (.ireturn, 1) := by decide +kernel
theorem dX10_isDepartment_0 : decode cX10_isDepartment 0 = .ok (.iload_n 1, 1) := by decide +kernel
theorem dX10_isDepartment_1 : decode cX10_isDepartment 1 = .ok (.ifCond .lt 18, 3) := by decide +kernel
theorem dX10_isDepartment_4 : decode cX10_isDepartment 4 = .ok (.iload_n 1, 1) := by decide +kernel
theorem dX10_isDepartment_5 : decode cX10_isDepartment 5 = .ok (.aload_n 0, 1) := by decide +kernel
theorem dX10_isDepartment_6 : decode cX10_isDepartment 6 = .ok (.getfield 13, 3) := by decide +kernel
theorem dX10_isDepartment_9 : decode cX10_isDepartment 9 = .ok (.bipush 13, 2) := by decide +kernel
theorem dX10_isDepartment_11 : decode cX10_isDepartment 11 = .ok (.iaload, 1) := by decide +kernel
theorem dX10_isDepartment_12 : decode cX10_isDepartment 12 = .ok (.if_icmp .ge 7, 3) := by decide +kernel
theorem dX10_isDepartment_15 : decode cX10_isDepartment 15 = .ok (.iconst 1, 1) := by decide +kernel
theorem dX10_isDepartment_16 : decode cX10_isDepartment 16 = .ok (.goto 4, 3) := by decide +kernel
theorem dX10_isDepartment_19 : decode cX10_isDepartment 19 = .ok (.iconst 0, 1) := by decide +kernel
theorem dX10_isDepartment_20 : decode cX10_isDepartment 20 = .ok (.ireturn, 1) := by decide +kernel
theorem dX10_isClosed_0 : decode cX10_isClosed 0 = .ok (.iload_n 1, 1) := by decide +kernel
theorem dX10_isClosed_1 : decode cX10_isClosed 1 = .ok (.ifCond .lt 19, 3) := by decide +kernel
theorem dX10_isClosed_4 : decode cX10_isClosed 4 = .ok (.iload_n 1, 1) := by decide +kernel
theorem dX10_isClosed_5 : decode cX10_isClosed 5 = .ok (.aload_n 0, 1) := by decide +kernel
theorem dX10_isClosed_6 : decode cX10_isClosed 6 = .ok (.getfield 19, 3) := by decide +kernel
theorem dX10_isClosed_9 : decode cX10_isClosed 9 = .ok (.sipush 494, 3) := by decide +kernel
theorem dX10_isClosed_12 : decode cX10_isClosed 12 = .ok (.iaload, 1) := by decide +kernel
theorem dX10_isClosed_13 : decode cX10_isClosed 13 = .ok (.if_icmp .ge 7, 3) := by decide +kernel
theorem dX10_isClosed_16 : decode cX10_isClosed 16 = .ok (.iconst 1, 1) := by decide +kernel
theorem dX10_isClosed_17 : decode cX10_isClosed 17 = .ok (.goto 4, 3) := by decide +kernel
theorem dX10_isClosed_20 : decode cX10_isClosed 20 = .ok (.iconst 0, 1) := by decide +kernel
theorem dX10_isClosed_21 : decode cX10_isClosed 21 = .ok (.ireturn, 1) := by decide +kernel
theorem dX10_isSetting_0 : decode cX10_isSetting 0 = .ok (.iload_n 0, 1) := by decide +kernel
theorem dX10_isSetting_1 : decode cX10_isSetting 1 = .ok (.ifCond .lt 12, 3) := by decide +kernel
theorem dX10_isSetting_4 : decode cX10_isSetting 4 = .ok (.iload_n 0, 1) := by decide +kernel
theorem dX10_isSetting_5 : decode cX10_isSetting 5 = .ok (.iconst 4, 1) := by decide +kernel
theorem dX10_isSetting_6 : decode cX10_isSetting 6 = .ok (.if_icmp .gt 7, 3) := by decide +kernel
theorem dX10_isSetting_9 : decode cX10_isSetting 9 = .ok (.iconst 1, 1) := by decide +kernel
theorem dX10_isSetting_10 : decode cX10_isSetting 10 = .ok (.goto 4, 3) := by decide +kernel
theorem dX10_isSetting_13 : decode cX10_isSetting 13 = .ok (.iconst 0, 1) := by decide +kernel
theorem dX10_isSetting_14 : decode cX10_isSetting 14 = .ok (.ireturn, 1) := by decide +kernel
theorem dX10_checks_0 : decode cX10_checks 0 = .ok (.aload_n 0, 1) := by decide +kernel
theorem dX10_checks_1 : decode cX10_checks 1 = .ok (.iload_n 1, 1) := by decide +kernel
theorem dX10_checks_2 : decode cX10_checks 2 = .ok (.ifCond .eq 7, 3) := by decide +kernel
theorem dX10_checks_5 : decode cX10_checks 5 = .ok (.iconst 0, 1) := by decide +kernel
theorem dX10_checks_6 : decode cX10_checks 6 = .ok (.goto 4, 3) := by decide +kernel
theorem dX10_checks_9 : decode cX10_checks 9 = .ok (.iconst 1, 1) := by decide +kernel
theorem dX10_checks_10 : decode cX10_checks 10 = .ok (.putfield 66, 3) := by decide +kernel
theorem dX10_checks_13 : decode cX10_checks 13 = .ok (.iload_n 1, 1) := by decide +kernel
theorem dX10_checks_14 : decode cX10_checks 14 = .ok (.ireturn, 1) := by decide +kernel
theorem dX10_memberCount_0 : decode cX10_memberCount 0 = .ok (.aload_n 0, 1) := by decide +kernel
theorem dX10_memberCount_1 : decode cX10_memberCount 1 = .ok (.iconst 0, 1) := by decide +kernel
theorem dX10_memberCount_2 : decode cX10_memberCount 2 = .ok (.putfield 66, 3) := by decide +kernel
theorem dX10_memberCount_5 : decode cX10_memberCount 5 = .ok (.aload_n 0, 1) := by decide +kernel
theorem dX10_memberCount_6 : decode cX10_memberCount 6 = .ok (.getfield 13, 3) := by decide +kernel
theorem dX10_memberCount_9 : decode cX10_memberCount 9 = .ok (.bipush 12, 2) := by decide +kernel
theorem dX10_memberCount_11 : decode cX10_memberCount 11 = .ok (.iaload, 1) := by decide +kernel
theorem dX10_memberCount_12 : decode cX10_memberCount 12 = .ok (.ireturn, 1) := by decide +kernel
theorem dX10_departmentCount_0 : decode cX10_departmentCount 0 = .ok (.aload_n 0, 1) := by decide +kernel
theorem dX10_departmentCount_1 : decode cX10_departmentCount 1 = .ok (.iconst 0, 1) := by decide +kernel
theorem dX10_departmentCount_2 : decode cX10_departmentCount 2 = .ok (.putfield 66, 3) := by decide +kernel
theorem dX10_departmentCount_5 : decode cX10_departmentCount 5 = .ok (.aload_n 0, 1) := by decide +kernel
theorem dX10_departmentCount_6 : decode cX10_departmentCount 6 = .ok (.getfield 13, 3) := by decide +kernel
theorem dX10_departmentCount_9 : decode cX10_departmentCount 9 = .ok (.bipush 13, 2) := by decide +kernel
theorem dX10_departmentCount_11 : decode cX10_departmentCount 11 = .ok (.iaload, 1) := by decide +kernel
theorem dX10_departmentCount_12 : decode cX10_departmentCount 12 = .ok (.ireturn, 1) := by decide +kernel
theorem dX10_year_0 : decode cX10_year 0 = .ok (.aload_n 0, 1) := by decide +kernel
theorem dX10_year_1 : decode cX10_year 1 = .ok (.iconst 0, 1) := by decide +kernel
theorem dX10_year_2 : decode cX10_year 2 = .ok (.putfield 66, 3) := by decide +kernel
theorem dX10_year_5 : decode cX10_year 5 = .ok (.aload_n 0, 1) := by decide +kernel
theorem dX10_year_6 : decode cX10_year 6 = .ok (.getfield 19, 3) := by decide +kernel
theorem dX10_year_9 : decode cX10_year 9 = .ok (.sipush 494, 3) := by decide +kernel
theorem dX10_year_12 : decode cX10_year 12 = .ok (.iaload, 1) := by decide +kernel
theorem dX10_year_13 : decode cX10_year 13 = .ok (.ireturn, 1) := by decide +kernel
theorem dX10_undoCount_0 : decode cX10_undoCount 0 = .ok (.aload_n 0, 1) := by decide +kernel
theorem dX10_undoCount_1 : decode cX10_undoCount 1 = .ok (.iconst 0, 1) := by decide +kernel
theorem dX10_undoCount_2 : decode cX10_undoCount 2 = .ok (.putfield 66, 3) := by decide +kernel
theorem dX10_undoCount_5 : decode cX10_undoCount 5 = .ok (.aload_n 0, 1) := by decide +kernel
theorem dX10_undoCount_6 : decode cX10_undoCount 6 = .ok (.getfield 263, 3) := by decide +kernel
theorem dX10_undoCount_9 : decode cX10_undoCount 9 = .ok (.ireturn, 1) := by decide +kernel
theorem dX10_memberNamed_0 : decode cX10_memberNamed 0 = .ok (.aload_n 0, 1) := by decide +kernel
theorem dX10_memberNamed_1 : decode cX10_memberNamed 1 = .ok (.iconst 0, 1) := by decide +kernel
theorem dX10_memberNamed_2 : decode cX10_memberNamed 2 = .ok (.putfield 66, 3) := by decide +kernel
theorem dX10_memberNamed_5 : decode cX10_memberNamed 5 = .ok (.aload_n 0, 1) := by decide +kernel
theorem dX10_memberNamed_6 : decode cX10_memberNamed 6 = .ok (.iconst 0, 1) := by decide +kernel
theorem dX10_memberNamed_7 : decode cX10_memberNamed 7 = .ok (.aload_n 0, 1) := by decide +kernel
theorem dX10_memberNamed_8 : decode cX10_memberNamed 8 = .ok (.getfield 13, 3) := by decide +kernel
theorem dX10_memberNamed_11 : decode cX10_memberNamed 11 = .ok (.bipush 12, 2) := by decide +kernel
theorem dX10_memberNamed_13 : decode cX10_memberNamed 13 = .ok (.iaload, 1) := by decide +kernel
theorem dX10_memberNamed_14 : decode cX10_memberNamed 14 = .ok (.iload_n 1, 1) := by decide +kernel
theorem dX10_memberNamed_15 : decode cX10_memberNamed 15 = .ok (.invokevirtual 205, 3) := by decide +kernel
theorem dX10_memberNamed_18 : decode cX10_memberNamed 18 = .ok (.ireturn, 1) := by decide +kernel
theorem dX10_departmentNamed_0 : decode cX10_departmentNamed 0 = .ok (.aload_n 0, 1) := by decide +kernel
theorem dX10_departmentNamed_1 : decode cX10_departmentNamed 1 = .ok (.iconst 0, 1) := by decide +kernel
theorem dX10_departmentNamed_2 : decode cX10_departmentNamed 2 = .ok (.putfield 66, 3) := by decide +kernel
theorem dX10_departmentNamed_5 : decode cX10_departmentNamed 5 = .ok (.aload_n 0, 1) := by decide +kernel
theorem dX10_departmentNamed_6 : decode cX10_departmentNamed 6 = .ok (.bipush 8, 2) := by decide +kernel
theorem dX10_departmentNamed_8 : decode cX10_departmentNamed 8 = .ok (.aload_n 0, 1) := by decide +kernel
theorem dX10_departmentNamed_9 : decode cX10_departmentNamed 9 = .ok (.getfield 13, 3) := by decide +kernel
theorem dX10_departmentNamed_12 : decode cX10_departmentNamed 12 = .ok (.bipush 13, 2) := by decide +kernel
theorem dX10_departmentNamed_14 : decode cX10_departmentNamed 14 = .ok (.iaload, 1) := by decide +kernel
theorem dX10_departmentNamed_15 : decode cX10_departmentNamed 15 = .ok (.iload_n 1, 1) := by decide +kernel
theorem dX10_departmentNamed_16 : decode cX10_departmentNamed 16 = .ok (.invokevirtual 205, 3) := by decide +kernel
theorem dX10_departmentNamed_19 : decode cX10_departmentNamed 19 = .ok (.ireturn, 1) := by decide +kernel
theorem dX10_getSetting_0 : decode cX10_getSetting 0 = .ok (.aload_n 0, 1) := by decide +kernel
theorem dX10_getSetting_1 : decode cX10_getSetting 1 = .ok (.iconst 0, 1) := by decide +kernel
theorem dX10_getSetting_2 : decode cX10_getSetting 2 = .ok (.putfield 66, 3) := by decide +kernel
theorem dX10_getSetting_5 : decode cX10_getSetting 5 = .ok (.iload_n 1, 1) := by decide +kernel
theorem dX10_getSetting_6 : decode cX10_getSetting 6 = .ok (.invokestatic 266, 3) := by decide +kernel
theorem dX10_getSetting_9 : decode cX10_getSetting 9 = .ok (.ifCond .eq 14, 3) := by decide +kernel
theorem dX10_getSetting_12 : decode cX10_getSetting 12 = .ok (.aload_n 0, 1) := by decide +kernel
theorem dX10_getSetting_13 : decode cX10_getSetting 13 = .ok (.getfield 19, 3) := by decide +kernel
theorem dX10_getSetting_16 : decode cX10_getSetting 16 = .ok (.iconst 0, 1) := by decide +kernel
theorem dX10_getSetting_17 : decode cX10_getSetting 17 = .ok (.iload_n 1, 1) := by decide +kernel
theorem dX10_getSetting_18 : decode cX10_getSetting 18 = .ok (.iadd, 1) := by decide +kernel
theorem dX10_getSetting_19 : decode cX10_getSetting 19 = .ok (.iaload, 1) := by decide +kernel
theorem dX10_getSetting_20 : decode cX10_getSetting 20 = .ok (.goto 5, 3) := by decide +kernel
theorem dX10_getSetting_23 : decode cX10_getSetting 23 = .ok (.bipush (-2), 2) := by decide +kernel
theorem dX10_getSetting_25 : decode cX10_getSetting 25 = .ok (.ireturn, 1) := by decide +kernel
theorem dX10_consents_0 : decode cX10_consents 0 = .ok (.aload_n 0, 1) := by decide +kernel
theorem dX10_consents_1 : decode cX10_consents 1 = .ok (.aload_n 0, 1) := by decide +kernel
theorem dX10_consents_2 : decode cX10_consents 2 = .ok (.iload_n 1, 1) := by decide +kernel
theorem dX10_consents_3 : decode cX10_consents 3 = .ok (.invokevirtual 269, 3) := by decide +kernel
theorem dX10_consents_6 : decode cX10_consents 6 = .ok (.invokevirtual 272, 3) := by decide +kernel
theorem dX10_consents_9 : decode cX10_consents 9 = .ok (.ifCond .eq 20, 3) := by decide +kernel
theorem dX10_consents_12 : decode cX10_consents 12 = .ok (.aload_n 0, 1) := by decide +kernel
theorem dX10_consents_13 : decode cX10_consents 13 = .ok (.getfield 19, 3) := by decide +kernel
theorem dX10_consents_16 : decode cX10_consents 16 = .ok (.bipush 13, 2) := by decide +kernel
theorem dX10_consents_18 : decode cX10_consents 18 = .ok (.iload_n 1, 1) := by decide +kernel
theorem dX10_consents_19 : decode cX10_consents 19 = .ok (.iadd, 1) := by decide +kernel
theorem dX10_consents_20 : decode cX10_consents 20 = .ok (.iaload, 1) := by decide +kernel
theorem dX10_consents_21 : decode cX10_consents 21 = .ok (.iconst 1, 1) := by decide +kernel
theorem dX10_consents_22 : decode cX10_consents 22 = .ok (.if_icmp .ne 7, 3) := by decide +kernel
theorem dX10_consents_25 : decode cX10_consents 25 = .ok (.iconst 1, 1) := by decide +kernel
theorem dX10_consents_26 : decode cX10_consents 26 = .ok (.goto 4, 3) := by decide +kernel
theorem dX10_consents_29 : decode cX10_consents 29 = .ok (.iconst 0, 1) := by decide +kernel
theorem dX10_consents_30 : decode cX10_consents 30 = .ok (.ireturn, 1) := by decide +kernel
theorem dX10_stateOf_0 : decode cX10_stateOf 0 = .ok (.aload_n 0, 1) := by decide +kernel
theorem dX10_stateOf_1 : decode cX10_stateOf 1 = .ok (.aload_n 0, 1) := by decide +kernel
theorem dX10_stateOf_2 : decode cX10_stateOf 2 = .ok (.iload_n 1, 1) := by decide +kernel
theorem dX10_stateOf_3 : decode cX10_stateOf 3 = .ok (.invokevirtual 269, 3) := by decide +kernel
theorem dX10_stateOf_6 : decode cX10_stateOf 6 = .ok (.invokevirtual 272, 3) := by decide +kernel
theorem dX10_stateOf_9 : decode cX10_stateOf 9 = .ok (.ifCond .eq 14, 3) := by decide +kernel
theorem dX10_stateOf_12 : decode cX10_stateOf 12 = .ok (.aload_n 0, 1) := by decide +kernel
theorem dX10_stateOf_13 : decode cX10_stateOf 13 = .ok (.getfield 19, 3) := by decide +kernel
theorem dX10_stateOf_16 : decode cX10_stateOf 16 = .ok (.iconst 5, 1) := by decide +kernel
theorem dX10_stateOf_17 : decode cX10_stateOf 17 = .ok (.iload_n 1, 1) := by decide +kernel
theorem dX10_stateOf_18 : decode cX10_stateOf 18 = .ok (.iadd, 1) := by decide +kernel
theorem dX10_stateOf_19 : decode cX10_stateOf 19 = .ok (.iaload, 1) := by decide +kernel
theorem dX10_stateOf_20 : decode cX10_stateOf 20 = .ok (.goto 4, 3) := by decide +kernel
theorem dX10_stateOf_23 : decode cX10_stateOf 23 = .ok (.iconst 0, 1) := by decide +kernel
theorem dX10_stateOf_24 : decode cX10_stateOf 24 = .ok (.ireturn, 1) := by decide +kernel
theorem dX10_patronage_0 : decode cX10_patronage 0 = .ok (.aload_n 0, 1) := by decide +kernel
theorem dX10_patronage_1 : decode cX10_patronage 1 = .ok (.aload_n 0, 1) := by decide +kernel
theorem dX10_patronage_2 : decode cX10_patronage 2 = .ok (.iload_n 1, 1) := by decide +kernel
theorem dX10_patronage_3 : decode cX10_patronage 3 = .ok (.invokevirtual 269, 3) := by decide +kernel
theorem dX10_patronage_6 : decode cX10_patronage 6 = .ok (.ifCond .eq 15, 3) := by decide +kernel
theorem dX10_patronage_9 : decode cX10_patronage 9 = .ok (.aload_n 0, 1) := by decide +kernel
theorem dX10_patronage_10 : decode cX10_patronage 10 = .ok (.iload_n 2, 1) := by decide +kernel
theorem dX10_patronage_11 : decode cX10_patronage 11 = .ok (.invokevirtual 276, 3) := by decide +kernel
theorem dX10_patronage_14 : decode cX10_patronage 14 = .ok (.ifCond .eq 7, 3) := by decide +kernel
theorem dX10_patronage_17 : decode cX10_patronage 17 = .ok (.iconst 1, 1) := by decide +kernel
theorem dX10_patronage_18 : decode cX10_patronage 18 = .ok (.goto 4, 3) := by decide +kernel
theorem dX10_patronage_21 : decode cX10_patronage 21 = .ok (.iconst 0, 1) := by decide +kernel
theorem dX10_patronage_22 : decode cX10_patronage 22 = .ok (.invokevirtual 272, 3) := by decide +kernel
theorem dX10_patronage_25 : decode cX10_patronage 25 = .ok (.ifCond .eq 19, 3) := by decide +kernel
theorem dX10_patronage_28 : decode cX10_patronage 28 = .ok (.aload_n 0, 1) := by decide +kernel
theorem dX10_patronage_29 : decode cX10_patronage 29 = .ok (.getfield 19, 3) := by decide +kernel
theorem dX10_patronage_32 : decode cX10_patronage 32 = .ok (.bipush 29, 2) := by decide +kernel
theorem dX10_patronage_34 : decode cX10_patronage 34 = .ok (.iconst 4, 1) := by decide +kernel
theorem dX10_patronage_35 : decode cX10_patronage 35 = .ok (.iload_n 1, 1) := by decide +kernel
theorem dX10_patronage_36 : decode cX10_patronage 36 = .ok (.imul, 1) := by decide +kernel
theorem dX10_patronage_37 : decode cX10_patronage 37 = .ok (.iadd, 1) := by decide +kernel
theorem dX10_patronage_38 : decode cX10_patronage 38 = .ok (.iload_n 2, 1) := by decide +kernel
theorem dX10_patronage_39 : decode cX10_patronage 39 = .ok (.iadd, 1) := by decide +kernel
theorem dX10_patronage_40 : decode cX10_patronage 40 = .ok (.iaload, 1) := by decide +kernel
theorem dX10_patronage_41 : decode cX10_patronage 41 = .ok (.goto 4, 3) := by decide +kernel
theorem dX10_patronage_44 : decode cX10_patronage 44 = .ok (.iconst 0, 1) := by decide +kernel
theorem dX10_patronage_45 : decode cX10_patronage 45 = .ok (.ireturn, 1) := by decide +kernel
theorem dX10_totalPatronage_0 : decode cX10_totalPatronage 0 = .ok (.aload_n 0, 1) := by decide +kernel
theorem dX10_totalPatronage_1 : decode cX10_totalPatronage 1 = .ok (.aload_n 0, 1) := by decide +kernel
theorem dX10_totalPatronage_2 : decode cX10_totalPatronage 2 = .ok (.iload_n 1, 1) := by decide +kernel
theorem dX10_totalPatronage_3 : decode cX10_totalPatronage 3 = .ok (.invokevirtual 276, 3) := by decide +kernel
theorem dX10_totalPatronage_6 : decode cX10_totalPatronage 6 = .ok (.invokevirtual 272, 3) := by decide +kernel
theorem dX10_totalPatronage_9 : decode cX10_totalPatronage 9 = .ok (.ifCond .eq 11, 3) := by decide +kernel
theorem dX10_totalPatronage_12 : decode cX10_totalPatronage 12 = .ok (.aload_n 0, 1) := by decide +kernel
theorem dX10_totalPatronage_13 : decode cX10_totalPatronage 13 = .ok (.iload_n 1, 1) := by decide +kernel
theorem dX10_totalPatronage_14 : decode cX10_totalPatronage 14 = .ok (.invokevirtual 112, 3) := by decide +kernel
theorem dX10_totalPatronage_17 : decode cX10_totalPatronage 17 = .ok (.goto 4, 3) := by decide +kernel
theorem dX10_totalPatronage_20 : decode cX10_totalPatronage 20 = .ok (.iconst 0, 1) := by decide +kernel
theorem dX10_totalPatronage_21 : decode cX10_totalPatronage 21 = .ok (.ireturn, 1) := by decide +kernel
theorem dX10_certificate_0 : decode cX10_certificate 0 = .ok (.aload_n 0, 1) := by decide +kernel
theorem dX10_certificate_1 : decode cX10_certificate 1 = .ok (.aload_n 0, 1) := by decide +kernel
theorem dX10_certificate_2 : decode cX10_certificate 2 = .ok (.iload_n 1, 1) := by decide +kernel
theorem dX10_certificate_3 : decode cX10_certificate 3 = .ok (.invokevirtual 269, 3) := by decide +kernel
theorem dX10_certificate_6 : decode cX10_certificate 6 = .ok (.invokevirtual 272, 3) := by decide +kernel
theorem dX10_certificate_9 : decode cX10_certificate 9 = .ok (.ifCond .ne 5, 3) := by decide +kernel
theorem dX10_certificate_12 : decode cX10_certificate 12 = .ok (.iconst 0, 1) := by decide +kernel
theorem dX10_certificate_13 : decode cX10_certificate 13 = .ok (.ireturn, 1) := by decide +kernel
theorem dX10_certificate_14 : decode cX10_certificate 14 = .ok (.aload_n 0, 1) := by decide +kernel
theorem dX10_certificate_15 : decode cX10_certificate 15 = .ok (.iload_n 2, 1) := by decide +kernel
theorem dX10_certificate_16 : decode cX10_certificate 16 = .ok (.invokevirtual 279, 3) := by decide +kernel
theorem dX10_certificate_19 : decode cX10_certificate 19 = .ok (.ifCond .eq 12, 3) := by decide +kernel
theorem dX10_certificate_22 : decode cX10_certificate 22 = .ok (.aload_n 0, 1) := by decide +kernel
theorem dX10_certificate_23 : decode cX10_certificate 23 = .ok (.iload_n 1, 1) := by decide +kernel
theorem dX10_certificate_24 : decode cX10_certificate 24 = .ok (.iload_n 2, 1) := by decide +kernel
theorem dX10_certificate_25 : decode cX10_certificate 25 = .ok (.invokevirtual 92, 3) := by decide +kernel
theorem dX10_certificate_28 : decode cX10_certificate 28 = .ok (.goto 5, 3) := by decide +kernel
theorem dX10_certificate_31 : decode cX10_certificate 31 = .ok (.bipush (-2), 2) := by decide +kernel
theorem dX10_certificate_33 : decode cX10_certificate 33 = .ok (.ireturn, 1) := by decide +kernel
theorem dX10_kindOf_0 : decode cX10_kindOf 0 = .ok (.aload_n 0, 1) := by decide +kernel
theorem dX10_kindOf_1 : decode cX10_kindOf 1 = .ok (.aload_n 0, 1) := by decide +kernel
theorem dX10_kindOf_2 : decode cX10_kindOf 2 = .ok (.iload_n 1, 1) := by decide +kernel
theorem dX10_kindOf_3 : decode cX10_kindOf 3 = .ok (.invokevirtual 269, 3) := by decide +kernel
theorem dX10_kindOf_6 : decode cX10_kindOf 6 = .ok (.invokevirtual 272, 3) := by decide +kernel
theorem dX10_kindOf_9 : decode cX10_kindOf 9 = .ok (.ifCond .ne 5, 3) := by decide +kernel
theorem dX10_kindOf_12 : decode cX10_kindOf 12 = .ok (.iconst 0, 1) := by decide +kernel
theorem dX10_kindOf_13 : decode cX10_kindOf 13 = .ok (.ireturn, 1) := by decide +kernel
theorem dX10_kindOf_14 : decode cX10_kindOf 14 = .ok (.aload_n 0, 1) := by decide +kernel
theorem dX10_kindOf_15 : decode cX10_kindOf 15 = .ok (.iload_n 2, 1) := by decide +kernel
theorem dX10_kindOf_16 : decode cX10_kindOf 16 = .ok (.invokevirtual 279, 3) := by decide +kernel
theorem dX10_kindOf_19 : decode cX10_kindOf 19 = .ok (.ifCond .ne 6, 3) := by decide +kernel
theorem dX10_kindOf_22 : decode cX10_kindOf 22 = .ok (.bipush (-2), 2) := by decide +kernel
theorem dX10_kindOf_24 : decode cX10_kindOf 24 = .ok (.ireturn, 1) := by decide +kernel
theorem dX10_kindOf_25 : decode cX10_kindOf 25 = .ok (.aload_n 0, 1) := by decide +kernel
theorem dX10_kindOf_26 : decode cX10_kindOf 26 = .ok (.iload_n 1, 1) := by decide +kernel
theorem dX10_kindOf_27 : decode cX10_kindOf 27 = .ok (.iload_n 2, 1) := by decide +kernel
theorem dX10_kindOf_28 : decode cX10_kindOf 28 = .ok (.invokevirtual 92, 3) := by decide +kernel
theorem dX10_kindOf_31 : decode cX10_kindOf 31 = .ok (.ifCond .ne 7, 3) := by decide +kernel
theorem dX10_kindOf_34 : decode cX10_kindOf 34 = .ok (.iconst (-1), 1) := by decide +kernel
theorem dX10_kindOf_35 : decode cX10_kindOf 35 = .ok (.goto 18, 3) := by decide +kernel
theorem dX10_kindOf_38 : decode cX10_kindOf 38 = .ok (.aload_n 0, 1) := by decide +kernel
theorem dX10_kindOf_39 : decode cX10_kindOf 39 = .ok (.getfield 19, 3) := by decide +kernel
theorem dX10_kindOf_42 : decode cX10_kindOf 42 = .ok (.sipush 253, 3) := by decide +kernel
theorem dX10_kindOf_45 : decode cX10_kindOf 45 = .ok (.bipush 24, 2) := by decide +kernel
theorem dX10_kindOf_47 : decode cX10_kindOf 47 = .ok (.iload_n 1, 1) := by decide +kernel
theorem dX10_kindOf_48 : decode cX10_kindOf 48 = .ok (.imul, 1) := by decide +kernel
theorem dX10_kindOf_49 : decode cX10_kindOf 49 = .ok (.iadd, 1) := by decide +kernel
theorem dX10_kindOf_50 : decode cX10_kindOf 50 = .ok (.iload_n 2, 1) := by decide +kernel
theorem dX10_kindOf_51 : decode cX10_kindOf 51 = .ok (.iadd, 1) := by decide +kernel
theorem dX10_kindOf_52 : decode cX10_kindOf 52 = .ok (.iaload, 1) := by decide +kernel
theorem dX10_kindOf_53 : decode cX10_kindOf 53 = .ok (.ireturn, 1) := by decide +kernel
theorem dX10_equityOf_0 : decode cX10_equityOf 0 = .ok (.aload_n 0, 1) := by decide +kernel
theorem dX10_equityOf_1 : decode cX10_equityOf 1 = .ok (.aload_n 0, 1) := by decide +kernel
theorem dX10_equityOf_2 : decode cX10_equityOf 2 = .ok (.iload_n 1, 1) := by decide +kernel
theorem dX10_equityOf_3 : decode cX10_equityOf 3 = .ok (.invokevirtual 269, 3) := by decide +kernel
theorem dX10_equityOf_6 : decode cX10_equityOf 6 = .ok (.invokevirtual 272, 3) := by decide +kernel
theorem dX10_equityOf_9 : decode cX10_equityOf 9 = .ok (.ifCond .eq 11, 3) := by decide +kernel
theorem dX10_equityOf_12 : decode cX10_equityOf 12 = .ok (.aload_n 0, 1) := by decide +kernel
theorem dX10_equityOf_13 : decode cX10_equityOf 13 = .ok (.iload_n 1, 1) := by decide +kernel
theorem dX10_equityOf_14 : decode cX10_equityOf 14 = .ok (.invokevirtual 106, 3) := by decide +kernel
theorem dX10_equityOf_17 : decode cX10_equityOf 17 = .ok (.goto 4, 3) := by decide +kernel
theorem dX10_equityOf_20 : decode cX10_equityOf 20 = .ok (.iconst 0, 1) := by decide +kernel
theorem dX10_equityOf_21 : decode cX10_equityOf 21 = .ok (.ireturn, 1) := by decide +kernel
theorem dX10_equityOfKind_0 : decode cX10_equityOfKind 0 = .ok (.iconst 0, 1) := by decide +kernel
theorem dX10_equityOfKind_1 : decode cX10_equityOfKind 1 = .ok (.istore_n 3, 1) := by decide +kernel
theorem dX10_equityOfKind_2 : decode cX10_equityOfKind 2 = .ok (.iconst 0, 1) := by decide +kernel
theorem dX10_equityOfKind_3 : decode cX10_equityOfKind 3 = .ok (.istore 4, 2) := by decide +kernel
theorem dX10_equityOfKind_5 : decode cX10_equityOfKind 5 = .ok (.iload 4, 2) := by decide +kernel
theorem dX10_equityOfKind_7 : decode cX10_equityOfKind 7 = .ok (.aload_n 0, 1) := by decide +kernel
theorem dX10_equityOfKind_8 : decode cX10_equityOfKind 8 = .ok (.getfield 19, 3) := by decide +kernel
theorem dX10_equityOfKind_11 : decode cX10_equityOfKind 11 = .ok (.sipush 494, 3) := by decide +kernel
theorem dX10_equityOfKind_14 : decode cX10_equityOfKind 14 = .ok (.iaload, 1) := by decide +kernel
theorem dX10_equityOfKind_15 : decode cX10_equityOfKind 15 = .ok (.if_icmp .ge 43, 3) := by decide +kernel
theorem dX10_equityOfKind_18 : decode cX10_equityOfKind 18 = .ok (.iload_n 3, 1) := by decide +kernel
theorem dX10_equityOfKind_19 : decode cX10_equityOfKind 19 = .ok (.aload_n 0, 1) := by decide +kernel
theorem dX10_equityOfKind_20 : decode cX10_equityOfKind 20 = .ok (.getfield 19, 3) := by decide +kernel
theorem dX10_equityOfKind_23 : decode cX10_equityOfKind 23 = .ok (.sipush 253, 3) := by decide +kernel
theorem dX10_equityOfKind_26 : decode cX10_equityOfKind 26 = .ok (.bipush 24, 2) := by decide +kernel
theorem dX10_equityOfKind_28 : decode cX10_equityOfKind 28 = .ok (.iload_n 1, 1) := by decide +kernel
theorem dX10_equityOfKind_29 : decode cX10_equityOfKind 29 = .ok (.imul, 1) := by decide +kernel
theorem dX10_equityOfKind_30 : decode cX10_equityOfKind 30 = .ok (.iadd, 1) := by decide +kernel
theorem dX10_equityOfKind_31 : decode cX10_equityOfKind 31 = .ok (.iload 4, 2) := by decide +kernel
theorem dX10_equityOfKind_33 : decode cX10_equityOfKind 33 = .ok (.iadd, 1) := by decide +kernel
theorem dX10_equityOfKind_34 : decode cX10_equityOfKind 34 = .ok (.iaload, 1) := by decide +kernel
theorem dX10_equityOfKind_35 : decode cX10_equityOfKind 35 = .ok (.iload_n 2, 1) := by decide +kernel
theorem dX10_equityOfKind_36 : decode cX10_equityOfKind 36 = .ok (.if_icmp .ne 13, 3) := by decide +kernel
theorem dX10_equityOfKind_39 : decode cX10_equityOfKind 39 = .ok (.aload_n 0, 1) := by decide +kernel
theorem dX10_equityOfKind_40 : decode cX10_equityOfKind 40 = .ok (.iload_n 1, 1) := by decide +kernel
theorem dX10_equityOfKind_41 : decode cX10_equityOfKind 41 = .ok (.iload 4, 2) := by decide +kernel
theorem dX10_equityOfKind_43 : decode cX10_equityOfKind 43 = .ok (.invokevirtual 92, 3) := by decide +kernel
theorem dX10_equityOfKind_46 : decode cX10_equityOfKind 46 = .ok (.goto 4, 3) := by decide +kernel
theorem dX10_equityOfKind_49 : decode cX10_equityOfKind 49 = .ok (.iconst 0, 1) := by decide +kernel
theorem dX10_equityOfKind_50 : decode cX10_equityOfKind 50 = .ok (.iadd, 1) := by decide +kernel
theorem dX10_equityOfKind_51 : decode cX10_equityOfKind 51 = .ok (.istore_n 3, 1) := by decide +kernel
theorem dX10_equityOfKind_52 : decode cX10_equityOfKind 52 = .ok (.iinc 4 1, 3) := by decide +kernel
theorem dX10_equityOfKind_55 : decode cX10_equityOfKind 55 = .ok (.goto (-50), 3) := by decide +kernel
theorem dX10_equityOfKind_58 : decode cX10_equityOfKind 58 = .ok (.iload_n 3, 1) := by decide +kernel
theorem dX10_equityOfKind_59 : decode cX10_equityOfKind 59 = .ok (.ireturn, 1) := by decide +kernel
theorem dX10_equityIn_0 : decode cX10_equityIn 0 = .ok (.aload_n 0, 1) := by decide +kernel
theorem dX10_equityIn_1 : decode cX10_equityIn 1 = .ok (.aload_n 0, 1) := by decide +kernel
theorem dX10_equityIn_2 : decode cX10_equityIn 2 = .ok (.iload_n 1, 1) := by decide +kernel
theorem dX10_equityIn_3 : decode cX10_equityIn 3 = .ok (.invokevirtual 269, 3) := by decide +kernel
theorem dX10_equityIn_6 : decode cX10_equityIn 6 = .ok (.invokevirtual 272, 3) := by decide +kernel
theorem dX10_equityIn_9 : decode cX10_equityIn 9 = .ok (.ifCond .ne 5, 3) := by decide +kernel
theorem dX10_equityIn_12 : decode cX10_equityIn 12 = .ok (.iconst 0, 1) := by decide +kernel
theorem dX10_equityIn_13 : decode cX10_equityIn 13 = .ok (.ireturn, 1) := by decide +kernel
theorem dX10_equityIn_14 : decode cX10_equityIn 14 = .ok (.iload_n 2, 1) := by decide +kernel
theorem dX10_equityIn_15 : decode cX10_equityIn 15 = .ok (.ifCond .eq 8, 3) := by decide +kernel
theorem dX10_equityIn_18 : decode cX10_equityIn 18 = .ok (.iload_n 2, 1) := by decide +kernel
theorem dX10_equityIn_19 : decode cX10_equityIn 19 = .ok (.iconst 1, 1) := by decide +kernel
theorem dX10_equityIn_20 : decode cX10_equityIn 20 = .ok (.if_icmp .ne 12, 3) := by decide +kernel
theorem dX10_equityIn_23 : decode cX10_equityIn 23 = .ok (.aload_n 0, 1) := by decide +kernel
theorem dX10_equityIn_24 : decode cX10_equityIn 24 = .ok (.iload_n 1, 1) := by decide +kernel
theorem dX10_equityIn_25 : decode cX10_equityIn 25 = .ok (.iload_n 2, 1) := by decide +kernel
theorem dX10_equityIn_26 : decode cX10_equityIn 26 = .ok (.invokevirtual 282, 3) := by decide +kernel
theorem dX10_equityIn_29 : decode cX10_equityIn 29 = .ok (.goto 5, 3) := by decide +kernel
theorem dX10_equityIn_32 : decode cX10_equityIn 32 = .ok (.bipush (-2), 2) := by decide +kernel
theorem dX10_equityIn_34 : decode cX10_equityIn 34 = .ok (.ireturn, 1) := by decide +kernel
theorem dX10_totalEquity_0 : decode cX10_totalEquity 0 = .ok (.aload_n 0, 1) := by decide +kernel
theorem dX10_totalEquity_1 : decode cX10_totalEquity 1 = .ok (.iconst 0, 1) := by decide +kernel
theorem dX10_totalEquity_2 : decode cX10_totalEquity 2 = .ok (.putfield 66, 3) := by decide +kernel
theorem dX10_totalEquity_5 : decode cX10_totalEquity 5 = .ok (.iconst 0, 1) := by decide +kernel
theorem dX10_totalEquity_6 : decode cX10_totalEquity 6 = .ok (.istore_n 1, 1) := by decide +kernel
theorem dX10_totalEquity_7 : decode cX10_totalEquity 7 = .ok (.iconst 0, 1) := by decide +kernel
theorem dX10_totalEquity_8 : decode cX10_totalEquity 8 = .ok (.istore_n 2, 1) := by decide +kernel
theorem dX10_totalEquity_9 : decode cX10_totalEquity 9 = .ok (.iload_n 2, 1) := by decide +kernel
theorem dX10_totalEquity_10 : decode cX10_totalEquity 10 = .ok (.aload_n 0, 1) := by decide +kernel
theorem dX10_totalEquity_11 : decode cX10_totalEquity 11 = .ok (.getfield 13, 3) := by decide +kernel
theorem dX10_totalEquity_14 : decode cX10_totalEquity 14 = .ok (.bipush 12, 2) := by decide +kernel
theorem dX10_totalEquity_16 : decode cX10_totalEquity 16 = .ok (.iaload, 1) := by decide +kernel
theorem dX10_totalEquity_17 : decode cX10_totalEquity 17 = .ok (.if_icmp .ge 17, 3) := by decide +kernel
theorem dX10_totalEquity_20 : decode cX10_totalEquity 20 = .ok (.iload_n 1, 1) := by decide +kernel
theorem dX10_totalEquity_21 : decode cX10_totalEquity 21 = .ok (.aload_n 0, 1) := by decide +kernel
theorem dX10_totalEquity_22 : decode cX10_totalEquity 22 = .ok (.iload_n 2, 1) := by decide +kernel
theorem dX10_totalEquity_23 : decode cX10_totalEquity 23 = .ok (.invokevirtual 106, 3) := by decide +kernel
theorem dX10_totalEquity_26 : decode cX10_totalEquity 26 = .ok (.iadd, 1) := by decide +kernel
theorem dX10_totalEquity_27 : decode cX10_totalEquity 27 = .ok (.istore_n 1, 1) := by decide +kernel
theorem dX10_totalEquity_28 : decode cX10_totalEquity 28 = .ok (.iinc 2 1, 3) := by decide +kernel
theorem dX10_totalEquity_31 : decode cX10_totalEquity 31 = .ok (.goto (-22), 3) := by decide +kernel
theorem dX10_totalEquity_34 : decode cX10_totalEquity 34 = .ok (.iload_n 1, 1) := by decide +kernel
theorem dX10_totalEquity_35 : decode cX10_totalEquity 35 = .ok (.ireturn, 1) := by decide +kernel
theorem dX10_reserve_0 : decode cX10_reserve 0 = .ok (.aload_n 0, 1) := by decide +kernel
theorem dX10_reserve_1 : decode cX10_reserve 1 = .ok (.iconst 0, 1) := by decide +kernel
theorem dX10_reserve_2 : decode cX10_reserve 2 = .ok (.putfield 66, 3) := by decide +kernel
theorem dX10_reserve_5 : decode cX10_reserve 5 = .ok (.aload_n 0, 1) := by decide +kernel
theorem dX10_reserve_6 : decode cX10_reserve 6 = .ok (.getfield 19, 3) := by decide +kernel
theorem dX10_reserve_9 : decode cX10_reserve 9 = .ok (.sipush 493, 3) := by decide +kernel
theorem dX10_reserve_12 : decode cX10_reserve 12 = .ok (.iaload, 1) := by decide +kernel
theorem dX10_reserve_13 : decode cX10_reserve 13 = .ok (.ireturn, 1) := by decide +kernel
theorem dX10_paidTo_0 : decode cX10_paidTo 0 = .ok (.aload_n 0, 1) := by decide +kernel
theorem dX10_paidTo_1 : decode cX10_paidTo 1 = .ok (.aload_n 0, 1) := by decide +kernel
theorem dX10_paidTo_2 : decode cX10_paidTo 2 = .ok (.iload_n 1, 1) := by decide +kernel
theorem dX10_paidTo_3 : decode cX10_paidTo 3 = .ok (.invokevirtual 269, 3) := by decide +kernel
theorem dX10_paidTo_6 : decode cX10_paidTo 6 = .ok (.invokevirtual 272, 3) := by decide +kernel
theorem dX10_paidTo_9 : decode cX10_paidTo 9 = .ok (.ifCond .ne 5, 3) := by decide +kernel
theorem dX10_paidTo_12 : decode cX10_paidTo 12 = .ok (.iconst 0, 1) := by decide +kernel
theorem dX10_paidTo_13 : decode cX10_paidTo 13 = .ok (.ireturn, 1) := by decide +kernel
theorem dX10_paidTo_14 : decode cX10_paidTo 14 = .ok (.iload_n 2, 1) := by decide +kernel
theorem dX10_paidTo_15 : decode cX10_paidTo 15 = .ok (.ifCond .lt 25, 3) := by decide +kernel
theorem dX10_paidTo_18 : decode cX10_paidTo 18 = .ok (.iload_n 2, 1) := by decide +kernel
theorem dX10_paidTo_19 : decode cX10_paidTo 19 = .ok (.iconst 2, 1) := by decide +kernel
theorem dX10_paidTo_20 : decode cX10_paidTo 20 = .ok (.if_icmp .gt 20, 3) := by decide +kernel
theorem dX10_paidTo_23 : decode cX10_paidTo 23 = .ok (.aload_n 0, 1) := by decide +kernel
theorem dX10_paidTo_24 : decode cX10_paidTo 24 = .ok (.getfield 19, 3) := by decide +kernel
theorem dX10_paidTo_27 : decode cX10_paidTo 27 = .ok (.sipush 445, 3) := by decide +kernel
theorem dX10_paidTo_30 : decode cX10_paidTo 30 = .ok (.iconst 3, 1) := by decide +kernel
theorem dX10_paidTo_31 : decode cX10_paidTo 31 = .ok (.iload_n 1, 1) := by decide +kernel
theorem dX10_paidTo_32 : decode cX10_paidTo 32 = .ok (.imul, 1) := by decide +kernel
theorem dX10_paidTo_33 : decode cX10_paidTo 33 = .ok (.iadd, 1) := by decide +kernel
theorem dX10_paidTo_34 : decode cX10_paidTo 34 = .ok (.iload_n 2, 1) := by decide +kernel
theorem dX10_paidTo_35 : decode cX10_paidTo 35 = .ok (.iadd, 1) := by decide +kernel
theorem dX10_paidTo_36 : decode cX10_paidTo 36 = .ok (.iaload, 1) := by decide +kernel
theorem dX10_paidTo_37 : decode cX10_paidTo 37 = .ok (.goto 5, 3) := by decide +kernel
theorem dX10_paidTo_40 : decode cX10_paidTo 40 = .ok (.bipush (-2), 2) := by decide +kernel
theorem dX10_paidTo_42 : decode cX10_paidTo 42 = .ok (.ireturn, 1) := by decide +kernel
theorem dX10_lastAllocation_0 : decode cX10_lastAllocation 0 = .ok (.aload_n 0, 1) := by decide +kernel
theorem dX10_lastAllocation_1 : decode cX10_lastAllocation 1 = .ok (.aload_n 0, 1) := by decide +kernel
theorem dX10_lastAllocation_2 : decode cX10_lastAllocation 2 = .ok (.iload_n 1, 1) := by decide +kernel
theorem dX10_lastAllocation_3 : decode cX10_lastAllocation 3 = .ok (.invokevirtual 269, 3) := by decide +kernel
theorem dX10_lastAllocation_6 : decode cX10_lastAllocation 6 = .ok (.invokevirtual 272, 3) := by decide +kernel
theorem dX10_lastAllocation_9 : decode cX10_lastAllocation 9 = .ok (.ifCond .eq 16, 3) := by decide +kernel
theorem dX10_lastAllocation_12 : decode cX10_lastAllocation 12 = .ok (.aload_n 0, 1) := by decide +kernel
theorem dX10_lastAllocation_13 : decode cX10_lastAllocation 13 = .ok (.getfield 19, 3) := by decide +kernel
theorem dX10_lastAllocation_16 : decode cX10_lastAllocation 16 = .ok (.sipush 469, 3) := by decide +kernel
theorem dX10_lastAllocation_19 : decode cX10_lastAllocation 19 = .ok (.iload_n 1, 1) := by decide +kernel
theorem dX10_lastAllocation_20 : decode cX10_lastAllocation 20 = .ok (.iadd, 1) := by decide +kernel
theorem dX10_lastAllocation_21 : decode cX10_lastAllocation 21 = .ok (.iaload, 1) := by decide +kernel
theorem dX10_lastAllocation_22 : decode cX10_lastAllocation 22 = .ok (.goto 4, 3) := by decide +kernel
theorem dX10_lastAllocation_25 : decode cX10_lastAllocation 25 = .ok (.iconst 0, 1) := by decide +kernel
theorem dX10_lastAllocation_26 : decode cX10_lastAllocation 26 = .ok (.ireturn, 1) := by decide +kernel
theorem dX10_lastRecapture_0 : decode cX10_lastRecapture 0 = .ok (.aload_n 0, 1) := by decide +kernel
theorem dX10_lastRecapture_1 : decode cX10_lastRecapture 1 = .ok (.aload_n 0, 1) := by decide +kernel
theorem dX10_lastRecapture_2 : decode cX10_lastRecapture 2 = .ok (.iload_n 1, 1) := by decide +kernel
theorem dX10_lastRecapture_3 : decode cX10_lastRecapture 3 = .ok (.invokevirtual 269, 3) := by decide +kernel
theorem dX10_lastRecapture_6 : decode cX10_lastRecapture 6 = .ok (.invokevirtual 272, 3) := by decide +kernel
theorem dX10_lastRecapture_9 : decode cX10_lastRecapture 9 = .ok (.ifCond .eq 16, 3) := by decide +kernel
theorem dX10_lastRecapture_12 : decode cX10_lastRecapture 12 = .ok (.aload_n 0, 1) := by decide +kernel
theorem dX10_lastRecapture_13 : decode cX10_lastRecapture 13 = .ok (.getfield 19, 3) := by decide +kernel
theorem dX10_lastRecapture_16 : decode cX10_lastRecapture 16 = .ok (.sipush 477, 3) := by decide +kernel
theorem dX10_lastRecapture_19 : decode cX10_lastRecapture 19 = .ok (.iload_n 1, 1) := by decide +kernel
theorem dX10_lastRecapture_20 : decode cX10_lastRecapture 20 = .ok (.iadd, 1) := by decide +kernel
theorem dX10_lastRecapture_21 : decode cX10_lastRecapture 21 = .ok (.iaload, 1) := by decide +kernel
theorem dX10_lastRecapture_22 : decode cX10_lastRecapture 22 = .ok (.goto 4, 3) := by decide +kernel
theorem dX10_lastRecapture_25 : decode cX10_lastRecapture 25 = .ok (.iconst 0, 1) := by decide +kernel
theorem dX10_lastRecapture_26 : decode cX10_lastRecapture 26 = .ok (.ireturn, 1) := by decide +kernel
theorem dX10_rate_0 : decode cX10_rate 0 = .ok (.aload_n 0, 1) := by decide +kernel
theorem dX10_rate_1 : decode cX10_rate 1 = .ok (.getfield 19, 3) := by decide +kernel
theorem dX10_rate_4 : decode cX10_rate 4 = .ok (.sipush 489, 3) := by decide +kernel
theorem dX10_rate_7 : decode cX10_rate 7 = .ok (.iload_n 1, 1) := by decide +kernel
theorem dX10_rate_8 : decode cX10_rate 8 = .ok (.iadd, 1) := by decide +kernel
theorem dX10_rate_9 : decode cX10_rate 9 = .ok (.iaload, 1) := by decide +kernel
theorem dX10_rate_10 : decode cX10_rate 10 = .ok (.ifCond .ne 7, 3) := by decide +kernel
theorem dX10_rate_13 : decode cX10_rate 13 = .ok (.fconst 0, 1) := by decide +kernel
theorem dX10_rate_14 : decode cX10_rate 14 = .ok (.goto 26, 3) := by decide +kernel
theorem dX10_rate_17 : decode cX10_rate 17 = .ok (.aload_n 0, 1) := by decide +kernel
theorem dX10_rate_18 : decode cX10_rate 18 = .ok (.getfield 19, 3) := by decide +kernel
theorem dX10_rate_21 : decode cX10_rate 21 = .ok (.sipush 485, 3) := by decide +kernel
theorem dX10_rate_24 : decode cX10_rate 24 = .ok (.iload_n 1, 1) := by decide +kernel
theorem dX10_rate_25 : decode cX10_rate 25 = .ok (.iadd, 1) := by decide +kernel
theorem dX10_rate_26 : decode cX10_rate 26 = .ok (.iaload, 1) := by decide +kernel
theorem dX10_rate_27 : decode cX10_rate 27 = .ok (.i2f, 1) := by decide +kernel
theorem dX10_rate_28 : decode cX10_rate 28 = .ok (.aload_n 0, 1) := by decide +kernel
theorem dX10_rate_29 : decode cX10_rate 29 = .ok (.getfield 19, 3) := by decide +kernel
theorem dX10_rate_32 : decode cX10_rate 32 = .ok (.sipush 489, 3) := by decide +kernel
theorem dX10_rate_35 : decode cX10_rate 35 = .ok (.iload_n 1, 1) := by decide +kernel
theorem dX10_rate_36 : decode cX10_rate 36 = .ok (.iadd, 1) := by decide +kernel
theorem dX10_rate_37 : decode cX10_rate 37 = .ok (.iaload, 1) := by decide +kernel
theorem dX10_rate_38 : decode cX10_rate 38 = .ok (.i2f, 1) := by decide +kernel
theorem dX10_rate_39 : decode cX10_rate 39 = .ok (.fdiv, 1) := by decide +kernel
theorem dX10_rate_40 : decode cX10_rate 40 = .ok (.freturn, 1) := by decide +kernel
theorem dX10_rateOf_0 : decode cX10_rateOf 0 = .ok (.aload_n 0, 1) := by decide +kernel
theorem dX10_rateOf_1 : decode cX10_rateOf 1 = .ok (.aload_n 0, 1) := by decide +kernel
theorem dX10_rateOf_2 : decode cX10_rateOf 2 = .ok (.iload_n 1, 1) := by decide +kernel
theorem dX10_rateOf_3 : decode cX10_rateOf 3 = .ok (.invokevirtual 276, 3) := by decide +kernel
theorem dX10_rateOf_6 : decode cX10_rateOf 6 = .ok (.invokevirtual 272, 3) := by decide +kernel
theorem dX10_rateOf_9 : decode cX10_rateOf 9 = .ok (.ifCond .eq 11, 3) := by decide +kernel
theorem dX10_rateOf_12 : decode cX10_rateOf 12 = .ok (.aload_n 0, 1) := by decide +kernel
theorem dX10_rateOf_13 : decode cX10_rateOf 13 = .ok (.iload_n 1, 1) := by decide +kernel
theorem dX10_rateOf_14 : decode cX10_rateOf 14 = .ok (.invokevirtual 285, 3) := by decide +kernel
theorem dX10_rateOf_17 : decode cX10_rateOf 17 = .ok (.goto 4, 3) := by decide +kernel
theorem dX10_rateOf_20 : decode cX10_rateOf 20 = .ok (.fconst 0, 1) := by decide +kernel
theorem dX10_rateOf_21 : decode cX10_rateOf 21 = .ok (.freturn, 1) := by decide +kernel
theorem dX10_ratePoints_0 : decode cX10_ratePoints 0 = .ok (.aload_n 0, 1) := by decide +kernel
theorem dX10_ratePoints_1 : decode cX10_ratePoints 1 = .ok (.aload_n 0, 1) := by decide +kernel
theorem dX10_ratePoints_2 : decode cX10_ratePoints 2 = .ok (.iload_n 1, 1) := by decide +kernel
theorem dX10_ratePoints_3 : decode cX10_ratePoints 3 = .ok (.invokevirtual 276, 3) := by decide +kernel
theorem dX10_ratePoints_6 : decode cX10_ratePoints 6 = .ok (.invokevirtual 272, 3) := by decide +kernel
theorem dX10_ratePoints_9 : decode cX10_ratePoints 9 = .ok (.ifCond .eq 16, 3) := by decide +kernel
theorem dX10_ratePoints_12 : decode cX10_ratePoints 12 = .ok (.aload_n 0, 1) := by decide +kernel
theorem dX10_ratePoints_13 : decode cX10_ratePoints 13 = .ok (.iload_n 1, 1) := by decide +kernel
theorem dX10_ratePoints_14 : decode cX10_ratePoints 14 = .ok (.invokevirtual 285, 3) := by decide +kernel
theorem dX10_ratePoints_17 : decode cX10_ratePoints 17 = .ok (.ldc_w 289, 3) := by decide +kernel
theorem dX10_ratePoints_20 : decode cX10_ratePoints 20 = .ok (.fmul, 1) := by decide +kernel
theorem dX10_ratePoints_21 : decode cX10_ratePoints 21 = .ok (.f2i, 1) := by decide +kernel
theorem dX10_ratePoints_22 : decode cX10_ratePoints 22 = .ok (.goto 4, 3) := by decide +kernel
theorem dX10_ratePoints_25 : decode cX10_ratePoints 25 = .ok (.iconst 0, 1) := by decide +kernel
theorem dX10_ratePoints_26 : decode cX10_ratePoints 26 = .ok (.ireturn, 1) := by decide +kernel
theorem dX10_meanAge_0 : decode cX10_meanAge 0 = .ok (.aload_n 0, 1) := by decide +kernel
theorem dX10_meanAge_1 : decode cX10_meanAge 1 = .ok (.aload_n 0, 1) := by decide +kernel
theorem dX10_meanAge_2 : decode cX10_meanAge 2 = .ok (.iload_n 1, 1) := by decide +kernel
theorem dX10_meanAge_3 : decode cX10_meanAge 3 = .ok (.invokevirtual 269, 3) := by decide +kernel
theorem dX10_meanAge_6 : decode cX10_meanAge 6 = .ok (.invokevirtual 272, 3) := by decide +kernel
theorem dX10_meanAge_9 : decode cX10_meanAge 9 = .ok (.ifCond .ne 5, 3) := by decide +kernel
theorem dX10_meanAge_12 : decode cX10_meanAge 12 = .ok (.dconst 0, 1) := by decide +kernel
theorem dX10_meanAge_13 : decode cX10_meanAge 13 = .ok (.dreturn, 1) := by decide +kernel
theorem dX10_meanAge_14 : decode cX10_meanAge 14 = .ok (.lconst 0, 1) := by decide +kernel
theorem dX10_meanAge_15 : decode cX10_meanAge 15 = .ok (.lstore_n 2, 1) := by decide +kernel
theorem dX10_meanAge_16 : decode cX10_meanAge 16 = .ok (.iconst 0, 1) := by decide +kernel
theorem dX10_meanAge_17 : decode cX10_meanAge 17 = .ok (.istore 4, 2) := by decide +kernel
theorem dX10_meanAge_19 : decode cX10_meanAge 19 = .ok (.iload 4, 2) := by decide +kernel
theorem dX10_meanAge_21 : decode cX10_meanAge 21 = .ok (.aload_n 0, 1) := by decide +kernel
theorem dX10_meanAge_22 : decode cX10_meanAge 22 = .ok (.getfield 19, 3) := by decide +kernel
theorem dX10_meanAge_25 : decode cX10_meanAge 25 = .ok (.sipush 494, 3) := by decide +kernel
theorem dX10_meanAge_28 : decode cX10_meanAge 28 = .ok (.iaload, 1) := by decide +kernel
theorem dX10_meanAge_29 : decode cX10_meanAge 29 = .ok (.if_icmp .ge 33, 3) := by decide +kernel
theorem dX10_meanAge_32 : decode cX10_meanAge 32 = .ok (.lload_n 2, 1) := by decide +kernel
theorem dX10_meanAge_33 : decode cX10_meanAge 33 = .ok (.aload_n 0, 1) := by decide +kernel
theorem dX10_meanAge_34 : decode cX10_meanAge 34 = .ok (.iload_n 1, 1) := by decide +kernel
theorem dX10_meanAge_35 : decode cX10_meanAge 35 = .ok (.iload 4, 2) := by decide +kernel
theorem dX10_meanAge_37 : decode cX10_meanAge 37 = .ok (.invokevirtual 92, 3) := by decide +kernel
theorem dX10_meanAge_40 : decode cX10_meanAge 40 = .ok (.i2l, 1) := by decide +kernel
theorem dX10_meanAge_41 : decode cX10_meanAge 41 = .ok (.aload_n 0, 1) := by decide +kernel
theorem dX10_meanAge_42 : decode cX10_meanAge 42 = .ok (.getfield 19, 3) := by decide +kernel
theorem dX10_meanAge_45 : decode cX10_meanAge 45 = .ok (.sipush 494, 3) := by decide +kernel
theorem dX10_meanAge_48 : decode cX10_meanAge 48 = .ok (.iaload, 1) := by decide +kernel
theorem dX10_meanAge_49 : decode cX10_meanAge 49 = .ok (.iload 4, 2) := by decide +kernel
theorem dX10_meanAge_51 : decode cX10_meanAge 51 = .ok (.isub, 1) := by decide +kernel
theorem dX10_meanAge_52 : decode cX10_meanAge 52 = .ok (.i2l, 1) := by decide +kernel
theorem dX10_meanAge_53 : decode cX10_meanAge 53 = .ok (.lmul, 1) := by decide +kernel
theorem dX10_meanAge_54 : decode cX10_meanAge 54 = .ok (.ladd, 1) := by decide +kernel
theorem dX10_meanAge_55 : decode cX10_meanAge 55 = .ok (.lstore_n 2, 1) := by decide +kernel
theorem dX10_meanAge_56 : decode cX10_meanAge 56 = .ok (.iinc 4 1, 3) := by decide +kernel
theorem dX10_meanAge_59 : decode cX10_meanAge 59 = .ok (.goto (-40), 3) := by decide +kernel
theorem dX10_meanAge_62 : decode cX10_meanAge 62 = .ok (.aload_n 0, 1) := by decide +kernel
theorem dX10_meanAge_63 : decode cX10_meanAge 63 = .ok (.iload_n 1, 1) := by decide +kernel
theorem dX10_meanAge_64 : decode cX10_meanAge 64 = .ok (.invokevirtual 106, 3) := by decide +kernel
theorem dX10_meanAge_67 : decode cX10_meanAge 67 = .ok (.istore 4, 2) := by decide +kernel
theorem dX10_meanAge_69 : decode cX10_meanAge 69 = .ok (.iload 4, 2) := by decide +kernel
theorem dX10_meanAge_71 : decode cX10_meanAge 71 = .ok (.ifCond .ne 9, 3) := by decide +kernel
theorem dX10_meanAge_74 : decode cX10_meanAge 74 = .ok (.ldc2_w 292, 3) := by decide +kernel
theorem dX10_meanAge_77 : decode cX10_meanAge 77 = .ok (.goto 9, 3) := by decide +kernel
theorem dX10_meanAge_80 : decode cX10_meanAge 80 = .ok (.lload_n 2, 1) := by decide +kernel
theorem dX10_meanAge_81 : decode cX10_meanAge 81 = .ok (.l2d, 1) := by decide +kernel
theorem dX10_meanAge_82 : decode cX10_meanAge 82 = .ok (.iload 4, 2) := by decide +kernel
theorem dX10_meanAge_84 : decode cX10_meanAge 84 = .ok (.i2d, 1) := by decide +kernel
theorem dX10_meanAge_85 : decode cX10_meanAge 85 = .ok (.ddiv, 1) := by decide +kernel
theorem dX10_meanAge_86 : decode cX10_meanAge 86 = .ok (.dreturn, 1) := by decide +kernel
theorem dX10_oldestYear_0 : decode cX10_oldestYear 0 = .ok (.aload_n 0, 1) := by decide +kernel
theorem dX10_oldestYear_1 : decode cX10_oldestYear 1 = .ok (.aload_n 0, 1) := by decide +kernel
theorem dX10_oldestYear_2 : decode cX10_oldestYear 2 = .ok (.iload_n 1, 1) := by decide +kernel
theorem dX10_oldestYear_3 : decode cX10_oldestYear 3 = .ok (.invokevirtual 269, 3) := by decide +kernel
theorem dX10_oldestYear_6 : decode cX10_oldestYear 6 = .ok (.invokevirtual 272, 3) := by decide +kernel
theorem dX10_oldestYear_9 : decode cX10_oldestYear 9 = .ok (.ifCond .ne 5, 3) := by decide +kernel
theorem dX10_oldestYear_12 : decode cX10_oldestYear 12 = .ok (.iconst 0, 1) := by decide +kernel
theorem dX10_oldestYear_13 : decode cX10_oldestYear 13 = .ok (.ireturn, 1) := by decide +kernel
theorem dX10_oldestYear_14 : decode cX10_oldestYear 14 = .ok (.iconst 0, 1) := by decide +kernel
theorem dX10_oldestYear_15 : decode cX10_oldestYear 15 = .ok (.istore_n 2, 1) := by decide +kernel
theorem dX10_oldestYear_16 : decode cX10_oldestYear 16 = .ok (.iload_n 2, 1) := by decide +kernel
theorem dX10_oldestYear_17 : decode cX10_oldestYear 17 = .ok (.aload_n 0, 1) := by decide +kernel
theorem dX10_oldestYear_18 : decode cX10_oldestYear 18 = .ok (.getfield 19, 3) := by decide +kernel
theorem dX10_oldestYear_21 : decode cX10_oldestYear 21 = .ok (.sipush 494, 3) := by decide +kernel
theorem dX10_oldestYear_24 : decode cX10_oldestYear 24 = .ok (.iaload, 1) := by decide +kernel
theorem dX10_oldestYear_25 : decode cX10_oldestYear 25 = .ok (.if_icmp .ge 20, 3) := by decide +kernel
theorem dX10_oldestYear_28 : decode cX10_oldestYear 28 = .ok (.aload_n 0, 1) := by decide +kernel
theorem dX10_oldestYear_29 : decode cX10_oldestYear 29 = .ok (.iload_n 1, 1) := by decide +kernel
theorem dX10_oldestYear_30 : decode cX10_oldestYear 30 = .ok (.iload_n 2, 1) := by decide +kernel
theorem dX10_oldestYear_31 : decode cX10_oldestYear 31 = .ok (.invokevirtual 92, 3) := by decide +kernel
theorem dX10_oldestYear_34 : decode cX10_oldestYear 34 = .ok (.ifCond .le 5, 3) := by decide +kernel
theorem dX10_oldestYear_37 : decode cX10_oldestYear 37 = .ok (.iload_n 2, 1) := by decide +kernel
theorem dX10_oldestYear_38 : decode cX10_oldestYear 38 = .ok (.ireturn, 1) := by decide +kernel
theorem dX10_oldestYear_39 : decode cX10_oldestYear 39 = .ok (.iinc 2 1, 3) := by decide +kernel
theorem dX10_oldestYear_42 : decode cX10_oldestYear 42 = .ok (.goto (-26), 3) := by decide +kernel
theorem dX10_oldestYear_45 : decode cX10_oldestYear 45 = .ok (.iconst (-1), 1) := by decide +kernel
theorem dX10_oldestYear_46 : decode cX10_oldestYear 46 = .ok (.ireturn, 1) := by decide +kernel
theorem dX10_isUniform_0 : decode cX10_isUniform 0 = .ok (.aload_n 0, 1) := by decide +kernel
theorem dX10_isUniform_1 : decode cX10_isUniform 1 = .ok (.aload_n 0, 1) := by decide +kernel
theorem dX10_isUniform_2 : decode cX10_isUniform 2 = .ok (.iload_n 1, 1) := by decide +kernel
theorem dX10_isUniform_3 : decode cX10_isUniform 3 = .ok (.invokevirtual 269, 3) := by decide +kernel
theorem dX10_isUniform_6 : decode cX10_isUniform 6 = .ok (.invokevirtual 272, 3) := by decide +kernel
theorem dX10_isUniform_9 : decode cX10_isUniform 9 = .ok (.ifCond .eq 25, 3) := by decide +kernel
theorem dX10_isUniform_12 : decode cX10_isUniform 12 = .ok (.aload_n 0, 1) := by decide +kernel
theorem dX10_isUniform_13 : decode cX10_isUniform 13 = .ok (.iload_n 1, 1) := by decide +kernel
theorem dX10_isUniform_14 : decode cX10_isUniform 14 = .ok (.iconst 0, 1) := by decide +kernel
theorem dX10_isUniform_15 : decode cX10_isUniform 15 = .ok (.invokevirtual 282, 3) := by decide +kernel
theorem dX10_isUniform_18 : decode cX10_isUniform 18 = .ok (.ifCond .eq 12, 3) := by decide +kernel
theorem dX10_isUniform_21 : decode cX10_isUniform 21 = .ok (.aload_n 0, 1) := by decide +kernel
theorem dX10_isUniform_22 : decode cX10_isUniform 22 = .ok (.iload_n 1, 1) := by decide +kernel
theorem dX10_isUniform_23 : decode cX10_isUniform 23 = .ok (.iconst 1, 1) := by decide +kernel
theorem dX10_isUniform_24 : decode cX10_isUniform 24 = .ok (.invokevirtual 282, 3) := by decide +kernel
theorem dX10_isUniform_27 : decode cX10_isUniform 27 = .ok (.ifCond .ne 7, 3) := by decide +kernel
theorem dX10_isUniform_30 : decode cX10_isUniform 30 = .ok (.iconst 1, 1) := by decide +kernel
theorem dX10_isUniform_31 : decode cX10_isUniform 31 = .ok (.goto 4, 3) := by decide +kernel
theorem dX10_isUniform_34 : decode cX10_isUniform 34 = .ok (.iconst 0, 1) := by decide +kernel
theorem dX10_isUniform_35 : decode cX10_isUniform 35 = .ok (.ireturn, 1) := by decide +kernel
theorem dX10_wouldGet_0 : decode cX10_wouldGet 0 = .ok (.aload_n 0, 1) := by decide +kernel
theorem dX10_wouldGet_1 : decode cX10_wouldGet 1 = .ok (.aload_n 0, 1) := by decide +kernel
theorem dX10_wouldGet_2 : decode cX10_wouldGet 2 = .ok (.iload_n 1, 1) := by decide +kernel
theorem dX10_wouldGet_3 : decode cX10_wouldGet 3 = .ok (.invokevirtual 269, 3) := by decide +kernel
theorem dX10_wouldGet_6 : decode cX10_wouldGet 6 = .ok (.invokevirtual 272, 3) := by decide +kernel
theorem dX10_wouldGet_9 : decode cX10_wouldGet 9 = .ok (.ifCond .ne 5, 3) := by decide +kernel
theorem dX10_wouldGet_12 : decode cX10_wouldGet 12 = .ok (.iconst 0, 1) := by decide +kernel
theorem dX10_wouldGet_13 : decode cX10_wouldGet 13 = .ok (.ireturn, 1) := by decide +kernel
theorem dX10_wouldGet_14 : decode cX10_wouldGet 14 = .ok (.aload_n 0, 1) := by decide +kernel
theorem dX10_wouldGet_15 : decode cX10_wouldGet 15 = .ok (.iload_n 2, 1) := by decide +kernel
theorem dX10_wouldGet_16 : decode cX10_wouldGet 16 = .ok (.iload_n 3, 1) := by decide +kernel
theorem dX10_wouldGet_17 : decode cX10_wouldGet 17 = .ok (.iload 4, 2) := by decide +kernel
theorem dX10_wouldGet_19 : decode cX10_wouldGet 19 = .ok (.iload 5, 2) := by decide +kernel
theorem dX10_wouldGet_21 : decode cX10_wouldGet 21 = .ok (.invokevirtual 222, 3) := by decide +kernel
theorem dX10_wouldGet_24 : decode cX10_wouldGet 24 = .ok (.aload_n 0, 1) := by decide +kernel
theorem dX10_wouldGet_25 : decode cX10_wouldGet 25 = .ok (.invokevirtual 294, 3) := by decide +kernel
theorem dX10_wouldGet_28 : decode cX10_wouldGet 28 = .ok (.ifCond .ne 7, 3) := by decide +kernel
theorem dX10_wouldGet_31 : decode cX10_wouldGet 31 = .ok (.ldc_w 298, 3) := by decide +kernel
theorem dX10_wouldGet_34 : decode cX10_wouldGet 34 = .ok (.ireturn, 1) := by decide +kernel
theorem dX10_wouldGet_35 : decode cX10_wouldGet 35 = .ok (.aload_n 0, 1) := by decide +kernel
theorem dX10_wouldGet_36 : decode cX10_wouldGet 36 = .ok (.invokevirtual 109, 3) := by decide +kernel
theorem dX10_wouldGet_39 : decode cX10_wouldGet 39 = .ok (.aload_n 0, 1) := by decide +kernel
theorem dX10_wouldGet_40 : decode cX10_wouldGet 40 = .ok (.getfield 41, 3) := by decide +kernel
theorem dX10_wouldGet_43 : decode cX10_wouldGet 43 = .ok (.iload_n 1, 1) := by decide +kernel
theorem dX10_wouldGet_44 : decode cX10_wouldGet 44 = .ok (.iaload, 1) := by decide +kernel
theorem dX10_wouldGet_45 : decode cX10_wouldGet 45 = .ok (.ireturn, 1) := by decide +kernel
theorem dX10_topMember_0 : decode cX10_topMember 0 = .ok (.aload_n 0, 1) := by decide +kernel
theorem dX10_topMember_1 : decode cX10_topMember 1 = .ok (.iconst 0, 1) := by decide +kernel
theorem dX10_topMember_2 : decode cX10_topMember 2 = .ok (.putfield 66, 3) := by decide +kernel
theorem dX10_topMember_5 : decode cX10_topMember 5 = .ok (.aload_n 0, 1) := by decide +kernel
theorem dX10_topMember_6 : decode cX10_topMember 6 = .ok (.iload_n 1, 1) := by decide +kernel
theorem dX10_topMember_7 : decode cX10_topMember 7 = .ok (.iload_n 2, 1) := by decide +kernel
theorem dX10_topMember_8 : decode cX10_topMember 8 = .ok (.iload_n 3, 1) := by decide +kernel
theorem dX10_topMember_9 : decode cX10_topMember 9 = .ok (.iload 4, 2) := by decide +kernel
theorem dX10_topMember_11 : decode cX10_topMember 11 = .ok (.invokevirtual 222, 3) := by decide +kernel
theorem dX10_topMember_14 : decode cX10_topMember 14 = .ok (.aload_n 0, 1) := by decide +kernel
theorem dX10_topMember_15 : decode cX10_topMember 15 = .ok (.invokevirtual 294, 3) := by decide +kernel
theorem dX10_topMember_18 : decode cX10_topMember 18 = .ok (.ifCond .ne 6, 3) := by decide +kernel
theorem dX10_topMember_21 : decode cX10_topMember 21 = .ok (.bipush (-2), 2) := by decide +kernel
theorem dX10_topMember_23 : decode cX10_topMember 23 = .ok (.ireturn, 1) := by decide +kernel
theorem dX10_topMember_24 : decode cX10_topMember 24 = .ok (.aload_n 0, 1) := by decide +kernel
theorem dX10_topMember_25 : decode cX10_topMember 25 = .ok (.getfield 13, 3) := by decide +kernel
theorem dX10_topMember_28 : decode cX10_topMember 28 = .ok (.bipush 12, 2) := by decide +kernel
theorem dX10_topMember_30 : decode cX10_topMember 30 = .ok (.iaload, 1) := by decide +kernel
theorem dX10_topMember_31 : decode cX10_topMember 31 = .ok (.ifCond .ne 5, 3) := by decide +kernel
theorem dX10_topMember_34 : decode cX10_topMember 34 = .ok (.iconst (-1), 1) := by decide +kernel
theorem dX10_topMember_35 : decode cX10_topMember 35 = .ok (.ireturn, 1) := by decide +kernel
theorem dX10_topMember_36 : decode cX10_topMember 36 = .ok (.aload_n 0, 1) := by decide +kernel
theorem dX10_topMember_37 : decode cX10_topMember 37 = .ok (.invokevirtual 109, 3) := by decide +kernel
theorem dX10_topMember_40 : decode cX10_topMember 40 = .ok (.iconst 0, 1) := by decide +kernel
theorem dX10_topMember_41 : decode cX10_topMember 41 = .ok (.istore 5, 2) := by decide +kernel
theorem dX10_topMember_43 : decode cX10_topMember 43 = .ok (.iconst 1, 1) := by decide +kernel
theorem dX10_topMember_44 : decode cX10_topMember 44 = .ok (.istore 6, 2) := by decide +kernel
theorem dX10_topMember_46 : decode cX10_topMember 46 = .ok (.iload 6, 2) := by decide +kernel
theorem dX10_topMember_48 : decode cX10_topMember 48 = .ok (.aload_n 0, 1) := by decide +kernel
theorem dX10_topMember_49 : decode cX10_topMember 49 = .ok (.getfield 13, 3) := by decide +kernel
theorem dX10_topMember_52 : decode cX10_topMember 52 = .ok (.bipush 12, 2) := by decide +kernel
theorem dX10_topMember_54 : decode cX10_topMember 54 = .ok (.iaload, 1) := by decide +kernel
theorem dX10_topMember_55 : decode cX10_topMember 55 = .ok (.if_icmp .ge 30, 3) := by decide +kernel
theorem dX10_topMember_58 : decode cX10_topMember 58 = .ok (.aload_n 0, 1) := by decide +kernel
theorem dX10_topMember_59 : decode cX10_topMember 59 = .ok (.getfield 41, 3) := by decide +kernel
theorem dX10_topMember_62 : decode cX10_topMember 62 = .ok (.iload 6, 2) := by decide +kernel
theorem dX10_topMember_64 : decode cX10_topMember 64 = .ok (.iaload, 1) := by decide +kernel
theorem dX10_topMember_65 : decode cX10_topMember 65 = .ok (.aload_n 0, 1) := by decide +kernel
theorem dX10_topMember_66 : decode cX10_topMember 66 = .ok (.getfield 41, 3) := by decide +kernel
theorem dX10_topMember_69 : decode cX10_topMember 69 = .ok (.iload 5, 2) := by decide +kernel
theorem dX10_topMember_71 : decode cX10_topMember 71 = .ok (.iaload, 1) := by decide +kernel
theorem dX10_topMember_72 : decode cX10_topMember 72 = .ok (.if_icmp .le 7, 3) := by decide +kernel
theorem dX10_topMember_75 : decode cX10_topMember 75 = .ok (.iload 6, 2) := by decide +kernel
theorem dX10_topMember_77 : decode cX10_topMember 77 = .ok (.istore 5, 2) := by decide +kernel
theorem dX10_topMember_79 : decode cX10_topMember 79 = .ok (.iinc 6 1, 3) := by decide +kernel
theorem dX10_topMember_82 : decode cX10_topMember 82 = .ok (.goto (-36), 3) := by decide +kernel
theorem dX10_topMember_85 : decode cX10_topMember 85 = .ok (.iload 5, 2) := by decide +kernel
theorem dX10_topMember_87 : decode cX10_topMember 87 = .ok (.ireturn, 1) := by decide +kernel
theorem dX10_redeemable_0 : decode cX10_redeemable 0 = .ok (.aload_n 0, 1) := by decide +kernel
theorem dX10_redeemable_1 : decode cX10_redeemable 1 = .ok (.iconst 0, 1) := by decide +kernel
theorem dX10_redeemable_2 : decode cX10_redeemable 2 = .ok (.putfield 66, 3) := by decide +kernel
theorem dX10_redeemable_5 : decode cX10_redeemable 5 = .ok (.aload_n 0, 1) := by decide +kernel
theorem dX10_redeemable_6 : decode cX10_redeemable 6 = .ok (.aload_n 0, 1) := by decide +kernel
theorem dX10_redeemable_7 : decode cX10_redeemable 7 = .ok (.getfield 19, 3) := by decide +kernel
theorem dX10_redeemable_10 : decode cX10_redeemable 10 = .ok (.sipush 494, 3) := by decide +kernel
theorem dX10_redeemable_13 : decode cX10_redeemable 13 = .ok (.iaload, 1) := by decide +kernel
theorem dX10_redeemable_14 : decode cX10_redeemable 14 = .ok (.iconst 1, 1) := by decide +kernel
theorem dX10_redeemable_15 : decode cX10_redeemable 15 = .ok (.isub, 1) := by decide +kernel
theorem dX10_redeemable_16 : decode cX10_redeemable 16 = .ok (.invokevirtual 137, 3) := by decide +kernel
theorem dX10_redeemable_19 : decode cX10_redeemable 19 = .ok (.ireturn, 1) := by decide +kernel
theorem dX10_wouldRedeem_0 : decode cX10_wouldRedeem 0 = .ok (.aload_n 0, 1) := by decide +kernel
theorem dX10_wouldRedeem_1 : decode cX10_wouldRedeem 1 = .ok (.aload_n 0, 1) := by decide +kernel
theorem dX10_wouldRedeem_2 : decode cX10_wouldRedeem 2 = .ok (.iload_n 1, 1) := by decide +kernel
theorem dX10_wouldRedeem_3 : decode cX10_wouldRedeem 3 = .ok (.invokevirtual 269, 3) := by decide +kernel
theorem dX10_wouldRedeem_6 : decode cX10_wouldRedeem 6 = .ok (.invokevirtual 272, 3) := by decide +kernel
theorem dX10_wouldRedeem_9 : decode cX10_wouldRedeem 9 = .ok (.ifCond .ne 5, 3) := by decide +kernel
theorem dX10_wouldRedeem_12 : decode cX10_wouldRedeem 12 = .ok (.iconst 0, 1) := by decide +kernel
theorem dX10_wouldRedeem_13 : decode cX10_wouldRedeem 13 = .ok (.ireturn, 1) := by decide +kernel
theorem dX10_wouldRedeem_14 : decode cX10_wouldRedeem 14 = .ok (.iload_n 2, 1) := by decide +kernel
theorem dX10_wouldRedeem_15 : decode cX10_wouldRedeem 15 = .ok (.ifCond .lt 9, 3) := by decide +kernel
theorem dX10_wouldRedeem_18 : decode cX10_wouldRedeem 18 = .ok (.iload_n 2, 1) := by decide +kernel
theorem dX10_wouldRedeem_19 : decode cX10_wouldRedeem 19 = .ok (.ldc 174, 2) := by decide +kernel
theorem dX10_wouldRedeem_21 : decode cX10_wouldRedeem 21 = .ok (.if_icmp .le 6, 3) := by decide +kernel
theorem dX10_wouldRedeem_24 : decode cX10_wouldRedeem 24 = .ok (.bipush (-2), 2) := by decide +kernel
theorem dX10_wouldRedeem_26 : decode cX10_wouldRedeem 26 = .ok (.ireturn, 1) := by decide +kernel
theorem dX10_wouldRedeem_27 : decode cX10_wouldRedeem 27 = .ok (.aload_n 0, 1) := by decide +kernel
theorem dX10_wouldRedeem_28 : decode cX10_wouldRedeem 28 = .ok (.iload_n 2, 1) := by decide +kernel
theorem dX10_wouldRedeem_29 : decode cX10_wouldRedeem 29 = .ok (.invokevirtual 299, 3) := by decide +kernel
theorem dX10_wouldRedeem_32 : decode cX10_wouldRedeem 32 = .ok (.istore_n 3, 1) := by decide +kernel
theorem dX10_wouldRedeem_33 : decode cX10_wouldRedeem 33 = .ok (.iconst 0, 1) := by decide +kernel
theorem dX10_wouldRedeem_34 : decode cX10_wouldRedeem 34 = .ok (.istore 4, 2) := by decide +kernel
theorem dX10_wouldRedeem_36 : decode cX10_wouldRedeem 36 = .ok (.iconst 0, 1) := by decide +kernel
theorem dX10_wouldRedeem_37 : decode cX10_wouldRedeem 37 = .ok (.istore 5, 2) := by decide +kernel
theorem dX10_wouldRedeem_39 : decode cX10_wouldRedeem 39 = .ok (.iload 5, 2) := by decide +kernel
theorem dX10_wouldRedeem_41 : decode cX10_wouldRedeem 41 = .ok (.aload_n 0, 1) := by decide +kernel
theorem dX10_wouldRedeem_42 : decode cX10_wouldRedeem 42 = .ok (.getfield 124, 3) := by decide +kernel
theorem dX10_wouldRedeem_45 : decode cX10_wouldRedeem 45 = .ok (.if_icmp .ge 40, 3) := by decide +kernel
theorem dX10_wouldRedeem_48 : decode cX10_wouldRedeem 48 = .ok (.iload_n 3, 1) := by decide +kernel
theorem dX10_wouldRedeem_49 : decode cX10_wouldRedeem 49 = .ok (.ifCond .le 36, 3) := by decide +kernel
theorem dX10_wouldRedeem_52 : decode cX10_wouldRedeem 52 = .ok (.iload 4, 2) := by decide +kernel
theorem dX10_wouldRedeem_54 : decode cX10_wouldRedeem 54 = .ok (.aload_n 0, 1) := by decide +kernel
theorem dX10_wouldRedeem_55 : decode cX10_wouldRedeem 55 = .ok (.getfield 50, 3) := by decide +kernel
theorem dX10_wouldRedeem_58 : decode cX10_wouldRedeem 58 = .ok (.iload 5, 2) := by decide +kernel
theorem dX10_wouldRedeem_60 : decode cX10_wouldRedeem 60 = .ok (.iaload, 1) := by decide +kernel
theorem dX10_wouldRedeem_61 : decode cX10_wouldRedeem 61 = .ok (.iload_n 1, 1) := by decide +kernel
theorem dX10_wouldRedeem_62 : decode cX10_wouldRedeem 62 = .ok (.if_icmp .ne 13, 3) := by decide +kernel
theorem dX10_wouldRedeem_65 : decode cX10_wouldRedeem 65 = .ok (.aload_n 0, 1) := by decide +kernel
theorem dX10_wouldRedeem_66 : decode cX10_wouldRedeem 66 = .ok (.getfield 47, 3) := by decide +kernel
theorem dX10_wouldRedeem_69 : decode cX10_wouldRedeem 69 = .ok (.iload 5, 2) := by decide +kernel
theorem dX10_wouldRedeem_71 : decode cX10_wouldRedeem 71 = .ok (.iaload, 1) := by decide +kernel
theorem dX10_wouldRedeem_72 : decode cX10_wouldRedeem 72 = .ok (.goto 4, 3) := by decide +kernel
theorem dX10_wouldRedeem_75 : decode cX10_wouldRedeem 75 = .ok (.iconst 0, 1) := by decide +kernel
theorem dX10_wouldRedeem_76 : decode cX10_wouldRedeem 76 = .ok (.iadd, 1) := by decide +kernel
theorem dX10_wouldRedeem_77 : decode cX10_wouldRedeem 77 = .ok (.istore 4, 2) := by decide +kernel
theorem dX10_wouldRedeem_79 : decode cX10_wouldRedeem 79 = .ok (.iinc 5 1, 3) := by decide +kernel
theorem dX10_wouldRedeem_82 : decode cX10_wouldRedeem 82 = .ok (.goto (-43), 3) := by decide +kernel
theorem dX10_wouldRedeem_85 : decode cX10_wouldRedeem 85 = .ok (.iload 4, 2) := by decide +kernel
theorem dX10_wouldRedeem_87 : decode cX10_wouldRedeem 87 = .ok (.ireturn, 1) := by decide +kernel
theorem dX10_budgetThrough_0 : decode cX10_budgetThrough 0 = .ok (.aload_n 0, 1) := by decide +kernel
theorem dX10_budgetThrough_1 : decode cX10_budgetThrough 1 = .ok (.iconst 0, 1) := by decide +kernel
theorem dX10_budgetThrough_2 : decode cX10_budgetThrough 2 = .ok (.putfield 66, 3) := by decide +kernel
theorem dX10_budgetThrough_5 : decode cX10_budgetThrough 5 = .ok (.aload_n 0, 1) := by decide +kernel
theorem dX10_budgetThrough_6 : decode cX10_budgetThrough 6 = .ok (.iload_n 1, 1) := by decide +kernel
theorem dX10_budgetThrough_7 : decode cX10_budgetThrough 7 = .ok (.invokevirtual 279, 3) := by decide +kernel
theorem dX10_budgetThrough_10 : decode cX10_budgetThrough 10 = .ok (.ifCond .eq 11, 3) := by decide +kernel
theorem dX10_budgetThrough_13 : decode cX10_budgetThrough 13 = .ok (.aload_n 0, 1) := by decide +kernel
theorem dX10_budgetThrough_14 : decode cX10_budgetThrough 14 = .ok (.iload_n 1, 1) := by decide +kernel
theorem dX10_budgetThrough_15 : decode cX10_budgetThrough 15 = .ok (.invokevirtual 137, 3) := by decide +kernel
theorem dX10_budgetThrough_18 : decode cX10_budgetThrough 18 = .ok (.goto 5, 3) := by decide +kernel
theorem dX10_budgetThrough_21 : decode cX10_budgetThrough 21 = .ok (.bipush (-2), 2) := by decide +kernel
theorem dX10_budgetThrough_23 : decode cX10_budgetThrough 23 = .ok (.ireturn, 1) := by decide +kernel
theorem dX10_installmentsLeft_0 : decode cX10_installmentsLeft 0 = .ok (.aload_n 0, 1) := by decide +kernel
theorem dX10_installmentsLeft_1 : decode cX10_installmentsLeft 1 = .ok (.aload_n 0, 1) := by decide +kernel
theorem dX10_installmentsLeft_2 : decode cX10_installmentsLeft 2 = .ok (.iload_n 1, 1) := by decide +kernel
theorem dX10_installmentsLeft_3 : decode cX10_installmentsLeft 3 = .ok (.invokevirtual 269, 3) := by decide +kernel
theorem dX10_installmentsLeft_6 : decode cX10_installmentsLeft 6 = .ok (.invokevirtual 272, 3) := by decide +kernel
theorem dX10_installmentsLeft_9 : decode cX10_installmentsLeft 9 = .ok (.ifCond .eq 15, 3) := by decide +kernel
theorem dX10_installmentsLeft_12 : decode cX10_installmentsLeft 12 = .ok (.aload_n 0, 1) := by decide +kernel
theorem dX10_installmentsLeft_13 : decode cX10_installmentsLeft 13 = .ok (.getfield 19, 3) := by decide +kernel
theorem dX10_installmentsLeft_16 : decode cX10_installmentsLeft 16 = .ok (.bipush 21, 2) := by decide +kernel
theorem dX10_installmentsLeft_18 : decode cX10_installmentsLeft 18 = .ok (.iload_n 1, 1) := by decide +kernel
theorem dX10_installmentsLeft_19 : decode cX10_installmentsLeft 19 = .ok (.iadd, 1) := by decide +kernel
theorem dX10_installmentsLeft_20 : decode cX10_installmentsLeft 20 = .ok (.iaload, 1) := by decide +kernel
theorem dX10_installmentsLeft_21 : decode cX10_installmentsLeft 21 = .ok (.goto 4, 3) := by decide +kernel
theorem dX10_installmentsLeft_24 : decode cX10_installmentsLeft 24 = .ok (.iconst 0, 1) := by decide +kernel
theorem dX10_installmentsLeft_25 : decode cX10_installmentsLeft 25 = .ok (.ireturn, 1) := by decide +kernel
theorem dX10_installment_0 : decode cX10_installment 0 = .ok (.aload_n 0, 1) := by decide +kernel
theorem dX10_installment_1 : decode cX10_installment 1 = .ok (.aload_n 0, 1) := by decide +kernel
theorem dX10_installment_2 : decode cX10_installment 2 = .ok (.iload_n 1, 1) := by decide +kernel
theorem dX10_installment_3 : decode cX10_installment 3 = .ok (.invokevirtual 269, 3) := by decide +kernel
theorem dX10_installment_6 : decode cX10_installment 6 = .ok (.invokevirtual 272, 3) := by decide +kernel
theorem dX10_installment_9 : decode cX10_installment 9 = .ok (.ifCond .ne 5, 3) := by decide +kernel
theorem dX10_installment_12 : decode cX10_installment 12 = .ok (.iconst 0, 1) := by decide +kernel
theorem dX10_installment_13 : decode cX10_installment 13 = .ok (.ireturn, 1) := by decide +kernel
theorem dX10_installment_14 : decode cX10_installment 14 = .ok (.aload_n 0, 1) := by decide +kernel
theorem dX10_installment_15 : decode cX10_installment 15 = .ok (.getfield 19, 3) := by decide +kernel
theorem dX10_installment_18 : decode cX10_installment 18 = .ok (.bipush 21, 2) := by decide +kernel
theorem dX10_installment_20 : decode cX10_installment 20 = .ok (.iload_n 1, 1) := by decide +kernel
theorem dX10_installment_21 : decode cX10_installment 21 = .ok (.iadd, 1) := by decide +kernel
theorem dX10_installment_22 : decode cX10_installment 22 = .ok (.iaload, 1) := by decide +kernel
theorem dX10_installment_23 : decode cX10_installment 23 = .ok (.istore_n 3, 1) := by decide +kernel
theorem dX10_installment_24 : decode cX10_installment 24 = .ok (.iload_n 2, 1) := by decide +kernel
theorem dX10_installment_25 : decode cX10_installment 25 = .ok (.ifCond .lt 8, 3) := by decide +kernel
theorem dX10_installment_28 : decode cX10_installment 28 = .ok (.iload_n 2, 1) := by decide +kernel
theorem dX10_installment_29 : decode cX10_installment 29 = .ok (.iload_n 3, 1) := by decide +kernel
theorem dX10_installment_30 : decode cX10_installment 30 = .ok (.if_icmp .lt 5, 3) := by decide +kernel
theorem dX10_installment_33 : decode cX10_installment 33 = .ok (.iconst (-1), 1) := by decide +kernel
theorem dX10_installment_34 : decode cX10_installment 34 = .ok (.ireturn, 1) := by decide +kernel
theorem dX10_installment_35 : decode cX10_installment 35 = .ok (.aload_n 0, 1) := by decide +kernel
theorem dX10_installment_36 : decode cX10_installment 36 = .ok (.iload_n 1, 1) := by decide +kernel
theorem dX10_installment_37 : decode cX10_installment 37 = .ok (.invokevirtual 106, 3) := by decide +kernel
theorem dX10_installment_40 : decode cX10_installment 40 = .ok (.istore 4, 2) := by decide +kernel
theorem dX10_installment_42 : decode cX10_installment 42 = .ok (.iconst 0, 1) := by decide +kernel
theorem dX10_installment_43 : decode cX10_installment 43 = .ok (.istore 5, 2) := by decide +kernel
theorem dX10_installment_45 : decode cX10_installment 45 = .ok (.iload 5, 2) := by decide +kernel
theorem dX10_installment_47 : decode cX10_installment 47 = .ok (.iload_n 2, 1) := by decide +kernel
theorem dX10_installment_48 : decode cX10_installment 48 = .ok (.if_icmp .ge 28, 3) := by decide +kernel
theorem dX10_installment_51 : decode cX10_installment 51 = .ok (.iload 4, 2) := by decide +kernel
theorem dX10_installment_53 : decode cX10_installment 53 = .ok (.iload 4, 2) := by decide +kernel
theorem dX10_installment_55 : decode cX10_installment 55 = .ok (.iload_n 3, 1) := by decide +kernel
theorem dX10_installment_56 : decode cX10_installment 56 = .ok (.iadd, 1) := by decide +kernel
theorem dX10_installment_57 : decode cX10_installment 57 = .ok (.iload 5, 2) := by decide +kernel
theorem dX10_installment_59 : decode cX10_installment 59 = .ok (.isub, 1) := by decide +kernel
theorem dX10_installment_60 : decode cX10_installment 60 = .ok (.iconst 1, 1) := by decide +kernel
theorem dX10_installment_61 : decode cX10_installment 61 = .ok (.isub, 1) := by decide +kernel
theorem dX10_installment_62 : decode cX10_installment 62 = .ok (.iload_n 3, 1) := by decide +kernel
theorem dX10_installment_63 : decode cX10_installment 63 = .ok (.iload 5, 2) := by decide +kernel
theorem dX10_installment_65 : decode cX10_installment 65 = .ok (.isub, 1) := by decide +kernel
theorem dX10_installment_66 : decode cX10_installment 66 = .ok (.idiv, 1) := by decide +kernel
theorem dX10_installment_67 : decode cX10_installment 67 = .ok (.isub, 1) := by decide +kernel
theorem dX10_installment_68 : decode cX10_installment 68 = .ok (.istore 4, 2) := by decide +kernel
theorem dX10_installment_70 : decode cX10_installment 70 = .ok (.iinc 5 1, 3) := by decide +kernel
theorem dX10_installment_73 : decode cX10_installment 73 = .ok (.goto (-28), 3) := by decide +kernel
theorem dX10_installment_76 : decode cX10_installment 76 = .ok (.iload 4, 2) := by decide +kernel
theorem dX10_installment_78 : decode cX10_installment 78 = .ok (.iload_n 3, 1) := by decide +kernel
theorem dX10_installment_79 : decode cX10_installment 79 = .ok (.iadd, 1) := by decide +kernel
theorem dX10_installment_80 : decode cX10_installment 80 = .ok (.iload_n 2, 1) := by decide +kernel
theorem dX10_installment_81 : decode cX10_installment 81 = .ok (.isub, 1) := by decide +kernel
theorem dX10_installment_82 : decode cX10_installment 82 = .ok (.iconst 1, 1) := by decide +kernel
theorem dX10_installment_83 : decode cX10_installment 83 = .ok (.isub, 1) := by decide +kernel
theorem dX10_installment_84 : decode cX10_installment 84 = .ok (.iload_n 3, 1) := by decide +kernel
theorem dX10_installment_85 : decode cX10_installment 85 = .ok (.iload_n 2, 1) := by decide +kernel
theorem dX10_installment_86 : decode cX10_installment 86 = .ok (.isub, 1) := by decide +kernel
theorem dX10_installment_87 : decode cX10_installment 87 = .ok (.idiv, 1) := by decide +kernel
theorem dX10_installment_88 : decode cX10_installment 88 = .ok (.ireturn, 1) := by decide +kernel
theorem dX10_balance_0 : decode cX10_balance 0 = .ok (.aload_n 0, 1) := by decide +kernel
theorem dX10_balance_1 : decode cX10_balance 1 = .ok (.iconst 0, 1) := by decide +kernel
theorem dX10_balance_2 : decode cX10_balance 2 = .ok (.putfield 66, 3) := by decide +kernel
theorem dX10_balance_5 : decode cX10_balance 5 = .ok (.aload_n 0, 1) := by decide +kernel
theorem dX10_balance_6 : decode cX10_balance 6 = .ok (.getfield 19, 3) := by decide +kernel
theorem dX10_balance_9 : decode cX10_balance 9 = .ok (.sipush 495, 3) := by decide +kernel
theorem dX10_balance_12 : decode cX10_balance 12 = .ok (.iaload, 1) := by decide +kernel
theorem dX10_balance_13 : decode cX10_balance 13 = .ok (.aload_n 0, 1) := by decide +kernel
theorem dX10_balance_14 : decode cX10_balance 14 = .ok (.getfield 19, 3) := by decide +kernel
theorem dX10_balance_17 : decode cX10_balance 17 = .ok (.sipush 496, 3) := by decide +kernel
theorem dX10_balance_20 : decode cX10_balance 20 = .ok (.iaload, 1) := by decide +kernel
theorem dX10_balance_21 : decode cX10_balance 21 = .ok (.isub, 1) := by decide +kernel
theorem dX10_balance_22 : decode cX10_balance 22 = .ok (.istore_n 1, 1) := by decide +kernel
theorem dX10_balance_23 : decode cX10_balance 23 = .ok (.iconst 0, 1) := by decide +kernel
theorem dX10_balance_24 : decode cX10_balance 24 = .ok (.istore_n 2, 1) := by decide +kernel
theorem dX10_balance_25 : decode cX10_balance 25 = .ok (.iload_n 2, 1) := by decide +kernel
theorem dX10_balance_26 : decode cX10_balance 26 = .ok (.aload_n 0, 1) := by decide +kernel
theorem dX10_balance_27 : decode cX10_balance 27 = .ok (.getfield 13, 3) := by decide +kernel
theorem dX10_balance_30 : decode cX10_balance 30 = .ok (.bipush 12, 2) := by decide +kernel
theorem dX10_balance_32 : decode cX10_balance 32 = .ok (.iaload, 1) := by decide +kernel
theorem dX10_balance_33 : decode cX10_balance 33 = .ok (.if_icmp .ge 41, 3) := by decide +kernel
theorem dX10_balance_36 : decode cX10_balance 36 = .ok (.iload_n 1, 1) := by decide +kernel
theorem dX10_balance_37 : decode cX10_balance 37 = .ok (.aload_n 0, 1) := by decide +kernel
theorem dX10_balance_38 : decode cX10_balance 38 = .ok (.getfield 19, 3) := by decide +kernel
theorem dX10_balance_41 : decode cX10_balance 41 = .ok (.sipush 445, 3) := by decide +kernel
theorem dX10_balance_44 : decode cX10_balance 44 = .ok (.iconst 3, 1) := by decide +kernel
theorem dX10_balance_45 : decode cX10_balance 45 = .ok (.iload_n 2, 1) := by decide +kernel
theorem dX10_balance_46 : decode cX10_balance 46 = .ok (.imul, 1) := by decide +kernel
theorem dX10_balance_47 : decode cX10_balance 47 = .ok (.iadd, 1) := by decide +kernel
theorem dX10_balance_48 : decode cX10_balance 48 = .ok (.iconst 1, 1) := by decide +kernel
theorem dX10_balance_49 : decode cX10_balance 49 = .ok (.iadd, 1) := by decide +kernel
theorem dX10_balance_50 : decode cX10_balance 50 = .ok (.iaload, 1) := by decide +kernel
theorem dX10_balance_51 : decode cX10_balance 51 = .ok (.aload_n 0, 1) := by decide +kernel
theorem dX10_balance_52 : decode cX10_balance 52 = .ok (.getfield 19, 3) := by decide +kernel
theorem dX10_balance_55 : decode cX10_balance 55 = .ok (.sipush 445, 3) := by decide +kernel
theorem dX10_balance_58 : decode cX10_balance 58 = .ok (.iconst 3, 1) := by decide +kernel
theorem dX10_balance_59 : decode cX10_balance 59 = .ok (.iload_n 2, 1) := by decide +kernel
theorem dX10_balance_60 : decode cX10_balance 60 = .ok (.imul, 1) := by decide +kernel
theorem dX10_balance_61 : decode cX10_balance 61 = .ok (.iadd, 1) := by decide +kernel
theorem dX10_balance_62 : decode cX10_balance 62 = .ok (.iconst 2, 1) := by decide +kernel
theorem dX10_balance_63 : decode cX10_balance 63 = .ok (.iadd, 1) := by decide +kernel
theorem dX10_balance_64 : decode cX10_balance 64 = .ok (.iaload, 1) := by decide +kernel
theorem dX10_balance_65 : decode cX10_balance 65 = .ok (.iadd, 1) := by decide +kernel
theorem dX10_balance_66 : decode cX10_balance 66 = .ok (.isub, 1) := by decide +kernel
theorem dX10_balance_67 : decode cX10_balance 67 = .ok (.istore_n 1, 1) := by decide +kernel
theorem dX10_balance_68 : decode cX10_balance 68 = .ok (.iinc 2 1, 3) := by decide +kernel
theorem dX10_balance_71 : decode cX10_balance 71 = .ok (.goto (-46), 3) := by decide +kernel
theorem dX10_balance_74 : decode cX10_balance 74 = .ok (.iload_n 1, 1) := by decide +kernel
theorem dX10_balance_75 : decode cX10_balance 75 = .ok (.ireturn, 1) := by decide +kernel
theorem dX10_nextInLine_0 : decode cX10_nextInLine 0 = .ok (.aload_n 0, 1) := by decide +kernel
theorem dX10_nextInLine_1 : decode cX10_nextInLine 1 = .ok (.iconst 0, 1) := by decide +kernel
theorem dX10_nextInLine_2 : decode cX10_nextInLine 2 = .ok (.putfield 66, 3) := by decide +kernel
theorem dX10_nextInLine_5 : decode cX10_nextInLine 5 = .ok (.aload_n 0, 1) := by decide +kernel
theorem dX10_nextInLine_6 : decode cX10_nextInLine 6 = .ok (.iconst 1, 1) := by decide +kernel
theorem dX10_nextInLine_7 : decode cX10_nextInLine 7 = .ok (.invokevirtual 299, 3) := by decide +kernel
theorem dX10_nextInLine_10 : decode cX10_nextInLine 10 = .ok (.istore_n 1, 1) := by decide +kernel
theorem dX10_nextInLine_11 : decode cX10_nextInLine 11 = .ok (.iconst 0, 1) := by decide +kernel
theorem dX10_nextInLine_12 : decode cX10_nextInLine 12 = .ok (.istore_n 2, 1) := by decide +kernel
theorem dX10_nextInLine_13 : decode cX10_nextInLine 13 = .ok (.iload_n 2, 1) := by decide +kernel
theorem dX10_nextInLine_14 : decode cX10_nextInLine 14 = .ok (.aload_n 0, 1) := by decide +kernel
theorem dX10_nextInLine_15 : decode cX10_nextInLine 15 = .ok (.getfield 124, 3) := by decide +kernel
theorem dX10_nextInLine_18 : decode cX10_nextInLine 18 = .ok (.if_icmp .ge 29, 3) := by decide +kernel
theorem dX10_nextInLine_21 : decode cX10_nextInLine 21 = .ok (.iload_n 1, 1) := by decide +kernel
theorem dX10_nextInLine_22 : decode cX10_nextInLine 22 = .ok (.ifCond .le 25, 3) := by decide +kernel
theorem dX10_nextInLine_25 : decode cX10_nextInLine 25 = .ok (.aload_n 0, 1) := by decide +kernel
theorem dX10_nextInLine_26 : decode cX10_nextInLine 26 = .ok (.getfield 47, 3) := by decide +kernel
theorem dX10_nextInLine_29 : decode cX10_nextInLine 29 = .ok (.iload_n 2, 1) := by decide +kernel
theorem dX10_nextInLine_30 : decode cX10_nextInLine 30 = .ok (.iaload, 1) := by decide +kernel
theorem dX10_nextInLine_31 : decode cX10_nextInLine 31 = .ok (.ifCond .le 10, 3) := by decide +kernel
theorem dX10_nextInLine_34 : decode cX10_nextInLine 34 = .ok (.aload_n 0, 1) := by decide +kernel
theorem dX10_nextInLine_35 : decode cX10_nextInLine 35 = .ok (.getfield 50, 3) := by decide +kernel
theorem dX10_nextInLine_38 : decode cX10_nextInLine 38 = .ok (.iload_n 2, 1) := by decide +kernel
theorem dX10_nextInLine_39 : decode cX10_nextInLine 39 = .ok (.iaload, 1) := by decide +kernel
theorem dX10_nextInLine_40 : decode cX10_nextInLine 40 = .ok (.ireturn, 1) := by decide +kernel
theorem dX10_nextInLine_41 : decode cX10_nextInLine 41 = .ok (.iinc 2 1, 3) := by decide +kernel
theorem dX10_nextInLine_44 : decode cX10_nextInLine 44 = .ok (.goto (-31), 3) := by decide +kernel
theorem dX10_nextInLine_47 : decode cX10_nextInLine 47 = .ok (.iconst (-1), 1) := by decide +kernel
theorem dX10_nextInLine_48 : decode cX10_nextInLine 48 = .ok (.ireturn, 1) := by decide +kernel
theorem dX10_yearsUntil_0 : decode cX10_yearsUntil 0 = .ok (.aload_n 0, 1) := by decide +kernel
theorem dX10_yearsUntil_1 : decode cX10_yearsUntil 1 = .ok (.aload_n 0, 1) := by decide +kernel
theorem dX10_yearsUntil_2 : decode cX10_yearsUntil 2 = .ok (.iload_n 1, 1) := by decide +kernel
theorem dX10_yearsUntil_3 : decode cX10_yearsUntil 3 = .ok (.invokevirtual 269, 3) := by decide +kernel
theorem dX10_yearsUntil_6 : decode cX10_yearsUntil 6 = .ok (.invokevirtual 272, 3) := by decide +kernel
theorem dX10_yearsUntil_9 : decode cX10_yearsUntil 9 = .ok (.ifCond .ne 5, 3) := by decide +kernel
theorem dX10_yearsUntil_12 : decode cX10_yearsUntil 12 = .ok (.iconst 0, 1) := by decide +kernel
theorem dX10_yearsUntil_13 : decode cX10_yearsUntil 13 = .ok (.ireturn, 1) := by decide +kernel
theorem dX10_yearsUntil_14 : decode cX10_yearsUntil 14 = .ok (.aload_n 0, 1) := by decide +kernel
theorem dX10_yearsUntil_15 : decode cX10_yearsUntil 15 = .ok (.iload_n 2, 1) := by decide +kernel
theorem dX10_yearsUntil_16 : decode cX10_yearsUntil 16 = .ok (.invokevirtual 279, 3) := by decide +kernel
theorem dX10_yearsUntil_19 : decode cX10_yearsUntil 19 = .ok (.ifCond .ne 6, 3) := by decide +kernel
theorem dX10_yearsUntil_22 : decode cX10_yearsUntil 22 = .ok (.bipush (-2), 2) := by decide +kernel
theorem dX10_yearsUntil_24 : decode cX10_yearsUntil 24 = .ok (.ireturn, 1) := by decide +kernel
theorem dX10_yearsUntil_25 : decode cX10_yearsUntil 25 = .ok (.aload_n 0, 1) := by decide +kernel
theorem dX10_yearsUntil_26 : decode cX10_yearsUntil 26 = .ok (.iload_n 1, 1) := by decide +kernel
theorem dX10_yearsUntil_27 : decode cX10_yearsUntil 27 = .ok (.iload_n 2, 1) := by decide +kernel
theorem dX10_yearsUntil_28 : decode cX10_yearsUntil 28 = .ok (.invokevirtual 92, 3) := by decide +kernel
theorem dX10_yearsUntil_31 : decode cX10_yearsUntil 31 = .ok (.ifCond .eq 14, 3) := by decide +kernel
theorem dX10_yearsUntil_34 : decode cX10_yearsUntil 34 = .ok (.aload_n 0, 1) := by decide +kernel
theorem dX10_yearsUntil_35 : decode cX10_yearsUntil 35 = .ok (.getfield 19, 3) := by decide +kernel
theorem dX10_yearsUntil_38 : decode cX10_yearsUntil 38 = .ok (.iconst 5, 1) := by decide +kernel
theorem dX10_yearsUntil_39 : decode cX10_yearsUntil 39 = .ok (.iload_n 1, 1) := by decide +kernel
theorem dX10_yearsUntil_40 : decode cX10_yearsUntil 40 = .ok (.iadd, 1) := by decide +kernel
theorem dX10_yearsUntil_41 : decode cX10_yearsUntil 41 = .ok (.iaload, 1) := by decide +kernel
theorem dX10_yearsUntil_42 : decode cX10_yearsUntil 42 = .ok (.ifCond .eq 5, 3) := by decide +kernel
theorem dX10_yearsUntil_45 : decode cX10_yearsUntil 45 = .ok (.iconst (-1), 1) := by decide +kernel
theorem dX10_yearsUntil_46 : decode cX10_yearsUntil 46 = .ok (.ireturn, 1) := by decide +kernel
theorem dX10_yearsUntil_47 : decode cX10_yearsUntil 47 = .ok (.iconst 0, 1) := by decide +kernel
theorem dX10_yearsUntil_48 : decode cX10_yearsUntil 48 = .ok (.aload_n 0, 1) := by decide +kernel
theorem dX10_yearsUntil_49 : decode cX10_yearsUntil 49 = .ok (.getfield 19, 3) := by decide +kernel
theorem dX10_yearsUntil_52 : decode cX10_yearsUntil 52 = .ok (.iconst 3, 1) := by decide +kernel
theorem dX10_yearsUntil_53 : decode cX10_yearsUntil 53 = .ok (.iaload, 1) := by decide +kernel
theorem dX10_yearsUntil_54 : decode cX10_yearsUntil 54 = .ok (.aload_n 0, 1) := by decide +kernel
theorem dX10_yearsUntil_55 : decode cX10_yearsUntil 55 = .ok (.getfield 19, 3) := by decide +kernel
theorem dX10_yearsUntil_58 : decode cX10_yearsUntil 58 = .ok (.sipush 494, 3) := by decide +kernel
theorem dX10_yearsUntil_61 : decode cX10_yearsUntil 61 = .ok (.iaload, 1) := by decide +kernel
theorem dX10_yearsUntil_62 : decode cX10_yearsUntil 62 = .ok (.iload_n 2, 1) := by decide +kernel
theorem dX10_yearsUntil_63 : decode cX10_yearsUntil 63 = .ok (.isub, 1) := by decide +kernel
theorem dX10_yearsUntil_64 : decode cX10_yearsUntil 64 = .ok (.isub, 1) := by decide +kernel
theorem dX10_yearsUntil_65 : decode cX10_yearsUntil 65 = .ok (.invokestatic 302, 3) := by decide +kernel
theorem dX10_yearsUntil_68 : decode cX10_yearsUntil 68 = .ok (.ireturn, 1) := by decide +kernel
theorem dX10_equityOfYear_0 : decode cX10_equityOfYear 0 = .ok (.aload_n 0, 1) := by decide +kernel
theorem dX10_equityOfYear_1 : decode cX10_equityOfYear 1 = .ok (.iconst 0, 1) := by decide +kernel
theorem dX10_equityOfYear_2 : decode cX10_equityOfYear 2 = .ok (.putfield 66, 3) := by decide +kernel
theorem dX10_equityOfYear_5 : decode cX10_equityOfYear 5 = .ok (.aload_n 0, 1) := by decide +kernel
theorem dX10_equityOfYear_6 : decode cX10_equityOfYear 6 = .ok (.iload_n 1, 1) := by decide +kernel
theorem dX10_equityOfYear_7 : decode cX10_equityOfYear 7 = .ok (.invokevirtual 279, 3) := by decide +kernel
theorem dX10_equityOfYear_10 : decode cX10_equityOfYear 10 = .ok (.ifCond .ne 6, 3) := by decide +kernel
theorem dX10_equityOfYear_13 : decode cX10_equityOfYear 13 = .ok (.bipush (-2), 2) := by decide +kernel
theorem dX10_equityOfYear_15 : decode cX10_equityOfYear 15 = .ok (.ireturn, 1) := by decide +kernel
theorem dX10_equityOfYear_16 : decode cX10_equityOfYear 16 = .ok (.iconst 0, 1) := by decide +kernel
theorem dX10_equityOfYear_17 : decode cX10_equityOfYear 17 = .ok (.istore_n 2, 1) := by decide +kernel
theorem dX10_equityOfYear_18 : decode cX10_equityOfYear 18 = .ok (.iconst 0, 1) := by decide +kernel
theorem dX10_equityOfYear_19 : decode cX10_equityOfYear 19 = .ok (.istore_n 3, 1) := by decide +kernel
theorem dX10_equityOfYear_20 : decode cX10_equityOfYear 20 = .ok (.iload_n 3, 1) := by decide +kernel
theorem dX10_equityOfYear_21 : decode cX10_equityOfYear 21 = .ok (.aload_n 0, 1) := by decide +kernel
theorem dX10_equityOfYear_22 : decode cX10_equityOfYear 22 = .ok (.getfield 13, 3) := by decide +kernel
theorem dX10_equityOfYear_25 : decode cX10_equityOfYear 25 = .ok (.bipush 12, 2) := by decide +kernel
theorem dX10_equityOfYear_27 : decode cX10_equityOfYear 27 = .ok (.iaload, 1) := by decide +kernel
theorem dX10_equityOfYear_28 : decode cX10_equityOfYear 28 = .ok (.if_icmp .ge 18, 3) := by decide +kernel
theorem dX10_equityOfYear_31 : decode cX10_equityOfYear 31 = .ok (.iload_n 2, 1) := by decide +kernel
theorem dX10_equityOfYear_32 : decode cX10_equityOfYear 32 = .ok (.aload_n 0, 1) := by decide +kernel
theorem dX10_equityOfYear_33 : decode cX10_equityOfYear 33 = .ok (.iload_n 3, 1) := by decide +kernel
theorem dX10_equityOfYear_34 : decode cX10_equityOfYear 34 = .ok (.iload_n 1, 1) := by decide +kernel
theorem dX10_equityOfYear_35 : decode cX10_equityOfYear 35 = .ok (.invokevirtual 92, 3) := by decide +kernel
theorem dX10_equityOfYear_38 : decode cX10_equityOfYear 38 = .ok (.iadd, 1) := by decide +kernel
theorem dX10_equityOfYear_39 : decode cX10_equityOfYear 39 = .ok (.istore_n 2, 1) := by decide +kernel
theorem dX10_equityOfYear_40 : decode cX10_equityOfYear 40 = .ok (.iinc 3 1, 3) := by decide +kernel
theorem dX10_equityOfYear_43 : decode cX10_equityOfYear 43 = .ok (.goto (-23), 3) := by decide +kernel
theorem dX10_equityOfYear_46 : decode cX10_equityOfYear 46 = .ok (.iload_n 2, 1) := by decide +kernel
theorem dX10_equityOfYear_47 : decode cX10_equityOfYear 47 = .ok (.ireturn, 1) := by decide +kernel
theorem dX10_wouldReserve_0 : decode cX10_wouldReserve 0 = .ok (.aload_n 0, 1) := by decide +kernel
theorem dX10_wouldReserve_1 : decode cX10_wouldReserve 1 = .ok (.iconst 0, 1) := by decide +kernel
theorem dX10_wouldReserve_2 : decode cX10_wouldReserve 2 = .ok (.putfield 66, 3) := by decide +kernel
theorem dX10_wouldReserve_5 : decode cX10_wouldReserve 5 = .ok (.aload_n 0, 1) := by decide +kernel
theorem dX10_wouldReserve_6 : decode cX10_wouldReserve 6 = .ok (.iload_n 1, 1) := by decide +kernel
theorem dX10_wouldReserve_7 : decode cX10_wouldReserve 7 = .ok (.iload_n 2, 1) := by decide +kernel
theorem dX10_wouldReserve_8 : decode cX10_wouldReserve 8 = .ok (.iload_n 3, 1) := by decide +kernel
theorem dX10_wouldReserve_9 : decode cX10_wouldReserve 9 = .ok (.iload 4, 2) := by decide +kernel
theorem dX10_wouldReserve_11 : decode cX10_wouldReserve 11 = .ok (.invokevirtual 222, 3) := by decide +kernel
theorem dX10_wouldReserve_14 : decode cX10_wouldReserve 14 = .ok (.aload_n 0, 1) := by decide +kernel
theorem dX10_wouldReserve_15 : decode cX10_wouldReserve 15 = .ok (.invokevirtual 294, 3) := by decide +kernel
theorem dX10_wouldReserve_18 : decode cX10_wouldReserve 18 = .ok (.ifCond .ne 7, 3) := by decide +kernel
theorem dX10_wouldReserve_21 : decode cX10_wouldReserve 21 = .ok (.ldc_w 298, 3) := by decide +kernel
theorem dX10_wouldReserve_24 : decode cX10_wouldReserve 24 = .ok (.ireturn, 1) := by decide +kernel
theorem dX10_wouldReserve_25 : decode cX10_wouldReserve 25 = .ok (.aload_n 0, 1) := by decide +kernel
theorem dX10_wouldReserve_26 : decode cX10_wouldReserve 26 = .ok (.invokevirtual 109, 3) := by decide +kernel
theorem dX10_wouldReserve_29 : decode cX10_wouldReserve 29 = .ok (.aload_n 0, 1) := by decide +kernel
theorem dX10_wouldReserve_30 : decode cX10_wouldReserve 30 = .ok (.getfield 19, 3) := by decide +kernel
theorem dX10_wouldReserve_33 : decode cX10_wouldReserve 33 = .ok (.sipush 493, 3) := by decide +kernel
theorem dX10_wouldReserve_36 : decode cX10_wouldReserve 36 = .ok (.iaload, 1) := by decide +kernel
theorem dX10_wouldReserve_37 : decode cX10_wouldReserve 37 = .ok (.aload_n 0, 1) := by decide +kernel
theorem dX10_wouldReserve_38 : decode cX10_wouldReserve 38 = .ok (.getfield 75, 3) := by decide +kernel
theorem dX10_wouldReserve_41 : decode cX10_wouldReserve 41 = .ok (.iadd, 1) := by decide +kernel
theorem dX10_wouldReserve_42 : decode cX10_wouldReserve 42 = .ok (.istore 5, 2) := by decide +kernel
theorem dX10_wouldReserve_44 : decode cX10_wouldReserve 44 = .ok (.iconst 0, 1) := by decide +kernel
theorem dX10_wouldReserve_45 : decode cX10_wouldReserve 45 = .ok (.istore 6, 2) := by decide +kernel
theorem dX10_wouldReserve_47 : decode cX10_wouldReserve 47 = .ok (.iload 6, 2) := by decide +kernel
theorem dX10_wouldReserve_49 : decode cX10_wouldReserve 49 = .ok (.aload_n 0, 1) := by decide +kernel
theorem dX10_wouldReserve_50 : decode cX10_wouldReserve 50 = .ok (.getfield 13, 3) := by decide +kernel
theorem dX10_wouldReserve_53 : decode cX10_wouldReserve 53 = .ok (.bipush 12, 2) := by decide +kernel
theorem dX10_wouldReserve_55 : decode cX10_wouldReserve 55 = .ok (.iaload, 1) := by decide +kernel
theorem dX10_wouldReserve_56 : decode cX10_wouldReserve 56 = .ok (.if_icmp .ge 33, 3) := by decide +kernel
theorem dX10_wouldReserve_59 : decode cX10_wouldReserve 59 = .ok (.iload 5, 2) := by decide +kernel
theorem dX10_wouldReserve_61 : decode cX10_wouldReserve 61 = .ok (.iconst 0, 1) := by decide +kernel
theorem dX10_wouldReserve_62 : decode cX10_wouldReserve 62 = .ok (.aload_n 0, 1) := by decide +kernel
theorem dX10_wouldReserve_63 : decode cX10_wouldReserve 63 = .ok (.getfield 41, 3) := by decide +kernel
theorem dX10_wouldReserve_66 : decode cX10_wouldReserve 66 = .ok (.iload 6, 2) := by decide +kernel
theorem dX10_wouldReserve_68 : decode cX10_wouldReserve 68 = .ok (.iaload, 1) := by decide +kernel
theorem dX10_wouldReserve_69 : decode cX10_wouldReserve 69 = .ok (.ineg, 1) := by decide +kernel
theorem dX10_wouldReserve_70 : decode cX10_wouldReserve 70 = .ok (.aload_n 0, 1) := by decide +kernel
theorem dX10_wouldReserve_71 : decode cX10_wouldReserve 71 = .ok (.iload 6, 2) := by decide +kernel
theorem dX10_wouldReserve_73 : decode cX10_wouldReserve 73 = .ok (.invokevirtual 106, 3) := by decide +kernel
theorem dX10_wouldReserve_76 : decode cX10_wouldReserve 76 = .ok (.isub, 1) := by decide +kernel
theorem dX10_wouldReserve_77 : decode cX10_wouldReserve 77 = .ok (.invokestatic 302, 3) := by decide +kernel
theorem dX10_wouldReserve_80 : decode cX10_wouldReserve 80 = .ok (.isub, 1) := by decide +kernel
theorem dX10_wouldReserve_81 : decode cX10_wouldReserve 81 = .ok (.istore 5, 2) := by decide +kernel
theorem dX10_wouldReserve_83 : decode cX10_wouldReserve 83 = .ok (.iinc 6 1, 3) := by decide +kernel
theorem dX10_wouldReserve_86 : decode cX10_wouldReserve 86 = .ok (.goto (-39), 3) := by decide +kernel
theorem dX10_wouldReserve_89 : decode cX10_wouldReserve 89 = .ok (.iload 5, 2) := by decide +kernel
theorem dX10_wouldReserve_91 : decode cX10_wouldReserve 91 = .ok (.ireturn, 1) := by decide +kernel
theorem dX10_cashNeeded_0 : decode cX10_cashNeeded 0 = .ok (.aload_n 0, 1) := by decide +kernel
theorem dX10_cashNeeded_1 : decode cX10_cashNeeded 1 = .ok (.iconst 0, 1) := by decide +kernel
theorem dX10_cashNeeded_2 : decode cX10_cashNeeded 2 = .ok (.putfield 66, 3) := by decide +kernel
theorem dX10_cashNeeded_5 : decode cX10_cashNeeded 5 = .ok (.aload_n 0, 1) := by decide +kernel
theorem dX10_cashNeeded_6 : decode cX10_cashNeeded 6 = .ok (.iload_n 1, 1) := by decide +kernel
theorem dX10_cashNeeded_7 : decode cX10_cashNeeded 7 = .ok (.iload_n 2, 1) := by decide +kernel
theorem dX10_cashNeeded_8 : decode cX10_cashNeeded 8 = .ok (.iload_n 3, 1) := by decide +kernel
theorem dX10_cashNeeded_9 : decode cX10_cashNeeded 9 = .ok (.iload 4, 2) := by decide +kernel
theorem dX10_cashNeeded_11 : decode cX10_cashNeeded 11 = .ok (.invokevirtual 222, 3) := by decide +kernel
theorem dX10_cashNeeded_14 : decode cX10_cashNeeded 14 = .ok (.aload_n 0, 1) := by decide +kernel
theorem dX10_cashNeeded_15 : decode cX10_cashNeeded 15 = .ok (.invokevirtual 294, 3) := by decide +kernel
theorem dX10_cashNeeded_18 : decode cX10_cashNeeded 18 = .ok (.ifCond .ne 6, 3) := by decide +kernel
theorem dX10_cashNeeded_21 : decode cX10_cashNeeded 21 = .ok (.bipush (-2), 2) := by decide +kernel
theorem dX10_cashNeeded_23 : decode cX10_cashNeeded 23 = .ok (.ireturn, 1) := by decide +kernel
theorem dX10_cashNeeded_24 : decode cX10_cashNeeded 24 = .ok (.aload_n 0, 1) := by decide +kernel
theorem dX10_cashNeeded_25 : decode cX10_cashNeeded 25 = .ok (.invokevirtual 109, 3) := by decide +kernel
theorem dX10_cashNeeded_28 : decode cX10_cashNeeded 28 = .ok (.iconst 0, 1) := by decide +kernel
theorem dX10_cashNeeded_29 : decode cX10_cashNeeded 29 = .ok (.istore 5, 2) := by decide +kernel
theorem dX10_cashNeeded_31 : decode cX10_cashNeeded 31 = .ok (.iconst 0, 1) := by decide +kernel
theorem dX10_cashNeeded_32 : decode cX10_cashNeeded 32 = .ok (.istore 6, 2) := by decide +kernel
theorem dX10_cashNeeded_34 : decode cX10_cashNeeded 34 = .ok (.iload 6, 2) := by decide +kernel
theorem dX10_cashNeeded_36 : decode cX10_cashNeeded 36 = .ok (.aload_n 0, 1) := by decide +kernel
theorem dX10_cashNeeded_37 : decode cX10_cashNeeded 37 = .ok (.getfield 13, 3) := by decide +kernel
theorem dX10_cashNeeded_40 : decode cX10_cashNeeded 40 = .ok (.bipush 12, 2) := by decide +kernel
theorem dX10_cashNeeded_42 : decode cX10_cashNeeded 42 = .ok (.iaload, 1) := by decide +kernel
theorem dX10_cashNeeded_43 : decode cX10_cashNeeded 43 = .ok (.if_icmp .ge 119, 3) := by decide +kernel
theorem dX10_cashNeeded_46 : decode cX10_cashNeeded 46 = .ok (.aload_n 0, 1) := by decide +kernel
theorem dX10_cashNeeded_47 : decode cX10_cashNeeded 47 = .ok (.getfield 41, 3) := by decide +kernel
theorem dX10_cashNeeded_50 : decode cX10_cashNeeded 50 = .ok (.iload 6, 2) := by decide +kernel
theorem dX10_cashNeeded_52 : decode cX10_cashNeeded 52 = .ok (.iaload, 1) := by decide +kernel
theorem dX10_cashNeeded_53 : decode cX10_cashNeeded 53 = .ok (.ifCond .le 21, 3) := by decide +kernel
theorem dX10_cashNeeded_56 : decode cX10_cashNeeded 56 = .ok (.aload_n 0, 1) := by decide +kernel
theorem dX10_cashNeeded_57 : decode cX10_cashNeeded 57 = .ok (.getfield 19, 3) := by decide +kernel
theorem dX10_cashNeeded_60 : decode cX10_cashNeeded 60 = .ok (.bipush 13, 2) := by decide +kernel
theorem dX10_cashNeeded_62 : decode cX10_cashNeeded 62 = .ok (.iload 6, 2) := by decide +kernel
theorem dX10_cashNeeded_64 : decode cX10_cashNeeded 64 = .ok (.iadd, 1) := by decide +kernel
theorem dX10_cashNeeded_65 : decode cX10_cashNeeded 65 = .ok (.iaload, 1) := by decide +kernel
theorem dX10_cashNeeded_66 : decode cX10_cashNeeded 66 = .ok (.iconst 1, 1) := by decide +kernel
theorem dX10_cashNeeded_67 : decode cX10_cashNeeded 67 = .ok (.if_icmp .ne 7, 3) := by decide +kernel
theorem dX10_cashNeeded_70 : decode cX10_cashNeeded 70 = .ok (.iconst 1, 1) := by decide +kernel
theorem dX10_cashNeeded_71 : decode cX10_cashNeeded 71 = .ok (.goto 4, 3) := by decide +kernel
theorem dX10_cashNeeded_74 : decode cX10_cashNeeded 74 = .ok (.iconst 0, 1) := by decide +kernel
theorem dX10_cashNeeded_75 : decode cX10_cashNeeded 75 = .ok (.istore 7, 2) := by decide +kernel
theorem dX10_cashNeeded_77 : decode cX10_cashNeeded 77 = .ok (.aload_n 0, 1) := by decide +kernel
theorem dX10_cashNeeded_78 : decode cX10_cashNeeded 78 = .ok (.getfield 19, 3) := by decide +kernel
theorem dX10_cashNeeded_81 : decode cX10_cashNeeded 81 = .ok (.bipush 21, 2) := by decide +kernel
theorem dX10_cashNeeded_83 : decode cX10_cashNeeded 83 = .ok (.iload 6, 2) := by decide +kernel
theorem dX10_cashNeeded_85 : decode cX10_cashNeeded 85 = .ok (.iadd, 1) := by decide +kernel
theorem dX10_cashNeeded_86 : decode cX10_cashNeeded 86 = .ok (.iaload, 1) := by decide +kernel
theorem dX10_cashNeeded_87 : decode cX10_cashNeeded 87 = .ok (.istore 8, 2) := by decide +kernel
theorem dX10_cashNeeded_89 : decode cX10_cashNeeded 89 = .ok (.iload 5, 2) := by decide +kernel
theorem dX10_cashNeeded_91 : decode cX10_cashNeeded 91 = .ok (.iload 7, 2) := by decide +kernel
theorem dX10_cashNeeded_93 : decode cX10_cashNeeded 93 = .ok (.ifCond .eq 23, 3) := by decide +kernel
theorem dX10_cashNeeded_96 : decode cX10_cashNeeded 96 = .ok (.aload_n 0, 1) := by decide +kernel
theorem dX10_cashNeeded_97 : decode cX10_cashNeeded 97 = .ok (.getfield 41, 3) := by decide +kernel
theorem dX10_cashNeeded_100 : decode cX10_cashNeeded 100 = .ok (.iload 6, 2) := by decide +kernel
theorem dX10_cashNeeded_102 : decode cX10_cashNeeded 102 = .ok (.iaload, 1) := by decide +kernel
theorem dX10_cashNeeded_103 : decode cX10_cashNeeded 103 = .ok (.aload_n 0, 1) := by decide +kernel
theorem dX10_cashNeeded_104 : decode cX10_cashNeeded 104 = .ok (.getfield 19, 3) := by decide +kernel
theorem dX10_cashNeeded_107 : decode cX10_cashNeeded 107 = .ok (.iconst 0, 1) := by decide +kernel
theorem dX10_cashNeeded_108 : decode cX10_cashNeeded 108 = .ok (.iaload, 1) := by decide +kernel
theorem dX10_cashNeeded_109 : decode cX10_cashNeeded 109 = .ok (.imul, 1) := by decide +kernel
theorem dX10_cashNeeded_110 : decode cX10_cashNeeded 110 = .ok (.bipush 100, 2) := by decide +kernel
theorem dX10_cashNeeded_112 : decode cX10_cashNeeded 112 = .ok (.idiv, 1) := by decide +kernel
theorem dX10_cashNeeded_113 : decode cX10_cashNeeded 113 = .ok (.goto 4, 3) := by decide +kernel
theorem dX10_cashNeeded_116 : decode cX10_cashNeeded 116 = .ok (.iconst 0, 1) := by decide +kernel
theorem dX10_cashNeeded_117 : decode cX10_cashNeeded 117 = .ok (.iadd, 1) := by decide +kernel
theorem dX10_cashNeeded_118 : decode cX10_cashNeeded 118 = .ok (.istore 5, 2) := by decide +kernel
theorem dX10_cashNeeded_120 : decode cX10_cashNeeded 120 = .ok (.iload 5, 2) := by decide +kernel
theorem dX10_cashNeeded_122 : decode cX10_cashNeeded 122 = .ok (.aload_n 0, 1) := by decide +kernel
theorem dX10_cashNeeded_123 : decode cX10_cashNeeded 123 = .ok (.getfield 19, 3) := by decide +kernel
theorem dX10_cashNeeded_126 : decode cX10_cashNeeded 126 = .ok (.iconst 5, 1) := by decide +kernel
theorem dX10_cashNeeded_127 : decode cX10_cashNeeded 127 = .ok (.iload 6, 2) := by decide +kernel
theorem dX10_cashNeeded_129 : decode cX10_cashNeeded 129 = .ok (.iadd, 1) := by decide +kernel
theorem dX10_cashNeeded_130 : decode cX10_cashNeeded 130 = .ok (.iaload, 1) := by decide +kernel
theorem dX10_cashNeeded_131 : decode cX10_cashNeeded 131 = .ok (.iconst 1, 1) := by decide +kernel
theorem dX10_cashNeeded_132 : decode cX10_cashNeeded 132 = .ok (.if_icmp .ne 20, 3) := by decide +kernel
theorem dX10_cashNeeded_135 : decode cX10_cashNeeded 135 = .ok (.aload_n 0, 1) := by decide +kernel
theorem dX10_cashNeeded_136 : decode cX10_cashNeeded 136 = .ok (.iload 6, 2) := by decide +kernel
theorem dX10_cashNeeded_138 : decode cX10_cashNeeded 138 = .ok (.invokevirtual 106, 3) := by decide +kernel
theorem dX10_cashNeeded_141 : decode cX10_cashNeeded 141 = .ok (.iload 8, 2) := by decide +kernel
theorem dX10_cashNeeded_143 : decode cX10_cashNeeded 143 = .ok (.iadd, 1) := by decide +kernel
theorem dX10_cashNeeded_144 : decode cX10_cashNeeded 144 = .ok (.iconst 1, 1) := by decide +kernel
theorem dX10_cashNeeded_145 : decode cX10_cashNeeded 145 = .ok (.isub, 1) := by decide +kernel
theorem dX10_cashNeeded_146 : decode cX10_cashNeeded 146 = .ok (.iload 8, 2) := by decide +kernel
theorem dX10_cashNeeded_148 : decode cX10_cashNeeded 148 = .ok (.idiv, 1) := by decide +kernel
theorem dX10_cashNeeded_149 : decode cX10_cashNeeded 149 = .ok (.goto 4, 3) := by decide +kernel
theorem dX10_cashNeeded_152 : decode cX10_cashNeeded 152 = .ok (.iconst 0, 1) := by decide +kernel
theorem dX10_cashNeeded_153 : decode cX10_cashNeeded 153 = .ok (.iadd, 1) := by decide +kernel
theorem dX10_cashNeeded_154 : decode cX10_cashNeeded 154 = .ok (.istore 5, 2) := by decide +kernel
theorem dX10_cashNeeded_156 : decode cX10_cashNeeded 156 = .ok (.iinc 6 1, 3) := by decide +kernel
theorem dX10_cashNeeded_159 : decode cX10_cashNeeded 159 = .ok (.goto (-125), 3) := by decide +kernel
theorem dX10_cashNeeded_162 : decode cX10_cashNeeded 162 = .ok (.iload 5, 2) := by decide +kernel
theorem dX10_cashNeeded_164 : decode cX10_cashNeeded 164 = .ok (.ireturn, 1) := by decide +kernel
theorem dX10_richest_0 : decode cX10_richest 0 = .ok (.aload_n 0, 1) := by decide +kernel
theorem dX10_richest_1 : decode cX10_richest 1 = .ok (.iconst 0, 1) := by decide +kernel
theorem dX10_richest_2 : decode cX10_richest 2 = .ok (.putfield 66, 3) := by decide +kernel
theorem dX10_richest_5 : decode cX10_richest 5 = .ok (.iconst (-1), 1) := by decide +kernel
theorem dX10_richest_6 : decode cX10_richest 6 = .ok (.istore_n 1, 1) := by decide +kernel
theorem dX10_richest_7 : decode cX10_richest 7 = .ok (.iconst 0, 1) := by decide +kernel
theorem dX10_richest_8 : decode cX10_richest 8 = .ok (.istore_n 2, 1) := by decide +kernel
theorem dX10_richest_9 : decode cX10_richest 9 = .ok (.iload_n 2, 1) := by decide +kernel
theorem dX10_richest_10 : decode cX10_richest 10 = .ok (.aload_n 0, 1) := by decide +kernel
theorem dX10_richest_11 : decode cX10_richest 11 = .ok (.getfield 13, 3) := by decide +kernel
theorem dX10_richest_14 : decode cX10_richest 14 = .ok (.bipush 12, 2) := by decide +kernel
theorem dX10_richest_16 : decode cX10_richest 16 = .ok (.iaload, 1) := by decide +kernel
theorem dX10_richest_17 : decode cX10_richest 17 = .ok (.if_icmp .ge 29, 3) := by decide +kernel
theorem dX10_richest_20 : decode cX10_richest 20 = .ok (.iload_n 1, 1) := by decide +kernel
theorem dX10_richest_21 : decode cX10_richest 21 = .ok (.iconst (-1), 1) := by decide +kernel
theorem dX10_richest_22 : decode cX10_richest 22 = .ok (.if_icmp .eq 16, 3) := by decide +kernel
theorem dX10_richest_25 : decode cX10_richest 25 = .ok (.aload_n 0, 1) := by decide +kernel
theorem dX10_richest_26 : decode cX10_richest 26 = .ok (.iload_n 2, 1) := by decide +kernel
theorem dX10_richest_27 : decode cX10_richest 27 = .ok (.invokevirtual 106, 3) := by decide +kernel
theorem dX10_richest_30 : decode cX10_richest 30 = .ok (.aload_n 0, 1) := by decide +kernel
theorem dX10_richest_31 : decode cX10_richest 31 = .ok (.iload_n 1, 1) := by decide +kernel
theorem dX10_richest_32 : decode cX10_richest 32 = .ok (.invokevirtual 106, 3) := by decide +kernel
theorem dX10_richest_35 : decode cX10_richest 35 = .ok (.if_icmp .le 5, 3) := by decide +kernel
theorem dX10_richest_38 : decode cX10_richest 38 = .ok (.iload_n 2, 1) := by decide +kernel
theorem dX10_richest_39 : decode cX10_richest 39 = .ok (.istore_n 1, 1) := by decide +kernel
theorem dX10_richest_40 : decode cX10_richest 40 = .ok (.iinc 2 1, 3) := by decide +kernel
theorem dX10_richest_43 : decode cX10_richest 43 = .ok (.goto (-34), 3) := by decide +kernel
theorem dX10_richest_46 : decode cX10_richest 46 = .ok (.iload_n 1, 1) := by decide +kernel
theorem dX10_richest_47 : decode cX10_richest 47 = .ok (.ireturn, 1) := by decide +kernel
theorem dX10_membersIn_0 : decode cX10_membersIn 0 = .ok (.aload_n 0, 1) := by decide +kernel
theorem dX10_membersIn_1 : decode cX10_membersIn 1 = .ok (.iconst 0, 1) := by decide +kernel
theorem dX10_membersIn_2 : decode cX10_membersIn 2 = .ok (.putfield 66, 3) := by decide +kernel
theorem dX10_membersIn_5 : decode cX10_membersIn 5 = .ok (.iload_n 1, 1) := by decide +kernel
theorem dX10_membersIn_6 : decode cX10_membersIn 6 = .ok (.ifCond .lt 8, 3) := by decide +kernel
theorem dX10_membersIn_9 : decode cX10_membersIn 9 = .ok (.iload_n 1, 1) := by decide +kernel
theorem dX10_membersIn_10 : decode cX10_membersIn 10 = .ok (.iconst 2, 1) := by decide +kernel
theorem dX10_membersIn_11 : decode cX10_membersIn 11 = .ok (.if_icmp .le 6, 3) := by decide +kernel
theorem dX10_membersIn_14 : decode cX10_membersIn 14 = .ok (.bipush (-2), 2) := by decide +kernel
theorem dX10_membersIn_16 : decode cX10_membersIn 16 = .ok (.ireturn, 1) := by decide +kernel
theorem dX10_membersIn_17 : decode cX10_membersIn 17 = .ok (.iconst 0, 1) := by decide +kernel
theorem dX10_membersIn_18 : decode cX10_membersIn 18 = .ok (.istore_n 2, 1) := by decide +kernel
theorem dX10_membersIn_19 : decode cX10_membersIn 19 = .ok (.iconst 0, 1) := by decide +kernel
theorem dX10_membersIn_20 : decode cX10_membersIn 20 = .ok (.istore_n 3, 1) := by decide +kernel
theorem dX10_membersIn_21 : decode cX10_membersIn 21 = .ok (.iload_n 3, 1) := by decide +kernel
theorem dX10_membersIn_22 : decode cX10_membersIn 22 = .ok (.aload_n 0, 1) := by decide +kernel
theorem dX10_membersIn_23 : decode cX10_membersIn 23 = .ok (.getfield 13, 3) := by decide +kernel
theorem dX10_membersIn_26 : decode cX10_membersIn 26 = .ok (.bipush 12, 2) := by decide +kernel
theorem dX10_membersIn_28 : decode cX10_membersIn 28 = .ok (.iaload, 1) := by decide +kernel
theorem dX10_membersIn_29 : decode cX10_membersIn 29 = .ok (.if_icmp .ge 29, 3) := by decide +kernel
theorem dX10_membersIn_32 : decode cX10_membersIn 32 = .ok (.iload_n 2, 1) := by decide +kernel
theorem dX10_membersIn_33 : decode cX10_membersIn 33 = .ok (.aload_n 0, 1) := by decide +kernel
theorem dX10_membersIn_34 : decode cX10_membersIn 34 = .ok (.getfield 19, 3) := by decide +kernel
theorem dX10_membersIn_37 : decode cX10_membersIn 37 = .ok (.iconst 5, 1) := by decide +kernel
theorem dX10_membersIn_38 : decode cX10_membersIn 38 = .ok (.iload_n 3, 1) := by decide +kernel
theorem dX10_membersIn_39 : decode cX10_membersIn 39 = .ok (.iadd, 1) := by decide +kernel
theorem dX10_membersIn_40 : decode cX10_membersIn 40 = .ok (.iaload, 1) := by decide +kernel
theorem dX10_membersIn_41 : decode cX10_membersIn 41 = .ok (.iload_n 1, 1) := by decide +kernel
theorem dX10_membersIn_42 : decode cX10_membersIn 42 = .ok (.if_icmp .ne 7, 3) := by decide +kernel
theorem dX10_membersIn_45 : decode cX10_membersIn 45 = .ok (.iconst 1, 1) := by decide +kernel
theorem dX10_membersIn_46 : decode cX10_membersIn 46 = .ok (.goto 4, 3) := by decide +kernel
theorem dX10_membersIn_49 : decode cX10_membersIn 49 = .ok (.iconst 0, 1) := by decide +kernel
theorem dX10_membersIn_50 : decode cX10_membersIn 50 = .ok (.iadd, 1) := by decide +kernel
theorem dX10_membersIn_51 : decode cX10_membersIn 51 = .ok (.istore_n 2, 1) := by decide +kernel
theorem dX10_membersIn_52 : decode cX10_membersIn 52 = .ok (.iinc 3 1, 3) := by decide +kernel
theorem dX10_membersIn_55 : decode cX10_membersIn 55 = .ok (.goto (-34), 3) := by decide +kernel
theorem dX10_membersIn_58 : decode cX10_membersIn 58 = .ok (.iload_n 2, 1) := by decide +kernel
theorem dX10_membersIn_59 : decode cX10_membersIn 59 = .ok (.ireturn, 1) := by decide +kernel
theorem dX10_partOf_0 : decode cX10_partOf 0 = .ok (.aload_n 0, 1) := by decide +kernel
theorem dX10_partOf_1 : decode cX10_partOf 1 = .ok (.aload_n 0, 1) := by decide +kernel
theorem dX10_partOf_2 : decode cX10_partOf 2 = .ok (.iload_n 1, 1) := by decide +kernel
theorem dX10_partOf_3 : decode cX10_partOf 3 = .ok (.invokevirtual 269, 3) := by decide +kernel
theorem dX10_partOf_6 : decode cX10_partOf 6 = .ok (.invokevirtual 272, 3) := by decide +kernel
theorem dX10_partOf_9 : decode cX10_partOf 9 = .ok (.ifCond .ne 5, 3) := by decide +kernel
theorem dX10_partOf_12 : decode cX10_partOf 12 = .ok (.dconst 0, 1) := by decide +kernel
theorem dX10_partOf_13 : decode cX10_partOf 13 = .ok (.dreturn, 1) := by decide +kernel
theorem dX10_partOf_14 : decode cX10_partOf 14 = .ok (.aload_n 0, 1) := by decide +kernel
theorem dX10_partOf_15 : decode cX10_partOf 15 = .ok (.iload_n 1, 1) := by decide +kernel
theorem dX10_partOf_16 : decode cX10_partOf 16 = .ok (.invokevirtual 106, 3) := by decide +kernel
theorem dX10_partOf_19 : decode cX10_partOf 19 = .ok (.istore_n 2, 1) := by decide +kernel
theorem dX10_partOf_20 : decode cX10_partOf 20 = .ok (.aload_n 0, 1) := by decide +kernel
theorem dX10_partOf_21 : decode cX10_partOf 21 = .ok (.invokevirtual 305, 3) := by decide +kernel
theorem dX10_partOf_24 : decode cX10_partOf 24 = .ok (.istore_n 3, 1) := by decide +kernel
theorem dX10_partOf_25 : decode cX10_partOf 25 = .ok (.iload_n 3, 1) := by decide +kernel
theorem dX10_partOf_26 : decode cX10_partOf 26 = .ok (.ifCond .ne 9, 3) := by decide +kernel
theorem dX10_partOf_29 : decode cX10_partOf 29 = .ok (.ldc2_w 292, 3) := by decide +kernel
theorem dX10_partOf_32 : decode cX10_partOf 32 = .ok (.goto 8, 3) := by decide +kernel
theorem dX10_partOf_35 : decode cX10_partOf 35 = .ok (.iload_n 2, 1) := by decide +kernel
theorem dX10_partOf_36 : decode cX10_partOf 36 = .ok (.i2d, 1) := by decide +kernel
theorem dX10_partOf_37 : decode cX10_partOf 37 = .ok (.iload_n 3, 1) := by decide +kernel
theorem dX10_partOf_38 : decode cX10_partOf 38 = .ok (.i2d, 1) := by decide +kernel
theorem dX10_partOf_39 : decode cX10_partOf 39 = .ok (.ddiv, 1) := by decide +kernel
theorem dX10_partOf_40 : decode cX10_partOf 40 = .ok (.dreturn, 1) := by decide +kernel
theorem dX10_activeEquity_0 : decode cX10_activeEquity 0 = .ok (.iconst 0, 1) := by decide +kernel
theorem dX10_activeEquity_1 : decode cX10_activeEquity 1 = .ok (.istore_n 1, 1) := by decide +kernel
theorem dX10_activeEquity_2 : decode cX10_activeEquity 2 = .ok (.iconst 0, 1) := by decide +kernel
theorem dX10_activeEquity_3 : decode cX10_activeEquity 3 = .ok (.istore_n 2, 1) := by decide +kernel
theorem dX10_activeEquity_4 : decode cX10_activeEquity 4 = .ok (.iload_n 2, 1) := by decide +kernel
theorem dX10_activeEquity_5 : decode cX10_activeEquity 5 = .ok (.aload_n 0, 1) := by decide +kernel
theorem dX10_activeEquity_6 : decode cX10_activeEquity 6 = .ok (.getfield 13, 3) := by decide +kernel
theorem dX10_activeEquity_9 : decode cX10_activeEquity 9 = .ok (.bipush 12, 2) := by decide +kernel
theorem dX10_activeEquity_11 : decode cX10_activeEquity 11 = .ok (.iaload, 1) := by decide +kernel
theorem dX10_activeEquity_12 : decode cX10_activeEquity 12 = .ok (.if_icmp .ge 32, 3) := by decide +kernel
theorem dX10_activeEquity_15 : decode cX10_activeEquity 15 = .ok (.iload_n 1, 1) := by decide +kernel
theorem dX10_activeEquity_16 : decode cX10_activeEquity 16 = .ok (.aload_n 0, 1) := by decide +kernel
theorem dX10_activeEquity_17 : decode cX10_activeEquity 17 = .ok (.getfield 19, 3) := by decide +kernel
theorem dX10_activeEquity_20 : decode cX10_activeEquity 20 = .ok (.iconst 5, 1) := by decide +kernel
theorem dX10_activeEquity_21 : decode cX10_activeEquity 21 = .ok (.iload_n 2, 1) := by decide +kernel
theorem dX10_activeEquity_22 : decode cX10_activeEquity 22 = .ok (.iadd, 1) := by decide +kernel
theorem dX10_activeEquity_23 : decode cX10_activeEquity 23 = .ok (.iaload, 1) := by decide +kernel
theorem dX10_activeEquity_24 : decode cX10_activeEquity 24 = .ok (.ifCond .ne 11, 3) := by decide +kernel
theorem dX10_activeEquity_27 : decode cX10_activeEquity 27 = .ok (.aload_n 0, 1) := by decide +kernel
theorem dX10_activeEquity_28 : decode cX10_activeEquity 28 = .ok (.iload_n 2, 1) := by decide +kernel
theorem dX10_activeEquity_29 : decode cX10_activeEquity 29 = .ok (.invokevirtual 106, 3) := by decide +kernel
theorem dX10_activeEquity_32 : decode cX10_activeEquity 32 = .ok (.goto 4, 3) := by decide +kernel
theorem dX10_activeEquity_35 : decode cX10_activeEquity 35 = .ok (.iconst 0, 1) := by decide +kernel
theorem dX10_activeEquity_36 : decode cX10_activeEquity 36 = .ok (.iadd, 1) := by decide +kernel
theorem dX10_activeEquity_37 : decode cX10_activeEquity 37 = .ok (.istore_n 1, 1) := by decide +kernel
theorem dX10_activeEquity_38 : decode cX10_activeEquity 38 = .ok (.iinc 2 1, 3) := by decide +kernel
theorem dX10_activeEquity_41 : decode cX10_activeEquity 41 = .ok (.goto (-37), 3) := by decide +kernel
theorem dX10_activeEquity_44 : decode cX10_activeEquity 44 = .ok (.iload_n 1, 1) := by decide +kernel
theorem dX10_activeEquity_45 : decode cX10_activeEquity 45 = .ok (.ireturn, 1) := by decide +kernel
theorem dX10_redemptionsNeeded_0 : decode cX10_redemptionsNeeded 0 = .ok (.aload_n 0, 1) := by decide +kernel
theorem dX10_redemptionsNeeded_1 : decode cX10_redemptionsNeeded 1 = .ok (.iconst 0, 1) := by decide +kernel
theorem dX10_redemptionsNeeded_2 : decode cX10_redemptionsNeeded 2 = .ok (.putfield 66, 3) := by decide +kernel
theorem dX10_redemptionsNeeded_5 : decode cX10_redemptionsNeeded 5 = .ok (.iload_n 1, 1) := by decide +kernel
theorem dX10_redemptionsNeeded_6 : decode cX10_redemptionsNeeded 6 = .ok (.ifCond .lt 9, 3) := by decide +kernel
theorem dX10_redemptionsNeeded_9 : decode cX10_redemptionsNeeded 9 = .ok (.iload_n 1, 1) := by decide +kernel
theorem dX10_redemptionsNeeded_10 : decode cX10_redemptionsNeeded 10 = .ok (.ldc 174, 2) := by decide +kernel
theorem dX10_redemptionsNeeded_12 : decode cX10_redemptionsNeeded 12 = .ok (.if_icmp .le 6, 3) := by decide +kernel
theorem dX10_redemptionsNeeded_15 : decode cX10_redemptionsNeeded 15 = .ok (.bipush (-2), 2) := by decide +kernel
theorem dX10_redemptionsNeeded_17 : decode cX10_redemptionsNeeded 17 = .ok (.ireturn, 1) := by decide +kernel
theorem dX10_redemptionsNeeded_18 : decode cX10_redemptionsNeeded 18 = .ok (.aload_n 0, 1) := by decide +kernel
theorem dX10_redemptionsNeeded_19 : decode cX10_redemptionsNeeded 19 = .ok (.getfield 19, 3) := by decide +kernel
theorem dX10_redemptionsNeeded_22 : decode cX10_redemptionsNeeded 22 = .ok (.aload_n 0, 1) := by decide +kernel
theorem dX10_redemptionsNeeded_23 : decode cX10_redemptionsNeeded 23 = .ok (.getfield 60, 3) := by decide +kernel
theorem dX10_redemptionsNeeded_26 : decode cX10_redemptionsNeeded 26 = .ok (.invokestatic 256, 3) := by decide +kernel
theorem dX10_redemptionsNeeded_29 : decode cX10_redemptionsNeeded 29 = .ok (.iconst 0, 1) := by decide +kernel
theorem dX10_redemptionsNeeded_30 : decode cX10_redemptionsNeeded 30 = .ok (.istore_n 2, 1) := by decide +kernel
theorem dX10_redemptionsNeeded_31 : decode cX10_redemptionsNeeded 31 = .ok (.iload_n 2, 1) := by decide +kernel
theorem dX10_redemptionsNeeded_32 : decode cX10_redemptionsNeeded 32 = .ok (.bipush 60, 2) := by decide +kernel
theorem dX10_redemptionsNeeded_34 : decode cX10_redemptionsNeeded 34 = .ok (.if_icmp .ge 38, 3) := by decide +kernel
theorem dX10_redemptionsNeeded_37 : decode cX10_redemptionsNeeded 37 = .ok (.aload_n 0, 1) := by decide +kernel
theorem dX10_redemptionsNeeded_38 : decode cX10_redemptionsNeeded 38 = .ok (.invokevirtual 308, 3) := by decide +kernel
theorem dX10_redemptionsNeeded_41 : decode cX10_redemptionsNeeded 41 = .ok (.ifCond .le 31, 3) := by decide +kernel
theorem dX10_redemptionsNeeded_44 : decode cX10_redemptionsNeeded 44 = .ok (.aload_n 0, 1) := by decide +kernel
theorem dX10_redemptionsNeeded_45 : decode cX10_redemptionsNeeded 45 = .ok (.iload_n 1, 1) := by decide +kernel
theorem dX10_redemptionsNeeded_46 : decode cX10_redemptionsNeeded 46 = .ok (.invokevirtual 299, 3) := by decide +kernel
theorem dX10_redemptionsNeeded_49 : decode cX10_redemptionsNeeded 49 = .ok (.istore_n 3, 1) := by decide +kernel
theorem dX10_redemptionsNeeded_50 : decode cX10_redemptionsNeeded 50 = .ok (.aload_n 0, 1) := by decide +kernel
theorem dX10_redemptionsNeeded_51 : decode cX10_redemptionsNeeded 51 = .ok (.invokevirtual 311, 3) := by decide +kernel
theorem dX10_redemptionsNeeded_54 : decode cX10_redemptionsNeeded 54 = .ok (.aload_n 0, 1) := by decide +kernel
theorem dX10_redemptionsNeeded_55 : decode cX10_redemptionsNeeded 55 = .ok (.getfield 19, 3) := by decide +kernel
theorem dX10_redemptionsNeeded_58 : decode cX10_redemptionsNeeded 58 = .ok (.sipush 494, 3) := by decide +kernel
theorem dX10_redemptionsNeeded_61 : decode cX10_redemptionsNeeded 61 = .ok (.dup2, 1) := by decide +kernel
theorem dX10_redemptionsNeeded_62 : decode cX10_redemptionsNeeded 62 = .ok (.iaload, 1) := by decide +kernel
theorem dX10_redemptionsNeeded_63 : decode cX10_redemptionsNeeded 63 = .ok (.iconst 1, 1) := by decide +kernel
theorem dX10_redemptionsNeeded_64 : decode cX10_redemptionsNeeded 64 = .ok (.iadd, 1) := by decide +kernel
theorem dX10_redemptionsNeeded_65 : decode cX10_redemptionsNeeded 65 = .ok (.iastore, 1) := by decide +kernel
theorem dX10_redemptionsNeeded_66 : decode cX10_redemptionsNeeded 66 = .ok (.iinc 2 1, 3) := by decide +kernel
theorem dX10_redemptionsNeeded_69 : decode cX10_redemptionsNeeded 69 = .ok (.goto (-38), 3) := by decide +kernel
theorem dX10_redemptionsNeeded_72 : decode cX10_redemptionsNeeded 72 = .ok (.aload_n 0, 1) := by decide +kernel
theorem dX10_redemptionsNeeded_73 : decode cX10_redemptionsNeeded 73 = .ok (.invokevirtual 308, 3) := by decide +kernel
theorem dX10_redemptionsNeeded_76 : decode cX10_redemptionsNeeded 76 = .ok (.ifCond .ne 7, 3) := by decide +kernel
theorem dX10_redemptionsNeeded_79 : decode cX10_redemptionsNeeded 79 = .ok (.iconst 1, 1) := by decide +kernel
theorem dX10_redemptionsNeeded_80 : decode cX10_redemptionsNeeded 80 = .ok (.goto 4, 3) := by decide +kernel
theorem dX10_redemptionsNeeded_83 : decode cX10_redemptionsNeeded 83 = .ok (.iconst 0, 1) := by decide +kernel
theorem dX10_redemptionsNeeded_84 : decode cX10_redemptionsNeeded 84 = .ok (.istore_n 3, 1) := by decide +kernel
theorem dX10_redemptionsNeeded_85 : decode cX10_redemptionsNeeded 85 = .ok (.aload_n 0, 1) := by decide +kernel
theorem dX10_redemptionsNeeded_86 : decode cX10_redemptionsNeeded 86 = .ok (.getfield 60, 3) := by decide +kernel
theorem dX10_redemptionsNeeded_89 : decode cX10_redemptionsNeeded 89 = .ok (.aload_n 0, 1) := by decide +kernel
theorem dX10_redemptionsNeeded_90 : decode cX10_redemptionsNeeded 90 = .ok (.getfield 19, 3) := by decide +kernel
theorem dX10_redemptionsNeeded_93 : decode cX10_redemptionsNeeded 93 = .ok (.invokestatic 256, 3) := by decide +kernel
theorem dX10_redemptionsNeeded_96 : decode cX10_redemptionsNeeded 96 = .ok (.iload_n 3, 1) := by decide +kernel
theorem dX10_redemptionsNeeded_97 : decode cX10_redemptionsNeeded 97 = .ok (.ifCond .eq 7, 3) := by decide +kernel
theorem dX10_redemptionsNeeded_100 : decode cX10_redemptionsNeeded 100 = .ok (.iload_n 2, 1) := by decide +kernel
theorem dX10_redemptionsNeeded_101 : decode cX10_redemptionsNeeded 101 = .ok (.goto 4, 3) := by decide +kernel
theorem dX10_redemptionsNeeded_104 : decode cX10_redemptionsNeeded 104 = .ok (.iconst (-1), 1) := by decide +kernel
theorem dX10_redemptionsNeeded_105 : decode cX10_redemptionsNeeded 105 = .ok (.ireturn, 1) := by decide +kernel
theorem dX10_keeps_0 : decode cX10_keeps 0 = .ok (.aload_n 0, 1) := by decide +kernel
theorem dX10_keeps_1 : decode cX10_keeps 1 = .ok (.getfield 263, 3) := by decide +kernel
theorem dX10_keeps_4 : decode cX10_keeps 4 = .ok (.bipush 10, 2) := by decide +kernel
theorem dX10_keeps_6 : decode cX10_keeps 6 = .ok (.if_icmp .ne 46, 3) := by decide +kernel
theorem dX10_keeps_9 : decode cX10_keeps 9 = .ok (.sipush 497, 3) := by decide +kernel
theorem dX10_keeps_12 : decode cX10_keeps 12 = .ok (.istore_n 1, 1) := by decide +kernel
theorem dX10_keeps_13 : decode cX10_keeps 13 = .ok (.iload_n 1, 1) := by decide +kernel
theorem dX10_keeps_14 : decode cX10_keeps 14 = .ok (.sipush 4970, 3) := by decide +kernel
theorem dX10_keeps_17 : decode cX10_keeps 17 = .ok (.if_icmp .ge 25, 3) := by decide +kernel
theorem dX10_keeps_20 : decode cX10_keeps 20 = .ok (.aload_n 0, 1) := by decide +kernel
theorem dX10_keeps_21 : decode cX10_keeps 21 = .ok (.getfield 25, 3) := by decide +kernel
theorem dX10_keeps_24 : decode cX10_keeps 24 = .ok (.iload_n 1, 1) := by decide +kernel
theorem dX10_keeps_25 : decode cX10_keeps 25 = .ok (.sipush 497, 3) := by decide +kernel
theorem dX10_keeps_28 : decode cX10_keeps 28 = .ok (.isub, 1) := by decide +kernel
theorem dX10_keeps_29 : decode cX10_keeps 29 = .ok (.aload_n 0, 1) := by decide +kernel
theorem dX10_keeps_30 : decode cX10_keeps 30 = .ok (.getfield 25, 3) := by decide +kernel
theorem dX10_keeps_33 : decode cX10_keeps 33 = .ok (.iload_n 1, 1) := by decide +kernel
theorem dX10_keeps_34 : decode cX10_keeps 34 = .ok (.iaload, 1) := by decide +kernel
theorem dX10_keeps_35 : decode cX10_keeps 35 = .ok (.iastore, 1) := by decide +kernel
theorem dX10_keeps_36 : decode cX10_keeps 36 = .ok (.iinc 1 1, 3) := by decide +kernel
theorem dX10_keeps_39 : decode cX10_keeps 39 = .ok (.goto (-26), 3) := by decide +kernel
theorem dX10_keeps_42 : decode cX10_keeps 42 = .ok (.aload_n 0, 1) := by decide +kernel
theorem dX10_keeps_43 : decode cX10_keeps 43 = .ok (.dup, 1) := by decide +kernel
theorem dX10_keeps_44 : decode cX10_keeps 44 = .ok (.getfield 263, 3) := by decide +kernel
theorem dX10_keeps_47 : decode cX10_keeps 47 = .ok (.iconst 1, 1) := by decide +kernel
theorem dX10_keeps_48 : decode cX10_keeps 48 = .ok (.isub, 1) := by decide +kernel
theorem dX10_keeps_49 : decode cX10_keeps 49 = .ok (.putfield 263, 3) := by decide +kernel
theorem dX10_keeps_52 : decode cX10_keeps 52 = .ok (.iconst 0, 1) := by decide +kernel
theorem dX10_keeps_53 : decode cX10_keeps 53 = .ok (.istore_n 1, 1) := by decide +kernel
theorem dX10_keeps_54 : decode cX10_keeps 54 = .ok (.iload_n 1, 1) := by decide +kernel
theorem dX10_keeps_55 : decode cX10_keeps 55 = .ok (.sipush 497, 3) := by decide +kernel
theorem dX10_keeps_58 : decode cX10_keeps 58 = .ok (.if_icmp .ge 30, 3) := by decide +kernel
theorem dX10_keeps_61 : decode cX10_keeps 61 = .ok (.aload_n 0, 1) := by decide +kernel
theorem dX10_keeps_62 : decode cX10_keeps 62 = .ok (.getfield 25, 3) := by decide +kernel
theorem dX10_keeps_65 : decode cX10_keeps 65 = .ok (.sipush 497, 3) := by decide +kernel
theorem dX10_keeps_68 : decode cX10_keeps 68 = .ok (.aload_n 0, 1) := by decide +kernel
theorem dX10_keeps_69 : decode cX10_keeps 69 = .ok (.getfield 263, 3) := by decide +kernel
theorem dX10_keeps_72 : decode cX10_keeps 72 = .ok (.imul, 1) := by decide +kernel
theorem dX10_keeps_73 : decode cX10_keeps 73 = .ok (.iload_n 1, 1) := by decide +kernel
theorem dX10_keeps_74 : decode cX10_keeps 74 = .ok (.iadd, 1) := by decide +kernel
theorem dX10_keeps_75 : decode cX10_keeps 75 = .ok (.aload_n 0, 1) := by decide +kernel
theorem dX10_keeps_76 : decode cX10_keeps 76 = .ok (.getfield 19, 3) := by decide +kernel
theorem dX10_keeps_79 : decode cX10_keeps 79 = .ok (.iload_n 1, 1) := by decide +kernel
theorem dX10_keeps_80 : decode cX10_keeps 80 = .ok (.iaload, 1) := by decide +kernel
theorem dX10_keeps_81 : decode cX10_keeps 81 = .ok (.iastore, 1) := by decide +kernel
theorem dX10_keeps_82 : decode cX10_keeps 82 = .ok (.iinc 1 1, 3) := by decide +kernel
theorem dX10_keeps_85 : decode cX10_keeps 85 = .ok (.goto (-31), 3) := by decide +kernel
theorem dX10_keeps_88 : decode cX10_keeps 88 = .ok (.aload_n 0, 1) := by decide +kernel
theorem dX10_keeps_89 : decode cX10_keeps 89 = .ok (.dup, 1) := by decide +kernel
theorem dX10_keeps_90 : decode cX10_keeps 90 = .ok (.getfield 263, 3) := by decide +kernel
theorem dX10_keeps_93 : decode cX10_keeps 93 = .ok (.iconst 1, 1) := by decide +kernel
theorem dX10_keeps_94 : decode cX10_keeps 94 = .ok (.iadd, 1) := by decide +kernel
theorem dX10_keeps_95 : decode cX10_keeps 95 = .ok (.putfield 263, 3) := by decide +kernel
theorem dX10_keeps_98 : decode cX10_keeps 98 = .ok (.return_, 1) := by decide +kernel
theorem dX10_undo_0 : decode cX10_undo 0 = .ok (.aload_n 0, 1) := by decide +kernel
theorem dX10_undo_1 : decode cX10_undo 1 = .ok (.iconst 0, 1) := by decide +kernel
theorem dX10_undo_2 : decode cX10_undo 2 = .ok (.putfield 66, 3) := by decide +kernel
theorem dX10_undo_5 : decode cX10_undo 5 = .ok (.aload_n 0, 1) := by decide +kernel
theorem dX10_undo_6 : decode cX10_undo 6 = .ok (.getfield 263, 3) := by decide +kernel
theorem dX10_undo_9 : decode cX10_undo 9 = .ok (.ifCond .ne 5, 3) := by decide +kernel
theorem dX10_undo_12 : decode cX10_undo 12 = .ok (.iconst (-1), 1) := by decide +kernel
theorem dX10_undo_13 : decode cX10_undo 13 = .ok (.ireturn, 1) := by decide +kernel
theorem dX10_undo_14 : decode cX10_undo 14 = .ok (.aload_n 0, 1) := by decide +kernel
theorem dX10_undo_15 : decode cX10_undo 15 = .ok (.dup, 1) := by decide +kernel
theorem dX10_undo_16 : decode cX10_undo 16 = .ok (.getfield 263, 3) := by decide +kernel
theorem dX10_undo_19 : decode cX10_undo 19 = .ok (.iconst 1, 1) := by decide +kernel
theorem dX10_undo_20 : decode cX10_undo 20 = .ok (.isub, 1) := by decide +kernel
theorem dX10_undo_21 : decode cX10_undo 21 = .ok (.putfield 263, 3) := by decide +kernel
theorem dX10_undo_24 : decode cX10_undo 24 = .ok (.iconst 0, 1) := by decide +kernel
theorem dX10_undo_25 : decode cX10_undo 25 = .ok (.istore_n 1, 1) := by decide +kernel
theorem dX10_undo_26 : decode cX10_undo 26 = .ok (.iload_n 1, 1) := by decide +kernel
theorem dX10_undo_27 : decode cX10_undo 27 = .ok (.sipush 497, 3) := by decide +kernel
theorem dX10_undo_30 : decode cX10_undo 30 = .ok (.if_icmp .ge 30, 3) := by decide +kernel
theorem dX10_undo_33 : decode cX10_undo 33 = .ok (.aload_n 0, 1) := by decide +kernel
theorem dX10_undo_34 : decode cX10_undo 34 = .ok (.getfield 19, 3) := by decide +kernel
theorem dX10_undo_37 : decode cX10_undo 37 = .ok (.iload_n 1, 1) := by decide +kernel
theorem dX10_undo_38 : decode cX10_undo 38 = .ok (.aload_n 0, 1) := by decide +kernel
theorem dX10_undo_39 : decode cX10_undo 39 = .ok (.getfield 25, 3) := by decide +kernel
theorem dX10_undo_42 : decode cX10_undo 42 = .ok (.sipush 497, 3) := by decide +kernel
theorem dX10_undo_45 : decode cX10_undo 45 = .ok (.aload_n 0, 1) := by decide +kernel
theorem dX10_undo_46 : decode cX10_undo 46 = .ok (.getfield 263, 3) := by decide +kernel
theorem dX10_undo_49 : decode cX10_undo 49 = .ok (.imul, 1) := by decide +kernel
theorem dX10_undo_50 : decode cX10_undo 50 = .ok (.iload_n 1, 1) := by decide +kernel
theorem dX10_undo_51 : decode cX10_undo 51 = .ok (.iadd, 1) := by decide +kernel
theorem dX10_undo_52 : decode cX10_undo 52 = .ok (.iaload, 1) := by decide +kernel
theorem dX10_undo_53 : decode cX10_undo 53 = .ok (.iastore, 1) := by decide +kernel
theorem dX10_undo_54 : decode cX10_undo 54 = .ok (.iinc 1 1, 3) := by decide +kernel
theorem dX10_undo_57 : decode cX10_undo 57 = .ok (.goto (-31), 3) := by decide +kernel
theorem dX10_undo_60 : decode cX10_undo 60 = .ok (.aload_n 0, 1) := by decide +kernel
theorem dX10_undo_61 : decode cX10_undo 61 = .ok (.getfield 263, 3) := by decide +kernel
theorem dX10_undo_64 : decode cX10_undo 64 = .ok (.ireturn, 1) := by decide +kernel
theorem dX10_trade_0 : decode cX10_trade 0 = .ok (.aload_n 0, 1) := by decide +kernel
theorem dX10_trade_1 : decode cX10_trade 1 = .ok (.iconst 0, 1) := by decide +kernel
theorem dX10_trade_2 : decode cX10_trade 2 = .ok (.putfield 66, 3) := by decide +kernel
theorem dX10_trade_5 : decode cX10_trade 5 = .ok (.aload_n 0, 1) := by decide +kernel
theorem dX10_trade_6 : decode cX10_trade 6 = .ok (.iload_n 1, 1) := by decide +kernel
theorem dX10_trade_7 : decode cX10_trade 7 = .ok (.invokevirtual 269, 3) := by decide +kernel
theorem dX10_trade_10 : decode cX10_trade 10 = .ok (.ifCond .eq 11, 3) := by decide +kernel
theorem dX10_trade_13 : decode cX10_trade 13 = .ok (.aload_n 0, 1) := by decide +kernel
theorem dX10_trade_14 : decode cX10_trade 14 = .ok (.iload_n 2, 1) := by decide +kernel
theorem dX10_trade_15 : decode cX10_trade 15 = .ok (.invokevirtual 276, 3) := by decide +kernel
theorem dX10_trade_18 : decode cX10_trade 18 = .ok (.ifCond .ne 5, 3) := by decide +kernel
theorem dX10_trade_21 : decode cX10_trade 21 = .ok (.iconst (-1), 1) := by decide +kernel
theorem dX10_trade_22 : decode cX10_trade 22 = .ok (.ireturn, 1) := by decide +kernel
theorem dX10_trade_23 : decode cX10_trade 23 = .ok (.iload_n 3, 1) := by decide +kernel
theorem dX10_trade_24 : decode cX10_trade 24 = .ok (.iconst 1, 1) := by decide +kernel
theorem dX10_trade_25 : decode cX10_trade 25 = .ok (.if_icmp .lt 9, 3) := by decide +kernel
theorem dX10_trade_28 : decode cX10_trade 28 = .ok (.iload_n 3, 1) := by decide +kernel
theorem dX10_trade_29 : decode cX10_trade 29 = .ok (.ldc 218, 2) := by decide +kernel
theorem dX10_trade_31 : decode cX10_trade 31 = .ok (.if_icmp .le 6, 3) := by decide +kernel
theorem dX10_trade_34 : decode cX10_trade 34 = .ok (.bipush (-2), 2) := by decide +kernel
theorem dX10_trade_36 : decode cX10_trade 36 = .ok (.ireturn, 1) := by decide +kernel
theorem dX10_trade_37 : decode cX10_trade 37 = .ok (.aload_n 0, 1) := by decide +kernel
theorem dX10_trade_38 : decode cX10_trade 38 = .ok (.getfield 19, 3) := by decide +kernel
theorem dX10_trade_41 : decode cX10_trade 41 = .ok (.iconst 5, 1) := by decide +kernel
theorem dX10_trade_42 : decode cX10_trade 42 = .ok (.iload_n 1, 1) := by decide +kernel
theorem dX10_trade_43 : decode cX10_trade 43 = .ok (.iadd, 1) := by decide +kernel
theorem dX10_trade_44 : decode cX10_trade 44 = .ok (.iaload, 1) := by decide +kernel
theorem dX10_trade_45 : decode cX10_trade 45 = .ok (.ifCond .eq 6, 3) := by decide +kernel
theorem dX10_trade_48 : decode cX10_trade 48 = .ok (.bipush (-4), 2) := by decide +kernel
theorem dX10_trade_50 : decode cX10_trade 50 = .ok (.ireturn, 1) := by decide +kernel
theorem dX10_trade_51 : decode cX10_trade 51 = .ok (.bipush 29, 2) := by decide +kernel
theorem dX10_trade_53 : decode cX10_trade 53 = .ok (.iconst 4, 1) := by decide +kernel
theorem dX10_trade_54 : decode cX10_trade 54 = .ok (.iload_n 1, 1) := by decide +kernel
theorem dX10_trade_55 : decode cX10_trade 55 = .ok (.imul, 1) := by decide +kernel
theorem dX10_trade_56 : decode cX10_trade 56 = .ok (.iadd, 1) := by decide +kernel
theorem dX10_trade_57 : decode cX10_trade 57 = .ok (.iload_n 2, 1) := by decide +kernel
theorem dX10_trade_58 : decode cX10_trade 58 = .ok (.iadd, 1) := by decide +kernel
theorem dX10_trade_59 : decode cX10_trade 59 = .ok (.istore 4, 2) := by decide +kernel
theorem dX10_trade_61 : decode cX10_trade 61 = .ok (.aload_n 0, 1) := by decide +kernel
theorem dX10_trade_62 : decode cX10_trade 62 = .ok (.getfield 19, 3) := by decide +kernel
theorem dX10_trade_65 : decode cX10_trade 65 = .ok (.iload 4, 2) := by decide +kernel
theorem dX10_trade_67 : decode cX10_trade 67 = .ok (.iaload, 1) := by decide +kernel
theorem dX10_trade_68 : decode cX10_trade 68 = .ok (.iload_n 3, 1) := by decide +kernel
theorem dX10_trade_69 : decode cX10_trade 69 = .ok (.iadd, 1) := by decide +kernel
theorem dX10_trade_70 : decode cX10_trade 70 = .ok (.ldc 74, 2) := by decide +kernel
theorem dX10_trade_72 : decode cX10_trade 72 = .ok (.if_icmp .le 6, 3) := by decide +kernel
theorem dX10_trade_75 : decode cX10_trade 75 = .ok (.bipush (-3), 2) := by decide +kernel
theorem dX10_trade_77 : decode cX10_trade 77 = .ok (.ireturn, 1) := by decide +kernel
theorem dX10_trade_78 : decode cX10_trade 78 = .ok (.aload_n 0, 1) := by decide +kernel
theorem dX10_trade_79 : decode cX10_trade 79 = .ok (.invokevirtual 314, 3) := by decide +kernel
theorem dX10_trade_82 : decode cX10_trade 82 = .ok (.aload_n 0, 1) := by decide +kernel
theorem dX10_trade_83 : decode cX10_trade 83 = .ok (.getfield 19, 3) := by decide +kernel
theorem dX10_trade_86 : decode cX10_trade 86 = .ok (.iload 4, 2) := by decide +kernel
theorem dX10_trade_88 : decode cX10_trade 88 = .ok (.dup2, 1) := by decide +kernel
theorem dX10_trade_89 : decode cX10_trade 89 = .ok (.iaload, 1) := by decide +kernel
theorem dX10_trade_90 : decode cX10_trade 90 = .ok (.iload_n 3, 1) := by decide +kernel
theorem dX10_trade_91 : decode cX10_trade 91 = .ok (.iadd, 1) := by decide +kernel
theorem dX10_trade_92 : decode cX10_trade 92 = .ok (.iastore, 1) := by decide +kernel
theorem dX10_trade_93 : decode cX10_trade 93 = .ok (.aload_n 0, 1) := by decide +kernel
theorem dX10_trade_94 : decode cX10_trade 94 = .ok (.getfield 19, 3) := by decide +kernel
theorem dX10_trade_97 : decode cX10_trade 97 = .ok (.iload 4, 2) := by decide +kernel
theorem dX10_trade_99 : decode cX10_trade 99 = .ok (.iaload, 1) := by decide +kernel
theorem dX10_trade_100 : decode cX10_trade 100 = .ok (.ireturn, 1) := by decide +kernel
theorem dX10_close_0 : decode cX10_close 0 = .ok (.aload_n 0, 1) := by decide +kernel
theorem dX10_close_1 : decode cX10_close 1 = .ok (.iconst 0, 1) := by decide +kernel
theorem dX10_close_2 : decode cX10_close 2 = .ok (.putfield 66, 3) := by decide +kernel
theorem dX10_close_5 : decode cX10_close 5 = .ok (.aload_n 0, 1) := by decide +kernel
theorem dX10_close_6 : decode cX10_close 6 = .ok (.iload_n 1, 1) := by decide +kernel
theorem dX10_close_7 : decode cX10_close 7 = .ok (.iload_n 2, 1) := by decide +kernel
theorem dX10_close_8 : decode cX10_close 8 = .ok (.iload_n 3, 1) := by decide +kernel
theorem dX10_close_9 : decode cX10_close 9 = .ok (.iload 4, 2) := by decide +kernel
theorem dX10_close_11 : decode cX10_close 11 = .ok (.invokevirtual 222, 3) := by decide +kernel
theorem dX10_close_14 : decode cX10_close 14 = .ok (.aload_n 0, 1) := by decide +kernel
theorem dX10_close_15 : decode cX10_close 15 = .ok (.invokevirtual 294, 3) := by decide +kernel
theorem dX10_close_18 : decode cX10_close 18 = .ok (.ifCond .ne 6, 3) := by decide +kernel
theorem dX10_close_21 : decode cX10_close 21 = .ok (.bipush (-2), 2) := by decide +kernel
theorem dX10_close_23 : decode cX10_close 23 = .ok (.ireturn, 1) := by decide +kernel
theorem dX10_close_24 : decode cX10_close 24 = .ok (.aload_n 0, 1) := by decide +kernel
theorem dX10_close_25 : decode cX10_close 25 = .ok (.getfield 19, 3) := by decide +kernel
theorem dX10_close_28 : decode cX10_close 28 = .ok (.sipush 494, 3) := by decide +kernel
theorem dX10_close_31 : decode cX10_close 31 = .ok (.iaload, 1) := by decide +kernel
theorem dX10_close_32 : decode cX10_close 32 = .ok (.bipush 24, 2) := by decide +kernel
theorem dX10_close_34 : decode cX10_close 34 = .ok (.if_icmp .ne 6, 3) := by decide +kernel
theorem dX10_close_37 : decode cX10_close 37 = .ok (.bipush (-3), 2) := by decide +kernel
theorem dX10_close_39 : decode cX10_close 39 = .ok (.ireturn, 1) := by decide +kernel
theorem dX10_close_40 : decode cX10_close 40 = .ok (.aload_n 0, 1) := by decide +kernel
theorem dX10_close_41 : decode cX10_close 41 = .ok (.invokevirtual 314, 3) := by decide +kernel
theorem dX10_close_44 : decode cX10_close 44 = .ok (.aload_n 0, 1) := by decide +kernel
theorem dX10_close_45 : decode cX10_close 45 = .ok (.invokevirtual 226, 3) := by decide +kernel
theorem dX10_close_48 : decode cX10_close 48 = .ok (.aload_n 0, 1) := by decide +kernel
theorem dX10_close_49 : decode cX10_close 49 = .ok (.getfield 19, 3) := by decide +kernel
theorem dX10_close_52 : decode cX10_close 52 = .ok (.sipush 494, 3) := by decide +kernel
theorem dX10_close_55 : decode cX10_close 55 = .ok (.iaload, 1) := by decide +kernel
theorem dX10_close_56 : decode cX10_close 56 = .ok (.iconst 1, 1) := by decide +kernel
theorem dX10_close_57 : decode cX10_close 57 = .ok (.isub, 1) := by decide +kernel
theorem dX10_close_58 : decode cX10_close 58 = .ok (.ireturn, 1) := by decide +kernel
theorem dX10_redeem_0 : decode cX10_redeem 0 = .ok (.aload_n 0, 1) := by decide +kernel
theorem dX10_redeem_1 : decode cX10_redeem 1 = .ok (.iconst 0, 1) := by decide +kernel
theorem dX10_redeem_2 : decode cX10_redeem 2 = .ok (.putfield 66, 3) := by decide +kernel
theorem dX10_redeem_5 : decode cX10_redeem 5 = .ok (.iload_n 1, 1) := by decide +kernel
theorem dX10_redeem_6 : decode cX10_redeem 6 = .ok (.ifCond .lt 9, 3) := by decide +kernel
theorem dX10_redeem_9 : decode cX10_redeem 9 = .ok (.iload_n 1, 1) := by decide +kernel
theorem dX10_redeem_10 : decode cX10_redeem 10 = .ok (.ldc 174, 2) := by decide +kernel
theorem dX10_redeem_12 : decode cX10_redeem 12 = .ok (.if_icmp .le 6, 3) := by decide +kernel
theorem dX10_redeem_15 : decode cX10_redeem 15 = .ok (.bipush (-2), 2) := by decide +kernel
theorem dX10_redeem_17 : decode cX10_redeem 17 = .ok (.ireturn, 1) := by decide +kernel
theorem dX10_redeem_18 : decode cX10_redeem 18 = .ok (.aload_n 0, 1) := by decide +kernel
theorem dX10_redeem_19 : decode cX10_redeem 19 = .ok (.iload_n 1, 1) := by decide +kernel
theorem dX10_redeem_20 : decode cX10_redeem 20 = .ok (.invokevirtual 299, 3) := by decide +kernel
theorem dX10_redeem_23 : decode cX10_redeem 23 = .ok (.istore_n 2, 1) := by decide +kernel
theorem dX10_redeem_24 : decode cX10_redeem 24 = .ok (.iload_n 2, 1) := by decide +kernel
theorem dX10_redeem_25 : decode cX10_redeem 25 = .ok (.ifCond .ne 5, 3) := by decide +kernel
theorem dX10_redeem_28 : decode cX10_redeem 28 = .ok (.iconst 0, 1) := by decide +kernel
theorem dX10_redeem_29 : decode cX10_redeem 29 = .ok (.ireturn, 1) := by decide +kernel
theorem dX10_redeem_30 : decode cX10_redeem 30 = .ok (.aload_n 0, 1) := by decide +kernel
theorem dX10_redeem_31 : decode cX10_redeem 31 = .ok (.invokevirtual 314, 3) := by decide +kernel
theorem dX10_redeem_34 : decode cX10_redeem 34 = .ok (.aload_n 0, 1) := by decide +kernel
theorem dX10_redeem_35 : decode cX10_redeem 35 = .ok (.invokevirtual 311, 3) := by decide +kernel
theorem dX10_redeem_38 : decode cX10_redeem 38 = .ok (.iload_n 2, 1) := by decide +kernel
theorem dX10_redeem_39 : decode cX10_redeem 39 = .ok (.ireturn, 1) := by decide +kernel
theorem dX10_leave_0 : decode cX10_leave 0 = .ok (.aload_n 0, 1) := by decide +kernel
theorem dX10_leave_1 : decode cX10_leave 1 = .ok (.iconst 0, 1) := by decide +kernel
theorem dX10_leave_2 : decode cX10_leave 2 = .ok (.putfield 66, 3) := by decide +kernel
theorem dX10_leave_5 : decode cX10_leave 5 = .ok (.aload_n 0, 1) := by decide +kernel
theorem dX10_leave_6 : decode cX10_leave 6 = .ok (.iload_n 1, 1) := by decide +kernel
theorem dX10_leave_7 : decode cX10_leave 7 = .ok (.invokevirtual 269, 3) := by decide +kernel
theorem dX10_leave_10 : decode cX10_leave 10 = .ok (.ifCond .ne 5, 3) := by decide +kernel
theorem dX10_leave_13 : decode cX10_leave 13 = .ok (.iconst (-1), 1) := by decide +kernel
theorem dX10_leave_14 : decode cX10_leave 14 = .ok (.ireturn, 1) := by decide +kernel
theorem dX10_leave_15 : decode cX10_leave 15 = .ok (.aload_n 0, 1) := by decide +kernel
theorem dX10_leave_16 : decode cX10_leave 16 = .ok (.getfield 19, 3) := by decide +kernel
theorem dX10_leave_19 : decode cX10_leave 19 = .ok (.iconst 5, 1) := by decide +kernel
theorem dX10_leave_20 : decode cX10_leave 20 = .ok (.iload_n 1, 1) := by decide +kernel
theorem dX10_leave_21 : decode cX10_leave 21 = .ok (.iadd, 1) := by decide +kernel
theorem dX10_leave_22 : decode cX10_leave 22 = .ok (.iaload, 1) := by decide +kernel
theorem dX10_leave_23 : decode cX10_leave 23 = .ok (.ifCond .eq 6, 3) := by decide +kernel
theorem dX10_leave_26 : decode cX10_leave 26 = .ok (.bipush (-4), 2) := by decide +kernel
theorem dX10_leave_28 : decode cX10_leave 28 = .ok (.ireturn, 1) := by decide +kernel
theorem dX10_leave_29 : decode cX10_leave 29 = .ok (.iconst 0, 1) := by decide +kernel
theorem dX10_leave_30 : decode cX10_leave 30 = .ok (.istore_n 2, 1) := by decide +kernel
theorem dX10_leave_31 : decode cX10_leave 31 = .ok (.iload_n 2, 1) := by decide +kernel
theorem dX10_leave_32 : decode cX10_leave 32 = .ok (.iconst 4, 1) := by decide +kernel
theorem dX10_leave_33 : decode cX10_leave 33 = .ok (.if_icmp .ge 28, 3) := by decide +kernel
theorem dX10_leave_36 : decode cX10_leave 36 = .ok (.aload_n 0, 1) := by decide +kernel
theorem dX10_leave_37 : decode cX10_leave 37 = .ok (.getfield 19, 3) := by decide +kernel
theorem dX10_leave_40 : decode cX10_leave 40 = .ok (.bipush 29, 2) := by decide +kernel
theorem dX10_leave_42 : decode cX10_leave 42 = .ok (.iconst 4, 1) := by decide +kernel
theorem dX10_leave_43 : decode cX10_leave 43 = .ok (.iload_n 1, 1) := by decide +kernel
theorem dX10_leave_44 : decode cX10_leave 44 = .ok (.imul, 1) := by decide +kernel
theorem dX10_leave_45 : decode cX10_leave 45 = .ok (.iadd, 1) := by decide +kernel
theorem dX10_leave_46 : decode cX10_leave 46 = .ok (.iload_n 2, 1) := by decide +kernel
theorem dX10_leave_47 : decode cX10_leave 47 = .ok (.iadd, 1) := by decide +kernel
theorem dX10_leave_48 : decode cX10_leave 48 = .ok (.iaload, 1) := by decide +kernel
theorem dX10_leave_49 : decode cX10_leave 49 = .ok (.ifCond .le 6, 3) := by decide +kernel
theorem dX10_leave_52 : decode cX10_leave 52 = .ok (.bipush (-4), 2) := by decide +kernel
theorem dX10_leave_54 : decode cX10_leave 54 = .ok (.ireturn, 1) := by decide +kernel
theorem dX10_leave_55 : decode cX10_leave 55 = .ok (.iinc 2 1, 3) := by decide +kernel
theorem dX10_leave_58 : decode cX10_leave 58 = .ok (.goto (-27), 3) := by decide +kernel
theorem dX10_leave_61 : decode cX10_leave 61 = .ok (.aload_n 0, 1) := by decide +kernel
theorem dX10_leave_62 : decode cX10_leave 62 = .ok (.invokevirtual 314, 3) := by decide +kernel
theorem dX10_leave_65 : decode cX10_leave 65 = .ok (.aload_n 0, 1) := by decide +kernel
theorem dX10_leave_66 : decode cX10_leave 66 = .ok (.iload_n 1, 1) := by decide +kernel
theorem dX10_leave_67 : decode cX10_leave 67 = .ok (.invokevirtual 106, 3) := by decide +kernel
theorem dX10_leave_70 : decode cX10_leave 70 = .ok (.ifCond .ne 7, 3) := by decide +kernel
theorem dX10_leave_73 : decode cX10_leave 73 = .ok (.iconst 1, 1) := by decide +kernel
theorem dX10_leave_74 : decode cX10_leave 74 = .ok (.goto 4, 3) := by decide +kernel
theorem dX10_leave_77 : decode cX10_leave 77 = .ok (.iconst 0, 1) := by decide +kernel
theorem dX10_leave_78 : decode cX10_leave 78 = .ok (.istore_n 2, 1) := by decide +kernel
theorem dX10_leave_79 : decode cX10_leave 79 = .ok (.aload_n 0, 1) := by decide +kernel
theorem dX10_leave_80 : decode cX10_leave 80 = .ok (.getfield 19, 3) := by decide +kernel
theorem dX10_leave_83 : decode cX10_leave 83 = .ok (.iconst 5, 1) := by decide +kernel
theorem dX10_leave_84 : decode cX10_leave 84 = .ok (.iload_n 1, 1) := by decide +kernel
theorem dX10_leave_85 : decode cX10_leave 85 = .ok (.iadd, 1) := by decide +kernel
theorem dX10_leave_86 : decode cX10_leave 86 = .ok (.iload_n 2, 1) := by decide +kernel
theorem dX10_leave_87 : decode cX10_leave 87 = .ok (.ifCond .eq 7, 3) := by decide +kernel
theorem dX10_leave_90 : decode cX10_leave 90 = .ok (.iconst 2, 1) := by decide +kernel
theorem dX10_leave_91 : decode cX10_leave 91 = .ok (.goto 4, 3) := by decide +kernel
theorem dX10_leave_94 : decode cX10_leave 94 = .ok (.iconst 1, 1) := by decide +kernel
theorem dX10_leave_95 : decode cX10_leave 95 = .ok (.iastore, 1) := by decide +kernel
theorem dX10_leave_96 : decode cX10_leave 96 = .ok (.aload_n 0, 1) := by decide +kernel
theorem dX10_leave_97 : decode cX10_leave 97 = .ok (.getfield 19, 3) := by decide +kernel
theorem dX10_leave_100 : decode cX10_leave 100 = .ok (.bipush 21, 2) := by decide +kernel
theorem dX10_leave_102 : decode cX10_leave 102 = .ok (.iload_n 1, 1) := by decide +kernel
theorem dX10_leave_103 : decode cX10_leave 103 = .ok (.iadd, 1) := by decide +kernel
theorem dX10_leave_104 : decode cX10_leave 104 = .ok (.iload_n 2, 1) := by decide +kernel
theorem dX10_leave_105 : decode cX10_leave 105 = .ok (.ifCond .eq 7, 3) := by decide +kernel
theorem dX10_leave_108 : decode cX10_leave 108 = .ok (.iconst 0, 1) := by decide +kernel
theorem dX10_leave_109 : decode cX10_leave 109 = .ok (.goto 9, 3) := by decide +kernel
theorem dX10_leave_112 : decode cX10_leave 112 = .ok (.aload_n 0, 1) := by decide +kernel
theorem dX10_leave_113 : decode cX10_leave 113 = .ok (.getfield 19, 3) := by decide +kernel
theorem dX10_leave_116 : decode cX10_leave 116 = .ok (.iconst 2, 1) := by decide +kernel
theorem dX10_leave_117 : decode cX10_leave 117 = .ok (.iaload, 1) := by decide +kernel
theorem dX10_leave_118 : decode cX10_leave 118 = .ok (.iastore, 1) := by decide +kernel
theorem dX10_leave_119 : decode cX10_leave 119 = .ok (.aload_n 0, 1) := by decide +kernel
theorem dX10_leave_120 : decode cX10_leave 120 = .ok (.getfield 19, 3) := by decide +kernel
theorem dX10_leave_123 : decode cX10_leave 123 = .ok (.bipush 21, 2) := by decide +kernel
theorem dX10_leave_125 : decode cX10_leave 125 = .ok (.iload_n 1, 1) := by decide +kernel
theorem dX10_leave_126 : decode cX10_leave 126 = .ok (.iadd, 1) := by decide +kernel
theorem dX10_leave_127 : decode cX10_leave 127 = .ok (.iaload, 1) := by decide +kernel
theorem dX10_leave_128 : decode cX10_leave 128 = .ok (.ireturn, 1) := by decide +kernel
theorem dX10_setConsent_0 : decode cX10_setConsent 0 = .ok (.aload_n 0, 1) := by decide +kernel
theorem dX10_setConsent_1 : decode cX10_setConsent 1 = .ok (.iconst 0, 1) := by decide +kernel
theorem dX10_setConsent_2 : decode cX10_setConsent 2 = .ok (.putfield 66, 3) := by decide +kernel
theorem dX10_setConsent_5 : decode cX10_setConsent 5 = .ok (.aload_n 0, 1) := by decide +kernel
theorem dX10_setConsent_6 : decode cX10_setConsent 6 = .ok (.iload_n 1, 1) := by decide +kernel
theorem dX10_setConsent_7 : decode cX10_setConsent 7 = .ok (.invokevirtual 269, 3) := by decide +kernel
theorem dX10_setConsent_10 : decode cX10_setConsent 10 = .ok (.ifCond .ne 5, 3) := by decide +kernel
theorem dX10_setConsent_13 : decode cX10_setConsent 13 = .ok (.iconst (-1), 1) := by decide +kernel
theorem dX10_setConsent_14 : decode cX10_setConsent 14 = .ok (.ireturn, 1) := by decide +kernel
theorem dX10_setConsent_15 : decode cX10_setConsent 15 = .ok (.aload_n 0, 1) := by decide +kernel
theorem dX10_setConsent_16 : decode cX10_setConsent 16 = .ok (.invokevirtual 314, 3) := by decide +kernel
theorem dX10_setConsent_19 : decode cX10_setConsent 19 = .ok (.aload_n 0, 1) := by decide +kernel
theorem dX10_setConsent_20 : decode cX10_setConsent 20 = .ok (.getfield 19, 3) := by decide +kernel
theorem dX10_setConsent_23 : decode cX10_setConsent 23 = .ok (.bipush 13, 2) := by decide +kernel
theorem dX10_setConsent_25 : decode cX10_setConsent 25 = .ok (.iload_n 1, 1) := by decide +kernel
theorem dX10_setConsent_26 : decode cX10_setConsent 26 = .ok (.iadd, 1) := by decide +kernel
theorem dX10_setConsent_27 : decode cX10_setConsent 27 = .ok (.iload_n 2, 1) := by decide +kernel
theorem dX10_setConsent_28 : decode cX10_setConsent 28 = .ok (.ifCond .eq 7, 3) := by decide +kernel
theorem dX10_setConsent_31 : decode cX10_setConsent 31 = .ok (.iconst 1, 1) := by decide +kernel
theorem dX10_setConsent_32 : decode cX10_setConsent 32 = .ok (.goto 4, 3) := by decide +kernel
theorem dX10_setConsent_35 : decode cX10_setConsent 35 = .ok (.iconst 0, 1) := by decide +kernel
theorem dX10_setConsent_36 : decode cX10_setConsent 36 = .ok (.iastore, 1) := by decide +kernel
theorem dX10_setConsent_37 : decode cX10_setConsent 37 = .ok (.iconst 0, 1) := by decide +kernel
theorem dX10_setConsent_38 : decode cX10_setConsent 38 = .ok (.istore_n 3, 1) := by decide +kernel
theorem dX10_setConsent_39 : decode cX10_setConsent 39 = .ok (.iconst 0, 1) := by decide +kernel
theorem dX10_setConsent_40 : decode cX10_setConsent 40 = .ok (.istore 4, 2) := by decide +kernel
theorem dX10_setConsent_42 : decode cX10_setConsent 42 = .ok (.iload 4, 2) := by decide +kernel
theorem dX10_setConsent_44 : decode cX10_setConsent 44 = .ok (.aload_n 0, 1) := by decide +kernel
theorem dX10_setConsent_45 : decode cX10_setConsent 45 = .ok (.getfield 13, 3) := by decide +kernel
theorem dX10_setConsent_48 : decode cX10_setConsent 48 = .ok (.bipush 12, 2) := by decide +kernel
theorem dX10_setConsent_50 : decode cX10_setConsent 50 = .ok (.iaload, 1) := by decide +kernel
theorem dX10_setConsent_51 : decode cX10_setConsent 51 = .ok (.if_icmp .ge 22, 3) := by decide +kernel
theorem dX10_setConsent_54 : decode cX10_setConsent 54 = .ok (.iload_n 3, 1) := by decide +kernel
theorem dX10_setConsent_55 : decode cX10_setConsent 55 = .ok (.aload_n 0, 1) := by decide +kernel
theorem dX10_setConsent_56 : decode cX10_setConsent 56 = .ok (.getfield 19, 3) := by decide +kernel
theorem dX10_setConsent_59 : decode cX10_setConsent 59 = .ok (.bipush 13, 2) := by decide +kernel
theorem dX10_setConsent_61 : decode cX10_setConsent 61 = .ok (.iload 4, 2) := by decide +kernel
theorem dX10_setConsent_63 : decode cX10_setConsent 63 = .ok (.iadd, 1) := by decide +kernel
theorem dX10_setConsent_64 : decode cX10_setConsent 64 = .ok (.iaload, 1) := by decide +kernel
theorem dX10_setConsent_65 : decode cX10_setConsent 65 = .ok (.iadd, 1) := by decide +kernel
theorem dX10_setConsent_66 : decode cX10_setConsent 66 = .ok (.istore_n 3, 1) := by decide +kernel
theorem dX10_setConsent_67 : decode cX10_setConsent 67 = .ok (.iinc 4 1, 3) := by decide +kernel
theorem dX10_setConsent_70 : decode cX10_setConsent 70 = .ok (.goto (-28), 3) := by decide +kernel
theorem dX10_setConsent_73 : decode cX10_setConsent 73 = .ok (.iload_n 3, 1) := by decide +kernel
theorem dX10_setConsent_74 : decode cX10_setConsent 74 = .ok (.ireturn, 1) := by decide +kernel
theorem dX10_setSetting_0 : decode cX10_setSetting 0 = .ok (.aload_n 0, 1) := by decide +kernel
theorem dX10_setSetting_1 : decode cX10_setSetting 1 = .ok (.iconst 0, 1) := by decide +kernel
theorem dX10_setSetting_2 : decode cX10_setSetting 2 = .ok (.putfield 66, 3) := by decide +kernel
theorem dX10_setSetting_5 : decode cX10_setSetting 5 = .ok (.iload_n 1, 1) := by decide +kernel
theorem dX10_setSetting_6 : decode cX10_setSetting 6 = .ok (.invokestatic 266, 3) := by decide +kernel
theorem dX10_setSetting_9 : decode cX10_setSetting 9 = .ok (.ifCond .eq 19, 3) := by decide +kernel
theorem dX10_setSetting_12 : decode cX10_setSetting 12 = .ok (.iload_n 2, 1) := by decide +kernel
theorem dX10_setSetting_13 : decode cX10_setSetting 13 = .ok (.iload_n 1, 1) := by decide +kernel
theorem dX10_setSetting_14 : decode cX10_setSetting 14 = .ok (.invokestatic 232, 3) := by decide +kernel
theorem dX10_setSetting_17 : decode cX10_setSetting 17 = .ok (.if_icmp .lt 11, 3) := by decide +kernel
theorem dX10_setSetting_20 : decode cX10_setSetting 20 = .ok (.iload_n 2, 1) := by decide +kernel
theorem dX10_setSetting_21 : decode cX10_setSetting 21 = .ok (.iload_n 1, 1) := by decide +kernel
theorem dX10_setSetting_22 : decode cX10_setSetting 22 = .ok (.invokestatic 235, 3) := by decide +kernel
theorem dX10_setSetting_25 : decode cX10_setSetting 25 = .ok (.if_icmp .le 6, 3) := by decide +kernel
theorem dX10_setSetting_28 : decode cX10_setSetting 28 = .ok (.bipush (-2), 2) := by decide +kernel
theorem dX10_setSetting_30 : decode cX10_setSetting 30 = .ok (.ireturn, 1) := by decide +kernel
theorem dX10_setSetting_31 : decode cX10_setSetting 31 = .ok (.aload_n 0, 1) := by decide +kernel
theorem dX10_setSetting_32 : decode cX10_setSetting 32 = .ok (.invokevirtual 314, 3) := by decide +kernel
theorem dX10_setSetting_35 : decode cX10_setSetting 35 = .ok (.aload_n 0, 1) := by decide +kernel
theorem dX10_setSetting_36 : decode cX10_setSetting 36 = .ok (.getfield 19, 3) := by decide +kernel
theorem dX10_setSetting_39 : decode cX10_setSetting 39 = .ok (.iconst 0, 1) := by decide +kernel
theorem dX10_setSetting_40 : decode cX10_setSetting 40 = .ok (.iload_n 1, 1) := by decide +kernel
theorem dX10_setSetting_41 : decode cX10_setSetting 41 = .ok (.iadd, 1) := by decide +kernel
theorem dX10_setSetting_42 : decode cX10_setSetting 42 = .ok (.iaload, 1) := by decide +kernel
theorem dX10_setSetting_43 : decode cX10_setSetting 43 = .ok (.istore_n 3, 1) := by decide +kernel
theorem dX10_setSetting_44 : decode cX10_setSetting 44 = .ok (.aload_n 0, 1) := by decide +kernel
theorem dX10_setSetting_45 : decode cX10_setSetting 45 = .ok (.getfield 19, 3) := by decide +kernel
theorem dX10_setSetting_48 : decode cX10_setSetting 48 = .ok (.iconst 0, 1) := by decide +kernel
theorem dX10_setSetting_49 : decode cX10_setSetting 49 = .ok (.iload_n 1, 1) := by decide +kernel
theorem dX10_setSetting_50 : decode cX10_setSetting 50 = .ok (.iadd, 1) := by decide +kernel
theorem dX10_setSetting_51 : decode cX10_setSetting 51 = .ok (.iload_n 2, 1) := by decide +kernel
theorem dX10_setSetting_52 : decode cX10_setSetting 52 = .ok (.iastore, 1) := by decide +kernel
theorem dX10_setSetting_53 : decode cX10_setSetting 53 = .ok (.iload_n 3, 1) := by decide +kernel
theorem dX10_setSetting_54 : decode cX10_setSetting 54 = .ok (.ireturn, 1) := by decide +kernel
