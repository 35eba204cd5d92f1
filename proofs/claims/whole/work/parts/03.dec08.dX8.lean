theorem dX8_init_0 : decode cX8_init 0 = .ok (.aload_n 0, 1) := by decide +kernel
theorem dX8_init_1 : decode cX8_init 1 = .ok (.invokespecial 3, 3) := by decide +kernel
theorem dX8_init_4 : decode cX8_init 4 = .ok (.aload_n 0, 1) := by decide +kernel
theorem dX8_init_5 : decode cX8_init 5 = .ok (.sipush 900, 3) := by decide +kernel
theorem dX8_init_8 : decode cX8_init 8 = .ok (.newarray .byte, 2) := by decide +kernel
theorem dX8_init_10 : decode cX8_init 10 = .ok (.putfield 9, 3) := by decide +kernel
theorem dX8_init_13 : decode cX8_init 13 = .ok (.return_, 1) := by decide +kernel
theorem dX8_hasRoom_0 : decode cX8_hasRoom 0 = .ok (.aload_n 0, 1) := by decide +kernel
theorem dX8_hasRoom_1 : decode cX8_hasRoom 1 = .ok (.getfield 15, 3) := by decide +kernel
theorem dX8_hasRoom_4 : decode cX8_hasRoom 4 = .ok (.bipush 20, 2) := by decide +kernel
theorem dX8_hasRoom_6 : decode cX8_hasRoom 6 = .ok (.iadd, 1) := by decide +kernel
theorem dX8_hasRoom_7 : decode cX8_hasRoom 7 = .ok (.sipush 900, 3) := by decide +kernel
theorem dX8_hasRoom_10 : decode cX8_hasRoom 10 = .ok (.if_icmp .gt 7, 3) := by decide +kernel
theorem dX8_hasRoom_13 : decode cX8_hasRoom 13 = .ok (.iconst 1, 1) := by decide +kernel
theorem dX8_hasRoom_14 : decode cX8_hasRoom 14 = .ok (.goto 4, 3) := by decide +kernel
theorem dX8_hasRoom_17 : decode cX8_hasRoom 17 = .ok (.iconst 0, 1) := by decide +kernel
theorem dX8_hasRoom_18 : decode cX8_hasRoom 18 = .ok (.ireturn, 1) := by decide +kernel
theorem dX8_append_0 : decode cX8_append 0 = .ok (.bipush 24, 2) := by decide +kernel
theorem dX8_append_2 : decode cX8_append 2 = .ok (.istore_n 2, 1) := by decide +kernel
theorem dX8_append_3 : decode cX8_append 3 = .ok (.iload_n 2, 1) := by decide +kernel
theorem dX8_append_4 : decode cX8_append 4 = .ok (.ifCond .lt 42, 3) := by decide +kernel
theorem dX8_append_7 : decode cX8_append 7 = .ok (.aload_n 0, 1) := by decide +kernel
theorem dX8_append_8 : decode cX8_append 8 = .ok (.getfield 15, 3) := by decide +kernel
theorem dX8_append_11 : decode cX8_append 11 = .ok (.sipush 900, 3) := by decide +kernel
theorem dX8_append_14 : decode cX8_append 14 = .ok (.if_icmp .ge 32, 3) := by decide +kernel
theorem dX8_append_17 : decode cX8_append 17 = .ok (.aload_n 0, 1) := by decide +kernel
theorem dX8_append_18 : decode cX8_append 18 = .ok (.getfield 9, 3) := by decide +kernel
theorem dX8_append_21 : decode cX8_append 21 = .ok (.aload_n 0, 1) := by decide +kernel
theorem dX8_append_22 : decode cX8_append 22 = .ok (.getfield 15, 3) := by decide +kernel
theorem dX8_append_25 : decode cX8_append 25 = .ok (.iload_n 1, 1) := by decide +kernel
theorem dX8_append_26 : decode cX8_append 26 = .ok (.iload_n 2, 1) := by decide +kernel
theorem dX8_append_27 : decode cX8_append 27 = .ok (.iushr, 1) := by decide +kernel
theorem dX8_append_28 : decode cX8_append 28 = .ok (.i2b, 1) := by decide +kernel
theorem dX8_append_29 : decode cX8_append 29 = .ok (.bastore, 1) := by decide +kernel
theorem dX8_append_30 : decode cX8_append 30 = .ok (.aload_n 0, 1) := by decide +kernel
theorem dX8_append_31 : decode cX8_append 31 = .ok (.dup, 1) := by decide +kernel
theorem dX8_append_32 : decode cX8_append 32 = .ok (.getfield 15, 3) := by decide +kernel
theorem dX8_append_35 : decode cX8_append 35 = .ok (.iconst 1, 1) := by decide +kernel
theorem dX8_append_36 : decode cX8_append 36 = .ok (.iadd, 1) := by decide +kernel
theorem dX8_append_37 : decode cX8_append 37 = .ok (.putfield 15, 3) := by decide +kernel
theorem dX8_append_40 : decode cX8_append 40 = .ok (.iinc 2 (-8), 3) := by decide +kernel
theorem dX8_append_43 : decode cX8_append 43 = .ok (.goto (-40), 3) := by decide +kernel
theorem dX8_append_46 : decode cX8_append 46 = .ok (.return_, 1) := by decide +kernel
theorem dX8_open_0 : decode cX8_open 0 = .ok (.aload_n 0, 1) := by decide +kernel
theorem dX8_open_1 : decode cX8_open 1 = .ok (.iload_n 1, 1) := by decide +kernel
theorem dX8_open_2 : decode cX8_open 2 = .ok (.aload_n 0, 1) := by decide +kernel
theorem dX8_open_3 : decode cX8_open 3 = .ok (.getfield 15, 3) := by decide +kernel
theorem dX8_open_6 : decode cX8_open 6 = .ok (.invokestatic 19, 3) := by decide +kernel
theorem dX8_open_9 : decode cX8_open 9 = .ok (.putfield 25, 3) := by decide +kernel
theorem dX8_open_12 : decode cX8_open 12 = .ok (.aload_n 0, 1) := by decide +kernel
theorem dX8_open_13 : decode cX8_open 13 = .ok (.iconst 0, 1) := by decide +kernel
theorem dX8_open_14 : decode cX8_open 14 = .ok (.putfield 28, 3) := by decide +kernel
theorem dX8_open_17 : decode cX8_open 17 = .ok (.aload_n 0, 1) := by decide +kernel
theorem dX8_open_18 : decode cX8_open 18 = .ok (.invokevirtual 31, 3) := by decide +kernel
theorem dX8_open_21 : decode cX8_open 21 = .ok (.return_, 1) := by decide +kernel
theorem dX8_next_0 : decode cX8_next 0 = .ok (.aload_n 0, 1) := by decide +kernel
theorem dX8_next_1 : decode cX8_next 1 = .ok (.aload_n 0, 1) := by decide +kernel
theorem dX8_next_2 : decode cX8_next 2 = .ok (.getfield 28, 3) := by decide +kernel
theorem dX8_next_5 : decode cX8_next 5 = .ok (.putfield 34, 3) := by decide +kernel
theorem dX8_next_8 : decode cX8_next 8 = .ok (.aload_n 0, 1) := by decide +kernel
theorem dX8_next_9 : decode cX8_next 9 = .ok (.getfield 34, 3) := by decide +kernel
theorem dX8_next_12 : decode cX8_next 12 = .ok (.aload_n 0, 1) := by decide +kernel
theorem dX8_next_13 : decode cX8_next 13 = .ok (.getfield 25, 3) := by decide +kernel
theorem dX8_next_16 : decode cX8_next 16 = .ok (.if_icmp .ge 44, 3) := by decide +kernel
theorem dX8_next_19 : decode cX8_next 19 = .ok (.aload_n 0, 1) := by decide +kernel
theorem dX8_next_20 : decode cX8_next 20 = .ok (.getfield 9, 3) := by decide +kernel
theorem dX8_next_23 : decode cX8_next 23 = .ok (.aload_n 0, 1) := by decide +kernel
theorem dX8_next_24 : decode cX8_next 24 = .ok (.getfield 34, 3) := by decide +kernel
theorem dX8_next_27 : decode cX8_next 27 = .ok (.baload, 1) := by decide +kernel
theorem dX8_next_28 : decode cX8_next 28 = .ok (.bipush 32, 2) := by decide +kernel
theorem dX8_next_30 : decode cX8_next 30 = .ok (.if_icmp .eq 17, 3) := by decide +kernel
theorem dX8_next_33 : decode cX8_next 33 = .ok (.aload_n 0, 1) := by decide +kernel
theorem dX8_next_34 : decode cX8_next 34 = .ok (.getfield 9, 3) := by decide +kernel
theorem dX8_next_37 : decode cX8_next 37 = .ok (.aload_n 0, 1) := by decide +kernel
theorem dX8_next_38 : decode cX8_next 38 = .ok (.getfield 34, 3) := by decide +kernel
theorem dX8_next_41 : decode cX8_next 41 = .ok (.baload, 1) := by decide +kernel
theorem dX8_next_42 : decode cX8_next 42 = .ok (.bipush 10, 2) := by decide +kernel
theorem dX8_next_44 : decode cX8_next 44 = .ok (.if_icmp .ne 16, 3) := by decide +kernel
theorem dX8_next_47 : decode cX8_next 47 = .ok (.aload_n 0, 1) := by decide +kernel
theorem dX8_next_48 : decode cX8_next 48 = .ok (.dup, 1) := by decide +kernel
theorem dX8_next_49 : decode cX8_next 49 = .ok (.getfield 34, 3) := by decide +kernel
theorem dX8_next_52 : decode cX8_next 52 = .ok (.iconst 1, 1) := by decide +kernel
theorem dX8_next_53 : decode cX8_next 53 = .ok (.iadd, 1) := by decide +kernel
theorem dX8_next_54 : decode cX8_next 54 = .ok (.putfield 34, 3) := by decide +kernel
theorem dX8_next_57 : decode cX8_next 57 = .ok (.goto (-49), 3) := by decide +kernel
theorem dX8_next_60 : decode cX8_next 60 = .ok (.aload_n 0, 1) := by decide +kernel
theorem dX8_next_61 : decode cX8_next 61 = .ok (.aload_n 0, 1) := by decide +kernel
theorem dX8_next_62 : decode cX8_next 62 = .ok (.getfield 34, 3) := by decide +kernel
theorem dX8_next_65 : decode cX8_next 65 = .ok (.putfield 28, 3) := by decide +kernel
theorem dX8_next_68 : decode cX8_next 68 = .ok (.aload_n 0, 1) := by decide +kernel
theorem dX8_next_69 : decode cX8_next 69 = .ok (.getfield 34, 3) := by decide +kernel
theorem dX8_next_72 : decode cX8_next 72 = .ok (.aload_n 0, 1) := by decide +kernel
theorem dX8_next_73 : decode cX8_next 73 = .ok (.getfield 25, 3) := by decide +kernel
theorem dX8_next_76 : decode cX8_next 76 = .ok (.if_icmp .lt 9, 3) := by decide +kernel
theorem dX8_next_79 : decode cX8_next 79 = .ok (.aload_n 0, 1) := by decide +kernel
theorem dX8_next_80 : decode cX8_next 80 = .ok (.iconst 0, 1) := by decide +kernel
theorem dX8_next_81 : decode cX8_next 81 = .ok (.putfield 37, 3) := by decide +kernel
theorem dX8_next_84 : decode cX8_next 84 = .ok (.return_, 1) := by decide +kernel
theorem dX8_next_85 : decode cX8_next 85 = .ok (.aload_n 0, 1) := by decide +kernel
theorem dX8_next_86 : decode cX8_next 86 = .ok (.aload_n 0, 1) := by decide +kernel
theorem dX8_next_87 : decode cX8_next 87 = .ok (.getfield 9, 3) := by decide +kernel
theorem dX8_next_90 : decode cX8_next 90 = .ok (.aload_n 0, 1) := by decide +kernel
theorem dX8_next_91 : decode cX8_next 91 = .ok (.getfield 34, 3) := by decide +kernel
theorem dX8_next_94 : decode cX8_next 94 = .ok (.baload, 1) := by decide +kernel
theorem dX8_next_95 : decode cX8_next 95 = .ok (.invokestatic 40, 3) := by decide +kernel
theorem dX8_next_98 : decode cX8_next 98 = .ok (.putfield 37, 3) := by decide +kernel
theorem dX8_next_101 : decode cX8_next 101 = .ok (.aload_n 0, 1) := by decide +kernel
theorem dX8_next_102 : decode cX8_next 102 = .ok (.aload_n 0, 1) := by decide +kernel
theorem dX8_next_103 : decode cX8_next 103 = .ok (.getfield 34, 3) := by decide +kernel
theorem dX8_next_106 : decode cX8_next 106 = .ok (.iconst 1, 1) := by decide +kernel
theorem dX8_next_107 : decode cX8_next 107 = .ok (.iadd, 1) := by decide +kernel
theorem dX8_next_108 : decode cX8_next 108 = .ok (.putfield 28, 3) := by decide +kernel
theorem dX8_next_111 : decode cX8_next 111 = .ok (.aload_n 0, 1) := by decide +kernel
theorem dX8_next_112 : decode cX8_next 112 = .ok (.getfield 37, 3) := by decide +kernel
theorem dX8_next_115 : decode cX8_next 115 = .ok (.iconst 1, 1) := by decide +kernel
theorem dX8_next_116 : decode cX8_next 116 = .ok (.if_icmp .eq 11, 3) := by decide +kernel
theorem dX8_next_119 : decode cX8_next 119 = .ok (.aload_n 0, 1) := by decide +kernel
theorem dX8_next_120 : decode cX8_next 120 = .ok (.getfield 37, 3) := by decide +kernel
theorem dX8_next_123 : decode cX8_next 123 = .ok (.iconst 2, 1) := by decide +kernel
theorem dX8_next_124 : decode cX8_next 124 = .ok (.if_icmp .ne 46, 3) := by decide +kernel
theorem dX8_next_127 : decode cX8_next 127 = .ok (.aload_n 0, 1) := by decide +kernel
theorem dX8_next_128 : decode cX8_next 128 = .ok (.getfield 28, 3) := by decide +kernel
theorem dX8_next_131 : decode cX8_next 131 = .ok (.aload_n 0, 1) := by decide +kernel
theorem dX8_next_132 : decode cX8_next 132 = .ok (.getfield 25, 3) := by decide +kernel
theorem dX8_next_135 : decode cX8_next 135 = .ok (.if_icmp .ge 35, 3) := by decide +kernel
theorem dX8_next_138 : decode cX8_next 138 = .ok (.aload_n 0, 1) := by decide +kernel
theorem dX8_next_139 : decode cX8_next 139 = .ok (.getfield 9, 3) := by decide +kernel
theorem dX8_next_142 : decode cX8_next 142 = .ok (.aload_n 0, 1) := by decide +kernel
theorem dX8_next_143 : decode cX8_next 143 = .ok (.getfield 28, 3) := by decide +kernel
theorem dX8_next_146 : decode cX8_next 146 = .ok (.baload, 1) := by decide +kernel
theorem dX8_next_147 : decode cX8_next 147 = .ok (.invokestatic 40, 3) := by decide +kernel
theorem dX8_next_150 : decode cX8_next 150 = .ok (.aload_n 0, 1) := by decide +kernel
theorem dX8_next_151 : decode cX8_next 151 = .ok (.getfield 37, 3) := by decide +kernel
theorem dX8_next_154 : decode cX8_next 154 = .ok (.if_icmp .ne 16, 3) := by decide +kernel
theorem dX8_next_157 : decode cX8_next 157 = .ok (.aload_n 0, 1) := by decide +kernel
theorem dX8_next_158 : decode cX8_next 158 = .ok (.dup, 1) := by decide +kernel
theorem dX8_next_159 : decode cX8_next 159 = .ok (.getfield 28, 3) := by decide +kernel
theorem dX8_next_162 : decode cX8_next 162 = .ok (.iconst 1, 1) := by decide +kernel
theorem dX8_next_163 : decode cX8_next 163 = .ok (.iadd, 1) := by decide +kernel
theorem dX8_next_164 : decode cX8_next 164 = .ok (.putfield 28, 3) := by decide +kernel
theorem dX8_next_167 : decode cX8_next 167 = .ok (.goto (-40), 3) := by decide +kernel
theorem dX8_next_170 : decode cX8_next 170 = .ok (.return_, 1) := by decide +kernel
theorem dX8_kindOfSign_0 : decode cX8_kindOfSign 0 = .ok (.iload_n 0, 1) := by decide +kernel
theorem dX8_kindOfSign_1 : decode cX8_kindOfSign 1 = .ok (.bipush 97, 2) := by decide +kernel
theorem dX8_kindOfSign_3 : decode cX8_kindOfSign 3 = .ok (.if_icmp .lt 11, 3) := by decide +kernel
theorem dX8_kindOfSign_6 : decode cX8_kindOfSign 6 = .ok (.iload_n 0, 1) := by decide +kernel
theorem dX8_kindOfSign_7 : decode cX8_kindOfSign 7 = .ok (.bipush 122, 2) := by decide +kernel
theorem dX8_kindOfSign_9 : decode cX8_kindOfSign 9 = .ok (.if_icmp .gt 5, 3) := by decide +kernel
theorem dX8_kindOfSign_12 : decode cX8_kindOfSign 12 = .ok (.iconst 1, 1) := by decide +kernel
theorem dX8_kindOfSign_13 : decode cX8_kindOfSign 13 = .ok (.ireturn, 1) := by decide +kernel
theorem dX8_kindOfSign_14 : decode cX8_kindOfSign 14 = .ok (.iload_n 0, 1) := by decide +kernel
theorem dX8_kindOfSign_15 : decode cX8_kindOfSign 15 = .ok (.bipush 48, 2) := by decide +kernel
theorem dX8_kindOfSign_17 : decode cX8_kindOfSign 17 = .ok (.if_icmp .lt 11, 3) := by decide +kernel
theorem dX8_kindOfSign_20 : decode cX8_kindOfSign 20 = .ok (.iload_n 0, 1) := by decide +kernel
theorem dX8_kindOfSign_21 : decode cX8_kindOfSign 21 = .ok (.bipush 57, 2) := by decide +kernel
theorem dX8_kindOfSign_23 : decode cX8_kindOfSign 23 = .ok (.if_icmp .gt 5, 3) := by decide +kernel
theorem dX8_kindOfSign_26 : decode cX8_kindOfSign 26 = .ok (.iconst 2, 1) := by decide +kernel
theorem dX8_kindOfSign_27 : decode cX8_kindOfSign 27 = .ok (.ireturn, 1) := by decide +kernel
theorem dX8_kindOfSign_28 : decode cX8_kindOfSign 28 = .ok (.iload_n 0, 1) := by decide +kernel
theorem dX8_kindOfSign_29 : decode cX8_kindOfSign 29 = .ok (.bipush 59, 2) := by decide +kernel
theorem dX8_kindOfSign_31 : decode cX8_kindOfSign 31 = .ok (.if_icmp .ne 5, 3) := by decide +kernel
theorem dX8_kindOfSign_34 : decode cX8_kindOfSign 34 = .ok (.iconst 3, 1) := by decide +kernel
theorem dX8_kindOfSign_35 : decode cX8_kindOfSign 35 = .ok (.ireturn, 1) := by decide +kernel
theorem dX8_kindOfSign_36 : decode cX8_kindOfSign 36 = .ok (.iload_n 0, 1) := by decide +kernel
theorem dX8_kindOfSign_37 : decode cX8_kindOfSign 37 = .ok (.bipush 45, 2) := by decide +kernel
theorem dX8_kindOfSign_39 : decode cX8_kindOfSign 39 = .ok (.if_icmp .ne 7, 3) := by decide +kernel
theorem dX8_kindOfSign_42 : decode cX8_kindOfSign 42 = .ok (.iconst 4, 1) := by decide +kernel
theorem dX8_kindOfSign_43 : decode cX8_kindOfSign 43 = .ok (.goto 4, 3) := by decide +kernel
theorem dX8_kindOfSign_46 : decode cX8_kindOfSign 46 = .ok (.iconst 5, 1) := by decide +kernel
theorem dX8_kindOfSign_47 : decode cX8_kindOfSign 47 = .ok (.ireturn, 1) := by decide +kernel
theorem dX8_isWord_0 : decode cX8_isWord 0 = .ok (.aload_n 0, 1) := by decide +kernel
theorem dX8_isWord_1 : decode cX8_isWord 1 = .ok (.getfield 37, 3) := by decide +kernel
theorem dX8_isWord_4 : decode cX8_isWord 4 = .ok (.iconst 1, 1) := by decide +kernel
theorem dX8_isWord_5 : decode cX8_isWord 5 = .ok (.if_icmp .ne 19, 3) := by decide +kernel
theorem dX8_isWord_8 : decode cX8_isWord 8 = .ok (.aload_n 0, 1) := by decide +kernel
theorem dX8_isWord_9 : decode cX8_isWord 9 = .ok (.getfield 28, 3) := by decide +kernel
theorem dX8_isWord_12 : decode cX8_isWord 12 = .ok (.aload_n 0, 1) := by decide +kernel
theorem dX8_isWord_13 : decode cX8_isWord 13 = .ok (.getfield 34, 3) := by decide +kernel
theorem dX8_isWord_16 : decode cX8_isWord 16 = .ok (.isub, 1) := by decide +kernel
theorem dX8_isWord_17 : decode cX8_isWord 17 = .ok (.aload_n 1, 1) := by decide +kernel
theorem dX8_isWord_18 : decode cX8_isWord 18 = .ok (.invokevirtual 44, 3) := by decide +kernel
theorem dX8_isWord_21 : decode cX8_isWord 21 = .ok (.if_icmp .eq 5, 3) := by decide +kernel
theorem dX8_isWord_24 : decode cX8_isWord 24 = .ok (.iconst 0, 1) := by decide +kernel
theorem dX8_isWord_25 : decode cX8_isWord 25 = .ok (.ireturn, 1) := by decide +kernel
theorem dX8_isWord_26 : decode cX8_isWord 26 = .ok (.iconst 0, 1) := by decide +kernel
theorem dX8_isWord_27 : decode cX8_isWord 27 = .ok (.istore_n 2, 1) := by decide +kernel
theorem dX8_isWord_28 : decode cX8_isWord 28 = .ok (.iload_n 2, 1) := by decide +kernel
theorem dX8_isWord_29 : decode cX8_isWord 29 = .ok (.aload_n 1, 1) := by decide +kernel
theorem dX8_isWord_30 : decode cX8_isWord 30 = .ok (.invokevirtual 44, 3) := by decide +kernel
theorem dX8_isWord_33 : decode cX8_isWord 33 = .ok (.if_icmp .ge 43, 3) := by decide +kernel
theorem dX8_isWord_36 : decode cX8_isWord 36 = .ok (.aload_n 0, 1) := by decide +kernel
theorem dX8_isWord_37 : decode cX8_isWord 37 = .ok (.getfield 34, 3) := by decide +kernel
theorem dX8_isWord_40 : decode cX8_isWord 40 = .ok (.iload_n 2, 1) := by decide +kernel
theorem dX8_isWord_41 : decode cX8_isWord 41 = .ok (.iadd, 1) := by decide +kernel
theorem dX8_isWord_42 : decode cX8_isWord 42 = .ok (.aload_n 0, 1) := by decide +kernel
theorem dX8_isWord_43 : decode cX8_isWord 43 = .ok (.getfield 25, 3) := by decide +kernel
theorem dX8_isWord_46 : decode cX8_isWord 46 = .ok (.if_icmp .ge 30, 3) := by decide +kernel
theorem dX8_isWord_49 : decode cX8_isWord 49 = .ok (.aload_n 0, 1) := by decide +kernel
theorem dX8_isWord_50 : decode cX8_isWord 50 = .ok (.getfield 9, 3) := by decide +kernel
theorem dX8_isWord_53 : decode cX8_isWord 53 = .ok (.aload_n 0, 1) := by decide +kernel
theorem dX8_isWord_54 : decode cX8_isWord 54 = .ok (.getfield 34, 3) := by decide +kernel
theorem dX8_isWord_57 : decode cX8_isWord 57 = .ok (.iload_n 2, 1) := by decide +kernel
theorem dX8_isWord_58 : decode cX8_isWord 58 = .ok (.iadd, 1) := by decide +kernel
theorem dX8_isWord_59 : decode cX8_isWord 59 = .ok (.baload, 1) := by decide +kernel
theorem dX8_isWord_60 : decode cX8_isWord 60 = .ok (.aload_n 1, 1) := by decide +kernel
theorem dX8_isWord_61 : decode cX8_isWord 61 = .ok (.iload_n 2, 1) := by decide +kernel
theorem dX8_isWord_62 : decode cX8_isWord 62 = .ok (.invokevirtual 49, 3) := by decide +kernel
theorem dX8_isWord_65 : decode cX8_isWord 65 = .ok (.if_icmp .eq 5, 3) := by decide +kernel
theorem dX8_isWord_68 : decode cX8_isWord 68 = .ok (.iconst 0, 1) := by decide +kernel
theorem dX8_isWord_69 : decode cX8_isWord 69 = .ok (.ireturn, 1) := by decide +kernel
theorem dX8_isWord_70 : decode cX8_isWord 70 = .ok (.iinc 2 1, 3) := by decide +kernel
theorem dX8_isWord_73 : decode cX8_isWord 73 = .ok (.goto (-45), 3) := by decide +kernel
theorem dX8_isWord_76 : decode cX8_isWord 76 = .ok (.iconst 1, 1) := by decide +kernel
theorem dX8_isWord_77 : decode cX8_isWord 77 = .ok (.ireturn, 1) := by decide +kernel
theorem dX8_isName_0 : decode cX8_isName 0 = .ok (.aload_n 0, 1) := by decide +kernel
theorem dX8_isName_1 : decode cX8_isName 1 = .ok (.getfield 37, 3) := by decide +kernel
theorem dX8_isName_4 : decode cX8_isName 4 = .ok (.iconst 1, 1) := by decide +kernel
theorem dX8_isName_5 : decode cX8_isName 5 = .ok (.if_icmp .ne 93, 3) := by decide +kernel
theorem dX8_isName_8 : decode cX8_isName 8 = .ok (.aload_n 0, 1) := by decide +kernel
theorem dX8_isName_9 : decode cX8_isName 9 = .ok (.getfield 28, 3) := by decide +kernel
theorem dX8_isName_12 : decode cX8_isName 12 = .ok (.aload_n 0, 1) := by decide +kernel
theorem dX8_isName_13 : decode cX8_isName 13 = .ok (.getfield 34, 3) := by decide +kernel
theorem dX8_isName_16 : decode cX8_isName 16 = .ok (.isub, 1) := by decide +kernel
theorem dX8_isName_17 : decode cX8_isName 17 = .ok (.bipush 6, 2) := by decide +kernel
theorem dX8_isName_19 : decode cX8_isName 19 = .ok (.if_icmp .gt 79, 3) := by decide +kernel
theorem dX8_isName_22 : decode cX8_isName 22 = .ok (.aload_n 0, 1) := by decide +kernel
theorem dX8_isName_23 : decode cX8_isName 23 = .ok (.ldc 53, 2) := by decide +kernel
theorem dX8_isName_25 : decode cX8_isName 25 = .ok (.invokevirtual 55, 3) := by decide +kernel
theorem dX8_isName_28 : decode cX8_isName 28 = .ok (.ifCond .ne 70, 3) := by decide +kernel
theorem dX8_isName_31 : decode cX8_isName 31 = .ok (.aload_n 0, 1) := by decide +kernel
theorem dX8_isName_32 : decode cX8_isName 32 = .ok (.ldc 59, 2) := by decide +kernel
theorem dX8_isName_34 : decode cX8_isName 34 = .ok (.invokevirtual 55, 3) := by decide +kernel
theorem dX8_isName_37 : decode cX8_isName 37 = .ok (.ifCond .ne 61, 3) := by decide +kernel
theorem dX8_isName_40 : decode cX8_isName 40 = .ok (.aload_n 0, 1) := by decide +kernel
theorem dX8_isName_41 : decode cX8_isName 41 = .ok (.ldc 61, 2) := by decide +kernel
theorem dX8_isName_43 : decode cX8_isName 43 = .ok (.invokevirtual 55, 3) := by decide +kernel
theorem dX8_isName_46 : decode cX8_isName 46 = .ok (.ifCond .ne 52, 3) := by decide +kernel
theorem dX8_isName_49 : decode cX8_isName 49 = .ok (.aload_n 0, 1) := by decide +kernel
theorem dX8_isName_50 : decode cX8_isName 50 = .ok (.ldc 63, 2) := by decide +kernel
theorem dX8_isName_52 : decode cX8_isName 52 = .ok (.invokevirtual 55, 3) := by decide +kernel
theorem dX8_isName_55 : decode cX8_isName 55 = .ok (.ifCond .ne 43, 3) := by decide +kernel
theorem dX8_isName_58 : decode cX8_isName 58 = .ok (.aload_n 0, 1) := by decide +kernel
theorem dX8_isName_59 : decode cX8_isName 59 = .ok (.ldc 65, 2) := by decide +kernel
theorem dX8_isName_61 : decode cX8_isName 61 = .ok (.invokevirtual 55, 3) := by decide +kernel
theorem dX8_isName_64 : decode cX8_isName 64 = .ok (.ifCond .ne 34, 3) := by decide +kernel
theorem dX8_isName_67 : decode cX8_isName 67 = .ok (.aload_n 0, 1) := by decide +kernel
theorem dX8_isName_68 : decode cX8_isName 68 = .ok (.ldc 67, 2) := by decide +kernel
theorem dX8_isName_70 : decode cX8_isName 70 = .ok (.invokevirtual 55, 3) := by decide +kernel
theorem dX8_isName_73 : decode cX8_isName 73 = .ok (.ifCond .ne 25, 3) := by decide +kernel
theorem dX8_isName_76 : decode cX8_isName 76 = .ok (.aload_n 0, 1) := by decide +kernel
theorem dX8_isName_77 : decode cX8_isName 77 = .ok (.ldc 69, 2) := by decide +kernel
theorem dX8_isName_79 : decode cX8_isName 79 = .ok (.invokevirtual 55, 3) := by decide +kernel
theorem dX8_isName_82 : decode cX8_isName 82 = .ok (.ifCond .ne 16, 3) := by decide +kernel
theorem dX8_isName_85 : decode cX8_isName 85 = .ok (.aload_n 0, 1) := by decide +kernel
theorem dX8_isName_86 : decode cX8_isName 86 = .ok (.ldc 71, 2) := by decide +kernel
theorem dX8_isName_88 : decode cX8_isName 88 = .ok (.invokevirtual 55, 3) := by decide +kernel
theorem dX8_isName_91 : decode cX8_isName 91 = .ok (.ifCond .ne 7, 3) := by decide +kernel
theorem dX8_isName_94 : decode cX8_isName 94 = .ok (.iconst 1, 1) := by decide +kernel
theorem dX8_isName_95 : decode cX8_isName 95 = .ok (.goto 4, 3) := by decide +kernel
theorem dX8_isName_98 : decode cX8_isName 98 = .ok (.iconst 0, 1) := by decide +kernel
theorem dX8_isName_99 : decode cX8_isName 99 = .ok (.ireturn, 1) := by decide +kernel
theorem dX8_letters_0 : decode cX8_letters 0 = .ok (.iconst 0, 1) := by decide +kernel
theorem dX8_letters_1 : decode cX8_letters 1 = .ok (.istore_n 1, 1) := by decide +kernel
theorem dX8_letters_2 : decode cX8_letters 2 = .ok (.iconst 0, 1) := by decide +kernel
theorem dX8_letters_3 : decode cX8_letters 3 = .ok (.istore_n 2, 1) := by decide +kernel
theorem dX8_letters_4 : decode cX8_letters 4 = .ok (.iload_n 2, 1) := by decide +kernel
theorem dX8_letters_5 : decode cX8_letters 5 = .ok (.bipush 6, 2) := by decide +kernel
theorem dX8_letters_7 : decode cX8_letters 7 = .ok (.if_icmp .ge 49, 3) := by decide +kernel
theorem dX8_letters_10 : decode cX8_letters 10 = .ok (.aload_n 0, 1) := by decide +kernel
theorem dX8_letters_11 : decode cX8_letters 11 = .ok (.getfield 34, 3) := by decide +kernel
theorem dX8_letters_14 : decode cX8_letters 14 = .ok (.iload_n 2, 1) := by decide +kernel
theorem dX8_letters_15 : decode cX8_letters 15 = .ok (.iadd, 1) := by decide +kernel
theorem dX8_letters_16 : decode cX8_letters 16 = .ok (.aload_n 0, 1) := by decide +kernel
theorem dX8_letters_17 : decode cX8_letters 17 = .ok (.getfield 28, 3) := by decide +kernel
theorem dX8_letters_20 : decode cX8_letters 20 = .ok (.if_icmp .ge 22, 3) := by decide +kernel
theorem dX8_letters_23 : decode cX8_letters 23 = .ok (.aload_n 0, 1) := by decide +kernel
theorem dX8_letters_24 : decode cX8_letters 24 = .ok (.getfield 9, 3) := by decide +kernel
theorem dX8_letters_27 : decode cX8_letters 27 = .ok (.aload_n 0, 1) := by decide +kernel
theorem dX8_letters_28 : decode cX8_letters 28 = .ok (.getfield 34, 3) := by decide +kernel
theorem dX8_letters_31 : decode cX8_letters 31 = .ok (.iload_n 2, 1) := by decide +kernel
theorem dX8_letters_32 : decode cX8_letters 32 = .ok (.iadd, 1) := by decide +kernel
theorem dX8_letters_33 : decode cX8_letters 33 = .ok (.baload, 1) := by decide +kernel
theorem dX8_letters_34 : decode cX8_letters 34 = .ok (.bipush 97, 2) := by decide +kernel
theorem dX8_letters_36 : decode cX8_letters 36 = .ok (.isub, 1) := by decide +kernel
theorem dX8_letters_37 : decode cX8_letters 37 = .ok (.iconst 1, 1) := by decide +kernel
theorem dX8_letters_38 : decode cX8_letters 38 = .ok (.iadd, 1) := by decide +kernel
theorem dX8_letters_39 : decode cX8_letters 39 = .ok (.goto 4, 3) := by decide +kernel
theorem dX8_letters_42 : decode cX8_letters 42 = .ok (.iconst 0, 1) := by decide +kernel
theorem dX8_letters_43 : decode cX8_letters 43 = .ok (.istore_n 3, 1) := by decide +kernel
theorem dX8_letters_44 : decode cX8_letters 44 = .ok (.iload_n 1, 1) := by decide +kernel
theorem dX8_letters_45 : decode cX8_letters 45 = .ok (.iconst 5, 1) := by decide +kernel
theorem dX8_letters_46 : decode cX8_letters 46 = .ok (.ishl, 1) := by decide +kernel
theorem dX8_letters_47 : decode cX8_letters 47 = .ok (.iload_n 3, 1) := by decide +kernel
theorem dX8_letters_48 : decode cX8_letters 48 = .ok (.ior, 1) := by decide +kernel
theorem dX8_letters_49 : decode cX8_letters 49 = .ok (.istore_n 1, 1) := by decide +kernel
theorem dX8_letters_50 : decode cX8_letters 50 = .ok (.iinc 2 1, 3) := by decide +kernel
theorem dX8_letters_53 : decode cX8_letters 53 = .ok (.goto (-49), 3) := by decide +kernel
theorem dX8_letters_56 : decode cX8_letters 56 = .ok (.iload_n 1, 1) := by decide +kernel
theorem dX8_letters_57 : decode cX8_letters 57 = .ok (.ireturn, 1) := by decide +kernel
theorem dX8_integer_0 : decode cX8_integer 0 = .ok (.iconst 0, 1) := by decide +kernel
theorem dX8_integer_1 : decode cX8_integer 1 = .ok (.istore_n 1, 1) := by decide +kernel
theorem dX8_integer_2 : decode cX8_integer 2 = .ok (.aload_n 0, 1) := by decide +kernel
theorem dX8_integer_3 : decode cX8_integer 3 = .ok (.getfield 34, 3) := by decide +kernel
theorem dX8_integer_6 : decode cX8_integer 6 = .ok (.istore_n 2, 1) := by decide +kernel
theorem dX8_integer_7 : decode cX8_integer 7 = .ok (.iload_n 2, 1) := by decide +kernel
theorem dX8_integer_8 : decode cX8_integer 8 = .ok (.aload_n 0, 1) := by decide +kernel
theorem dX8_integer_9 : decode cX8_integer 9 = .ok (.getfield 28, 3) := by decide +kernel
theorem dX8_integer_12 : decode cX8_integer 12 = .ok (.if_icmp .ge 30, 3) := by decide +kernel
theorem dX8_integer_15 : decode cX8_integer 15 = .ok (.iload_n 1, 1) := by decide +kernel
theorem dX8_integer_16 : decode cX8_integer 16 = .ok (.ldc 73, 2) := by decide +kernel
theorem dX8_integer_18 : decode cX8_integer 18 = .ok (.if_icmp .ge 24, 3) := by decide +kernel
theorem dX8_integer_21 : decode cX8_integer 21 = .ok (.iload_n 1, 1) := by decide +kernel
theorem dX8_integer_22 : decode cX8_integer 22 = .ok (.bipush 10, 2) := by decide +kernel
theorem dX8_integer_24 : decode cX8_integer 24 = .ok (.imul, 1) := by decide +kernel
theorem dX8_integer_25 : decode cX8_integer 25 = .ok (.aload_n 0, 1) := by decide +kernel
theorem dX8_integer_26 : decode cX8_integer 26 = .ok (.getfield 9, 3) := by decide +kernel
theorem dX8_integer_29 : decode cX8_integer 29 = .ok (.iload_n 2, 1) := by decide +kernel
theorem dX8_integer_30 : decode cX8_integer 30 = .ok (.baload, 1) := by decide +kernel
theorem dX8_integer_31 : decode cX8_integer 31 = .ok (.bipush 48, 2) := by decide +kernel
theorem dX8_integer_33 : decode cX8_integer 33 = .ok (.isub, 1) := by decide +kernel
theorem dX8_integer_34 : decode cX8_integer 34 = .ok (.iadd, 1) := by decide +kernel
theorem dX8_integer_35 : decode cX8_integer 35 = .ok (.istore_n 1, 1) := by decide +kernel
theorem dX8_integer_36 : decode cX8_integer 36 = .ok (.iinc 2 1, 3) := by decide +kernel
theorem dX8_integer_39 : decode cX8_integer 39 = .ok (.goto (-32), 3) := by decide +kernel
theorem dX8_integer_42 : decode cX8_integer 42 = .ok (.iload_n 1, 1) := by decide +kernel
theorem dX8_integer_43 : decode cX8_integer 43 = .ok (.ireturn, 1) := by decide +kernel
