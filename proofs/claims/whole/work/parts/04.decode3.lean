theorem dX10_init_0 : decode mX10_init.2.1 0 = .ok (.aload_n 0, 1) := by decide +kernel
theorem dX10_init_1 : decode mX10_init.2.1 1 = .ok (.invokespecial 1, 3) := by decide +kernel
theorem dX10_init_4 : decode mX10_init.2.1 4 = .ok (.aload_n 0, 1) := by decide +kernel
theorem dX10_init_5 : decode mX10_init.2.1 5 = .ok (.sipush 133, 3) := by decide +kernel
theorem dX10_init_8 : decode mX10_init.2.1 8 = .ok (.newarray .int, 2) := by decide +kernel
theorem dX10_init_10 : decode mX10_init.2.1 10 = .ok (.putfield 7, 3) := by decide +kernel
theorem dX10_init_13 : decode mX10_init.2.1 13 = .ok (.aload_n 0, 1) := by decide +kernel
theorem dX10_init_14 : decode mX10_init.2.1 14 = .ok (.sipush 133, 3) := by decide +kernel
theorem dX10_init_17 : decode mX10_init.2.1 17 = .ok (.newarray .int, 2) := by decide +kernel
theorem dX10_init_19 : decode mX10_init.2.1 19 = .ok (.putfield 13, 3) := by decide +kernel
theorem dX10_init_22 : decode mX10_init.2.1 22 = .ok (.aload_n 0, 1) := by decide +kernel
theorem dX10_init_23 : decode mX10_init.2.1 23 = .ok (.sipush 665, 3) := by decide +kernel
theorem dX10_init_26 : decode mX10_init.2.1 26 = .ok (.newarray .int, 2) := by decide +kernel
theorem dX10_init_28 : decode mX10_init.2.1 28 = .ok (.putfield 16, 3) := by decide +kernel
theorem dX10_init_31 : decode mX10_init.2.1 31 = .ok (.aload_n 0, 1) := by decide +kernel
theorem dX10_init_32 : decode mX10_init.2.1 32 = .ok (.iconst 3, 1) := by decide +kernel
theorem dX10_init_33 : decode mX10_init.2.1 33 = .ok (.newarray .int, 2) := by decide +kernel
theorem dX10_init_35 : decode mX10_init.2.1 35 = .ok (.putfield 19, 3) := by decide +kernel
theorem dX10_init_38 : decode mX10_init.2.1 38 = .ok (.aload_n 0, 1) := by decide +kernel
theorem dX10_init_39 : decode mX10_init.2.1 39 = .ok (.sipush 200, 3) := by decide +kernel
theorem dX10_init_42 : decode mX10_init.2.1 42 = .ok (.newarray .int, 2) := by decide +kernel
theorem dX10_init_44 : decode mX10_init.2.1 44 = .ok (.putfield 22, 3) := by decide +kernel
theorem dX10_init_47 : decode mX10_init.2.1 47 = .ok (.aload_n 0, 1) := by decide +kernel
theorem dX10_init_48 : decode mX10_init.2.1 48 = .ok (.bipush 32, 2) := by decide +kernel
theorem dX10_init_50 : decode mX10_init.2.1 50 = .ok (.newarray .int, 2) := by decide +kernel
theorem dX10_init_52 : decode mX10_init.2.1 52 = .ok (.putfield 25, 3) := by decide +kernel
theorem dX10_init_55 : decode mX10_init.2.1 55 = .ok (.aload_n 0, 1) := by decide +kernel
theorem dX10_init_56 : decode mX10_init.2.1 56 = .ok (.bipush 32, 2) := by decide +kernel
theorem dX10_init_58 : decode mX10_init.2.1 58 = .ok (.newarray .int, 2) := by decide +kernel
theorem dX10_init_60 : decode mX10_init.2.1 60 = .ok (.putfield 28, 3) := by decide +kernel
theorem dX10_init_63 : decode mX10_init.2.1 63 = .ok (.aload_n 0, 1) := by decide +kernel
theorem dX10_init_64 : decode mX10_init.2.1 64 = .ok (.bipush 32, 2) := by decide +kernel
theorem dX10_init_66 : decode mX10_init.2.1 66 = .ok (.newarray .int, 2) := by decide +kernel
theorem dX10_init_68 : decode mX10_init.2.1 68 = .ok (.putfield 31, 3) := by decide +kernel
theorem dX10_init_71 : decode mX10_init.2.1 71 = .ok (.aload_n 0, 1) := by decide +kernel
theorem dX10_init_72 : decode mX10_init.2.1 72 = .ok (.bipush 32, 2) := by decide +kernel
theorem dX10_init_74 : decode mX10_init.2.1 74 = .ok (.newarray .int, 2) := by decide +kernel
theorem dX10_init_76 : decode mX10_init.2.1 76 = .ok (.putfield 34, 3) := by decide +kernel
theorem dX10_init_79 : decode mX10_init.2.1 79 = .ok (.aload_n 0, 1) := by decide +kernel
theorem dX10_init_80 : decode mX10_init.2.1 80 = .ok (.bipush 32, 2) := by decide +kernel
theorem dX10_init_82 : decode mX10_init.2.1 82 = .ok (.newarray .int, 2) := by decide +kernel
theorem dX10_init_84 : decode mX10_init.2.1 84 = .ok (.putfield 37, 3) := by decide +kernel
theorem dX10_init_87 : decode mX10_init.2.1 87 = .ok (.aload_n 0, 1) := by decide +kernel
theorem dX10_init_88 : decode mX10_init.2.1 88 = .ok (.bipush 49, 2) := by decide +kernel
theorem dX10_init_90 : decode mX10_init.2.1 90 = .ok (.newarray .int, 2) := by decide +kernel
theorem dX10_init_92 : decode mX10_init.2.1 92 = .ok (.putfield 40, 3) := by decide +kernel
theorem dX10_init_95 : decode mX10_init.2.1 95 = .ok (.aload_n 0, 1) := by decide +kernel
theorem dX10_init_96 : decode mX10_init.2.1 96 = .ok (.sipush 4100, 3) := by decide +kernel
theorem dX10_init_99 : decode mX10_init.2.1 99 = .ok (.newarray .int, 2) := by decide +kernel
theorem dX10_init_101 : decode mX10_init.2.1 101 = .ok (.putfield 43, 3) := by decide +kernel
theorem dX10_init_104 : decode mX10_init.2.1 104 = .ok (.aload_n 0, 1) := by decide +kernel
theorem dX10_init_105 : decode mX10_init.2.1 105 = .ok (.sipush 4100, 3) := by decide +kernel
theorem dX10_init_108 : decode mX10_init.2.1 108 = .ok (.newarray .int, 2) := by decide +kernel
theorem dX10_init_110 : decode mX10_init.2.1 110 = .ok (.putfield 46, 3) := by decide +kernel
theorem dX10_init_113 : decode mX10_init.2.1 113 = .ok (.aload_n 0, 1) := by decide +kernel
theorem dX10_init_114 : decode mX10_init.2.1 114 = .ok (.sipush 4100, 3) := by decide +kernel
theorem dX10_init_117 : decode mX10_init.2.1 117 = .ok (.newarray .int, 2) := by decide +kernel
theorem dX10_init_119 : decode mX10_init.2.1 119 = .ok (.putfield 49, 3) := by decide +kernel
theorem dX10_init_122 : decode mX10_init.2.1 122 = .ok (.aload_n 0, 1) := by decide +kernel
theorem dX10_init_123 : decode mX10_init.2.1 123 = .ok (.sipush 4100, 3) := by decide +kernel
theorem dX10_init_126 : decode mX10_init.2.1 126 = .ok (.newarray .int, 2) := by decide +kernel
theorem dX10_init_128 : decode mX10_init.2.1 128 = .ok (.putfield 52, 3) := by decide +kernel
theorem dX10_init_131 : decode mX10_init.2.1 131 = .ok (.aload_n 0, 1) := by decide +kernel
theorem dX10_init_132 : decode mX10_init.2.1 132 = .ok (.bipush 16, 2) := by decide +kernel
theorem dX10_init_134 : decode mX10_init.2.1 134 = .ok (.newarray .int, 2) := by decide +kernel
theorem dX10_init_136 : decode mX10_init.2.1 136 = .ok (.putfield 55, 3) := by decide +kernel
theorem dX10_init_139 : decode mX10_init.2.1 139 = .ok (.aload_n 0, 1) := by decide +kernel
theorem dX10_init_140 : decode mX10_init.2.1 140 = .ok (.iconst 4, 1) := by decide +kernel
theorem dX10_init_141 : decode mX10_init.2.1 141 = .ok (.newarray .int, 2) := by decide +kernel
theorem dX10_init_143 : decode mX10_init.2.1 143 = .ok (.putfield 58, 3) := by decide +kernel
theorem dX10_init_146 : decode mX10_init.2.1 146 = .ok (.aload_n 0, 1) := by decide +kernel
theorem dX10_init_147 : decode mX10_init.2.1 147 = .ok (.iconst 4, 1) := by decide +kernel
theorem dX10_init_148 : decode mX10_init.2.1 148 = .ok (.newarray .int, 2) := by decide +kernel
theorem dX10_init_150 : decode mX10_init.2.1 150 = .ok (.putfield 61, 3) := by decide +kernel
theorem dX10_init_153 : decode mX10_init.2.1 153 = .ok (.aload_n 0, 1) := by decide +kernel
theorem dX10_init_154 : decode mX10_init.2.1 154 = .ok (.iconst 4, 1) := by decide +kernel
theorem dX10_init_155 : decode mX10_init.2.1 155 = .ok (.newarray .int, 2) := by decide +kernel
theorem dX10_init_157 : decode mX10_init.2.1 157 = .ok (.putfield 64, 3) := by decide +kernel
theorem dX10_init_160 : decode mX10_init.2.1 160 = .ok (.aload_n 0, 1) := by decide +kernel
theorem dX10_init_161 : decode mX10_init.2.1 161 = .ok (.iconst 4, 1) := by decide +kernel
theorem dX10_init_162 : decode mX10_init.2.1 162 = .ok (.newarray .int, 2) := by decide +kernel
theorem dX10_init_164 : decode mX10_init.2.1 164 = .ok (.putfield 67, 3) := by decide +kernel
theorem dX10_init_167 : decode mX10_init.2.1 167 = .ok (.aload_n 0, 1) := by decide +kernel
theorem dX10_init_168 : decode mX10_init.2.1 168 = .ok (.iconst 4, 1) := by decide +kernel
theorem dX10_init_169 : decode mX10_init.2.1 169 = .ok (.newarray .int, 2) := by decide +kernel
theorem dX10_init_171 : decode mX10_init.2.1 171 = .ok (.putfield 70, 3) := by decide +kernel
theorem dX10_init_174 : decode mX10_init.2.1 174 = .ok (.aload_n 0, 1) := by decide +kernel
theorem dX10_init_175 : decode mX10_init.2.1 175 = .ok (.iconst 4, 1) := by decide +kernel
theorem dX10_init_176 : decode mX10_init.2.1 176 = .ok (.newarray .int, 2) := by decide +kernel
theorem dX10_init_178 : decode mX10_init.2.1 178 = .ok (.putfield 73, 3) := by decide +kernel
theorem dX10_init_181 : decode mX10_init.2.1 181 = .ok (.aload_n 0, 1) := by decide +kernel
theorem dX10_init_182 : decode mX10_init.2.1 182 = .ok (.bipush 32, 2) := by decide +kernel
theorem dX10_init_184 : decode mX10_init.2.1 184 = .ok (.newarray .int, 2) := by decide +kernel
theorem dX10_init_186 : decode mX10_init.2.1 186 = .ok (.putfield 76, 3) := by decide +kernel
theorem dX10_init_189 : decode mX10_init.2.1 189 = .ok (.aload_n 0, 1) := by decide +kernel
theorem dX10_init_190 : decode mX10_init.2.1 190 = .ok (.bipush 32, 2) := by decide +kernel
theorem dX10_init_192 : decode mX10_init.2.1 192 = .ok (.newarray .int, 2) := by decide +kernel
theorem dX10_init_194 : decode mX10_init.2.1 194 = .ok (.putfield 79, 3) := by decide +kernel
theorem dX10_init_197 : decode mX10_init.2.1 197 = .ok (.aload_n 0, 1) := by decide +kernel
theorem dX10_init_198 : decode mX10_init.2.1 198 = .ok (.bipush 32, 2) := by decide +kernel
theorem dX10_init_200 : decode mX10_init.2.1 200 = .ok (.newarray .int, 2) := by decide +kernel
theorem dX10_init_202 : decode mX10_init.2.1 202 = .ok (.putfield 82, 3) := by decide +kernel
theorem dX10_init_205 : decode mX10_init.2.1 205 = .ok (.return_, 1) := by decide +kernel
theorem dX10_in_0 : decode mX10_in.2.1 0 = .ok (.iload_n 0, 1) := by decide +kernel
theorem dX10_in_1 : decode mX10_in.2.1 1 = .ok (.iload_n 1, 1) := by decide +kernel
theorem dX10_in_2 : decode mX10_in.2.1 2 = .ok (.if_icmp .lt 12, 3) := by decide +kernel
theorem dX10_in_5 : decode mX10_in.2.1 5 = .ok (.iload_n 0, 1) := by decide +kernel
theorem dX10_in_6 : decode mX10_in.2.1 6 = .ok (.iload_n 2, 1) := by decide +kernel
theorem dX10_in_7 : decode mX10_in.2.1 7 = .ok (.if_icmp .gt 7, 3) := by decide +kernel
theorem dX10_in_10 : decode mX10_in.2.1 10 = .ok (.iconst 1, 1) := by decide +kernel
theorem dX10_in_11 : decode mX10_in.2.1 11 = .ok (.goto 4, 3) := by decide +kernel
theorem dX10_in_14 : decode mX10_in.2.1 14 = .ok (.iconst 0, 1) := by decide +kernel
theorem dX10_in_15 : decode mX10_in.2.1 15 = .ok (.ireturn, 1) := by decide +kernel
theorem dX10_bring_0 : decode mX10_bring.2.1 0 = .ok (.iconst 0, 1) := by decide +kernel
theorem dX10_bring_1 : decode mX10_bring.2.1 1 = .ok (.istore 4, 2) := by decide +kernel
theorem dX10_bring_3 : decode mX10_bring.2.1 3 = .ok (.iload 4, 2) := by decide +kernel
theorem dX10_bring_5 : decode mX10_bring.2.1 5 = .ok (.sipush 133, 3) := by decide +kernel
theorem dX10_bring_8 : decode mX10_bring.2.1 8 = .ok (.if_icmp .ge 21, 3) := by decide +kernel
theorem dX10_bring_11 : decode mX10_bring.2.1 11 = .ok (.aload_n 2, 1) := by decide +kernel
theorem dX10_bring_12 : decode mX10_bring.2.1 12 = .ok (.iload_n 3, 1) := by decide +kernel
theorem dX10_bring_13 : decode mX10_bring.2.1 13 = .ok (.iload 4, 2) := by decide +kernel
theorem dX10_bring_15 : decode mX10_bring.2.1 15 = .ok (.iadd, 1) := by decide +kernel
theorem dX10_bring_16 : decode mX10_bring.2.1 16 = .ok (.aload_n 0, 1) := by decide +kernel
theorem dX10_bring_17 : decode mX10_bring.2.1 17 = .ok (.iload_n 1, 1) := by decide +kernel
theorem dX10_bring_18 : decode mX10_bring.2.1 18 = .ok (.iload 4, 2) := by decide +kernel
theorem dX10_bring_20 : decode mX10_bring.2.1 20 = .ok (.iadd, 1) := by decide +kernel
theorem dX10_bring_21 : decode mX10_bring.2.1 21 = .ok (.iaload, 1) := by decide +kernel
theorem dX10_bring_22 : decode mX10_bring.2.1 22 = .ok (.iastore, 1) := by decide +kernel
theorem dX10_bring_23 : decode mX10_bring.2.1 23 = .ok (.iinc 4 1, 3) := by decide +kernel
theorem dX10_bring_26 : decode mX10_bring.2.1 26 = .ok (.goto (-23), 3) := by decide +kernel
theorem dX10_bring_29 : decode mX10_bring.2.1 29 = .ok (.return_, 1) := by decide +kernel
theorem dX10_refuse_0 : decode mX10_refuse.2.1 0 = .ok (.aload_n 0, 1) := by decide +kernel
theorem dX10_refuse_1 : decode mX10_refuse.2.1 1 = .ok (.getfield 19, 3) := by decide +kernel
theorem dX10_refuse_4 : decode mX10_refuse.2.1 4 = .ok (.bipush (-2), 2) := by decide +kernel
theorem dX10_refuse_6 : decode mX10_refuse.2.1 6 = .ok (.iload_n 1, 1) := by decide +kernel
theorem dX10_refuse_7 : decode mX10_refuse.2.1 7 = .ok (.isub, 1) := by decide +kernel
theorem dX10_refuse_8 : decode mX10_refuse.2.1 8 = .ok (.dup2, 1) := by decide +kernel
theorem dX10_refuse_9 : decode mX10_refuse.2.1 9 = .ok (.iaload, 1) := by decide +kernel
theorem dX10_refuse_10 : decode mX10_refuse.2.1 10 = .ok (.iconst 1, 1) := by decide +kernel
theorem dX10_refuse_11 : decode mX10_refuse.2.1 11 = .ok (.iadd, 1) := by decide +kernel
theorem dX10_refuse_12 : decode mX10_refuse.2.1 12 = .ok (.iastore, 1) := by decide +kernel
theorem dX10_refuse_13 : decode mX10_refuse.2.1 13 = .ok (.iload_n 1, 1) := by decide +kernel
theorem dX10_refuse_14 : decode mX10_refuse.2.1 14 = .ok (.ireturn, 1) := by decide +kernel
theorem dX10_note_0 : decode mX10_note.2.1 0 = .ok (.aload_n 0, 1) := by decide +kernel
theorem dX10_note_1 : decode mX10_note.2.1 1 = .ok (.getfield 85, 3) := by decide +kernel
theorem dX10_note_4 : decode mX10_note.2.1 4 = .ok (.iconst 5, 1) := by decide +kernel
theorem dX10_note_5 : decode mX10_note.2.1 5 = .ok (.if_icmp .ne 44, 3) := by decide +kernel
theorem dX10_note_8 : decode mX10_note.2.1 8 = .ok (.iconst 0, 1) := by decide +kernel
theorem dX10_note_9 : decode mX10_note.2.1 9 = .ok (.istore_n 1, 1) := by decide +kernel
theorem dX10_note_10 : decode mX10_note.2.1 10 = .ok (.iload_n 1, 1) := by decide +kernel
theorem dX10_note_11 : decode mX10_note.2.1 11 = .ok (.sipush 532, 3) := by decide +kernel
theorem dX10_note_14 : decode mX10_note.2.1 14 = .ok (.if_icmp .ge 25, 3) := by decide +kernel
theorem dX10_note_17 : decode mX10_note.2.1 17 = .ok (.aload_n 0, 1) := by decide +kernel
theorem dX10_note_18 : decode mX10_note.2.1 18 = .ok (.getfield 16, 3) := by decide +kernel
theorem dX10_note_21 : decode mX10_note.2.1 21 = .ok (.iload_n 1, 1) := by decide +kernel
theorem dX10_note_22 : decode mX10_note.2.1 22 = .ok (.aload_n 0, 1) := by decide +kernel
theorem dX10_note_23 : decode mX10_note.2.1 23 = .ok (.getfield 16, 3) := by decide +kernel
theorem dX10_note_26 : decode mX10_note.2.1 26 = .ok (.iload_n 1, 1) := by decide +kernel
theorem dX10_note_27 : decode mX10_note.2.1 27 = .ok (.sipush 133, 3) := by decide +kernel
theorem dX10_note_30 : decode mX10_note.2.1 30 = .ok (.iadd, 1) := by decide +kernel
theorem dX10_note_31 : decode mX10_note.2.1 31 = .ok (.iaload, 1) := by decide +kernel
theorem dX10_note_32 : decode mX10_note.2.1 32 = .ok (.iastore, 1) := by decide +kernel
theorem dX10_note_33 : decode mX10_note.2.1 33 = .ok (.iinc 1 1, 3) := by decide +kernel
theorem dX10_note_36 : decode mX10_note.2.1 36 = .ok (.goto (-26), 3) := by decide +kernel
theorem dX10_note_39 : decode mX10_note.2.1 39 = .ok (.aload_n 0, 1) := by decide +kernel
theorem dX10_note_40 : decode mX10_note.2.1 40 = .ok (.dup, 1) := by decide +kernel
theorem dX10_note_41 : decode mX10_note.2.1 41 = .ok (.getfield 85, 3) := by decide +kernel
theorem dX10_note_44 : decode mX10_note.2.1 44 = .ok (.iconst 1, 1) := by decide +kernel
theorem dX10_note_45 : decode mX10_note.2.1 45 = .ok (.isub, 1) := by decide +kernel
theorem dX10_note_46 : decode mX10_note.2.1 46 = .ok (.putfield 85, 3) := by decide +kernel
theorem dX10_note_49 : decode mX10_note.2.1 49 = .ok (.aload_n 0, 1) := by decide +kernel
theorem dX10_note_50 : decode mX10_note.2.1 50 = .ok (.getfield 7, 3) := by decide +kernel
theorem dX10_note_53 : decode mX10_note.2.1 53 = .ok (.iconst 0, 1) := by decide +kernel
theorem dX10_note_54 : decode mX10_note.2.1 54 = .ok (.aload_n 0, 1) := by decide +kernel
theorem dX10_note_55 : decode mX10_note.2.1 55 = .ok (.getfield 16, 3) := by decide +kernel
theorem dX10_note_58 : decode mX10_note.2.1 58 = .ok (.sipush 133, 3) := by decide +kernel
theorem dX10_note_61 : decode mX10_note.2.1 61 = .ok (.aload_n 0, 1) := by decide +kernel
theorem dX10_note_62 : decode mX10_note.2.1 62 = .ok (.getfield 85, 3) := by decide +kernel
theorem dX10_note_65 : decode mX10_note.2.1 65 = .ok (.imul, 1) := by decide +kernel
theorem dX10_note_66 : decode mX10_note.2.1 66 = .ok (.invokestatic 89, 3) := by decide +kernel
theorem dX10_note_69 : decode mX10_note.2.1 69 = .ok (.aload_n 0, 1) := by decide +kernel
theorem dX10_note_70 : decode mX10_note.2.1 70 = .ok (.dup, 1) := by decide +kernel
theorem dX10_note_71 : decode mX10_note.2.1 71 = .ok (.getfield 85, 3) := by decide +kernel
theorem dX10_note_74 : decode mX10_note.2.1 74 = .ok (.iconst 1, 1) := by decide +kernel
theorem dX10_note_75 : decode mX10_note.2.1 75 = .ok (.iadd, 1) := by decide +kernel
theorem dX10_note_76 : decode mX10_note.2.1 76 = .ok (.putfield 85, 3) := by decide +kernel
theorem dX10_note_79 : decode mX10_note.2.1 79 = .ok (.return_, 1) := by decide +kernel
theorem dX10_isWordByte_0 : decode mX10_isWordByte.2.1 0 = .ok (.aload_n 0, 1) := by decide +kernel
theorem dX10_isWordByte_1 : decode mX10_isWordByte.2.1 1 = .ok (.getfield 93, 3) := by decide +kernel
theorem dX10_isWordByte_4 : decode mX10_isWordByte.2.1 4 = .ok (.aload_n 0, 1) := by decide +kernel
theorem dX10_isWordByte_5 : decode mX10_isWordByte.2.1 5 = .ok (.getfield 96, 3) := by decide +kernel
theorem dX10_isWordByte_8 : decode mX10_isWordByte.2.1 8 = .ok (.if_icmp .ge 26, 3) := by decide +kernel
theorem dX10_isWordByte_11 : decode mX10_isWordByte.2.1 11 = .ok (.aload_n 0, 1) := by decide +kernel
theorem dX10_isWordByte_12 : decode mX10_isWordByte.2.1 12 = .ok (.getfield 22, 3) := by decide +kernel
theorem dX10_isWordByte_15 : decode mX10_isWordByte.2.1 15 = .ok (.aload_n 0, 1) := by decide +kernel
theorem dX10_isWordByte_16 : decode mX10_isWordByte.2.1 16 = .ok (.getfield 93, 3) := by decide +kernel
theorem dX10_isWordByte_19 : decode mX10_isWordByte.2.1 19 = .ok (.iaload, 1) := by decide +kernel
theorem dX10_isWordByte_20 : decode mX10_isWordByte.2.1 20 = .ok (.bipush 97, 2) := by decide +kernel
theorem dX10_isWordByte_22 : decode mX10_isWordByte.2.1 22 = .ok (.bipush 122, 2) := by decide +kernel
theorem dX10_isWordByte_24 : decode mX10_isWordByte.2.1 24 = .ok (.invokestatic 99, 3) := by decide +kernel
theorem dX10_isWordByte_27 : decode mX10_isWordByte.2.1 27 = .ok (.ifCond .eq 7, 3) := by decide +kernel
theorem dX10_isWordByte_30 : decode mX10_isWordByte.2.1 30 = .ok (.iconst 1, 1) := by decide +kernel
theorem dX10_isWordByte_31 : decode mX10_isWordByte.2.1 31 = .ok (.goto 4, 3) := by decide +kernel
theorem dX10_isWordByte_34 : decode mX10_isWordByte.2.1 34 = .ok (.iconst 0, 1) := by decide +kernel
theorem dX10_isWordByte_35 : decode mX10_isWordByte.2.1 35 = .ok (.ireturn, 1) := by decide +kernel
theorem dX10_isWord_0 : decode mX10_isWord.2.1 0 = .ok (.aload_n 0, 1) := by decide +kernel
theorem dX10_isWord_1 : decode mX10_isWord.2.1 1 = .ok (.getfield 93, 3) := by decide +kernel
theorem dX10_isWord_4 : decode mX10_isWord.2.1 4 = .ok (.aload_n 0, 1) := by decide +kernel
theorem dX10_isWord_5 : decode mX10_isWord.2.1 5 = .ok (.getfield 103, 3) := by decide +kernel
theorem dX10_isWord_8 : decode mX10_isWord.2.1 8 = .ok (.isub, 1) := by decide +kernel
theorem dX10_isWord_9 : decode mX10_isWord.2.1 9 = .ok (.istore 5, 2) := by decide +kernel
theorem dX10_isWord_11 : decode mX10_isWord.2.1 11 = .ok (.iload 5, 2) := by decide +kernel
theorem dX10_isWord_13 : decode mX10_isWord.2.1 13 = .ok (.iload 4, 2) := by decide +kernel
theorem dX10_isWord_15 : decode mX10_isWord.2.1 15 = .ok (.ifCond .ne 7, 3) := by decide +kernel
theorem dX10_isWord_18 : decode mX10_isWord.2.1 18 = .ok (.iconst 3, 1) := by decide +kernel
theorem dX10_isWord_19 : decode mX10_isWord.2.1 19 = .ok (.goto 4, 3) := by decide +kernel
theorem dX10_isWord_22 : decode mX10_isWord.2.1 22 = .ok (.iconst 4, 1) := by decide +kernel
theorem dX10_isWord_23 : decode mX10_isWord.2.1 23 = .ok (.if_icmp .ne 50, 3) := by decide +kernel
theorem dX10_isWord_26 : decode mX10_isWord.2.1 26 = .ok (.aload_n 0, 1) := by decide +kernel
theorem dX10_isWord_27 : decode mX10_isWord.2.1 27 = .ok (.getfield 22, 3) := by decide +kernel
theorem dX10_isWord_30 : decode mX10_isWord.2.1 30 = .ok (.aload_n 0, 1) := by decide +kernel
theorem dX10_isWord_31 : decode mX10_isWord.2.1 31 = .ok (.getfield 103, 3) := by decide +kernel
theorem dX10_isWord_34 : decode mX10_isWord.2.1 34 = .ok (.iaload, 1) := by decide +kernel
theorem dX10_isWord_35 : decode mX10_isWord.2.1 35 = .ok (.iload_n 1, 1) := by decide +kernel
theorem dX10_isWord_36 : decode mX10_isWord.2.1 36 = .ok (.if_icmp .ne 37, 3) := by decide +kernel
theorem dX10_isWord_39 : decode mX10_isWord.2.1 39 = .ok (.aload_n 0, 1) := by decide +kernel
theorem dX10_isWord_40 : decode mX10_isWord.2.1 40 = .ok (.getfield 22, 3) := by decide +kernel
theorem dX10_isWord_43 : decode mX10_isWord.2.1 43 = .ok (.aload_n 0, 1) := by decide +kernel
theorem dX10_isWord_44 : decode mX10_isWord.2.1 44 = .ok (.getfield 103, 3) := by decide +kernel
theorem dX10_isWord_47 : decode mX10_isWord.2.1 47 = .ok (.iconst 1, 1) := by decide +kernel
theorem dX10_isWord_48 : decode mX10_isWord.2.1 48 = .ok (.iadd, 1) := by decide +kernel
theorem dX10_isWord_49 : decode mX10_isWord.2.1 49 = .ok (.iaload, 1) := by decide +kernel
theorem dX10_isWord_50 : decode mX10_isWord.2.1 50 = .ok (.iload_n 2, 1) := by decide +kernel
theorem dX10_isWord_51 : decode mX10_isWord.2.1 51 = .ok (.if_icmp .ne 22, 3) := by decide +kernel
theorem dX10_isWord_54 : decode mX10_isWord.2.1 54 = .ok (.aload_n 0, 1) := by decide +kernel
theorem dX10_isWord_55 : decode mX10_isWord.2.1 55 = .ok (.getfield 22, 3) := by decide +kernel
theorem dX10_isWord_58 : decode mX10_isWord.2.1 58 = .ok (.aload_n 0, 1) := by decide +kernel
theorem dX10_isWord_59 : decode mX10_isWord.2.1 59 = .ok (.getfield 103, 3) := by decide +kernel
theorem dX10_isWord_62 : decode mX10_isWord.2.1 62 = .ok (.iconst 2, 1) := by decide +kernel
theorem dX10_isWord_63 : decode mX10_isWord.2.1 63 = .ok (.iadd, 1) := by decide +kernel
theorem dX10_isWord_64 : decode mX10_isWord.2.1 64 = .ok (.iaload, 1) := by decide +kernel
theorem dX10_isWord_65 : decode mX10_isWord.2.1 65 = .ok (.iload_n 3, 1) := by decide +kernel
theorem dX10_isWord_66 : decode mX10_isWord.2.1 66 = .ok (.if_icmp .ne 7, 3) := by decide +kernel
theorem dX10_isWord_69 : decode mX10_isWord.2.1 69 = .ok (.iconst 1, 1) := by decide +kernel
theorem dX10_isWord_70 : decode mX10_isWord.2.1 70 = .ok (.goto 4, 3) := by decide +kernel
theorem dX10_isWord_73 : decode mX10_isWord.2.1 73 = .ok (.iconst 0, 1) := by decide +kernel
theorem dX10_isWord_74 : decode mX10_isWord.2.1 74 = .ok (.istore 6, 2) := by decide +kernel
theorem dX10_isWord_76 : decode mX10_isWord.2.1 76 = .ok (.iload 6, 2) := by decide +kernel
theorem dX10_isWord_78 : decode mX10_isWord.2.1 78 = .ok (.ifCond .eq 28, 3) := by decide +kernel
theorem dX10_isWord_81 : decode mX10_isWord.2.1 81 = .ok (.iload 4, 2) := by decide +kernel
theorem dX10_isWord_83 : decode mX10_isWord.2.1 83 = .ok (.ifCond .eq 19, 3) := by decide +kernel
theorem dX10_isWord_86 : decode mX10_isWord.2.1 86 = .ok (.aload_n 0, 1) := by decide +kernel
theorem dX10_isWord_87 : decode mX10_isWord.2.1 87 = .ok (.getfield 22, 3) := by decide +kernel
theorem dX10_isWord_90 : decode mX10_isWord.2.1 90 = .ok (.aload_n 0, 1) := by decide +kernel
theorem dX10_isWord_91 : decode mX10_isWord.2.1 91 = .ok (.getfield 103, 3) := by decide +kernel
theorem dX10_isWord_94 : decode mX10_isWord.2.1 94 = .ok (.iconst 3, 1) := by decide +kernel
theorem dX10_isWord_95 : decode mX10_isWord.2.1 95 = .ok (.iadd, 1) := by decide +kernel
theorem dX10_isWord_96 : decode mX10_isWord.2.1 96 = .ok (.iaload, 1) := by decide +kernel
theorem dX10_isWord_97 : decode mX10_isWord.2.1 97 = .ok (.iload 4, 2) := by decide +kernel
theorem dX10_isWord_99 : decode mX10_isWord.2.1 99 = .ok (.if_icmp .ne 7, 3) := by decide +kernel
theorem dX10_isWord_102 : decode mX10_isWord.2.1 102 = .ok (.iconst 1, 1) := by decide +kernel
theorem dX10_isWord_103 : decode mX10_isWord.2.1 103 = .ok (.goto 4, 3) := by decide +kernel
theorem dX10_isWord_106 : decode mX10_isWord.2.1 106 = .ok (.iconst 0, 1) := by decide +kernel
theorem dX10_isWord_107 : decode mX10_isWord.2.1 107 = .ok (.ireturn, 1) := by decide +kernel
theorem dX10_next_0 : decode mX10_next.2.1 0 = .ok (.aload_n 0, 1) := by decide +kernel
theorem dX10_next_1 : decode mX10_next.2.1 1 = .ok (.getfield 93, 3) := by decide +kernel
theorem dX10_next_4 : decode mX10_next.2.1 4 = .ok (.aload_n 0, 1) := by decide +kernel
theorem dX10_next_5 : decode mX10_next.2.1 5 = .ok (.getfield 96, 3) := by decide +kernel
theorem dX10_next_8 : decode mX10_next.2.1 8 = .ok (.if_icmp .ge 30, 3) := by decide +kernel
theorem dX10_next_11 : decode mX10_next.2.1 11 = .ok (.aload_n 0, 1) := by decide +kernel
theorem dX10_next_12 : decode mX10_next.2.1 12 = .ok (.getfield 22, 3) := by decide +kernel
theorem dX10_next_15 : decode mX10_next.2.1 15 = .ok (.aload_n 0, 1) := by decide +kernel
theorem dX10_next_16 : decode mX10_next.2.1 16 = .ok (.getfield 93, 3) := by decide +kernel
theorem dX10_next_19 : decode mX10_next.2.1 19 = .ok (.iaload, 1) := by decide +kernel
theorem dX10_next_20 : decode mX10_next.2.1 20 = .ok (.bipush 32, 2) := by decide +kernel
theorem dX10_next_22 : decode mX10_next.2.1 22 = .ok (.if_icmp .ne 16, 3) := by decide +kernel
theorem dX10_next_25 : decode mX10_next.2.1 25 = .ok (.aload_n 0, 1) := by decide +kernel
theorem dX10_next_26 : decode mX10_next.2.1 26 = .ok (.dup, 1) := by decide +kernel
theorem dX10_next_27 : decode mX10_next.2.1 27 = .ok (.getfield 93, 3) := by decide +kernel
theorem dX10_next_30 : decode mX10_next.2.1 30 = .ok (.iconst 1, 1) := by decide +kernel
theorem dX10_next_31 : decode mX10_next.2.1 31 = .ok (.iadd, 1) := by decide +kernel
theorem dX10_next_32 : decode mX10_next.2.1 32 = .ok (.putfield 93, 3) := by decide +kernel
theorem dX10_next_35 : decode mX10_next.2.1 35 = .ok (.goto (-35), 3) := by decide +kernel
theorem dX10_next_38 : decode mX10_next.2.1 38 = .ok (.aload_n 0, 1) := by decide +kernel
theorem dX10_next_39 : decode mX10_next.2.1 39 = .ok (.aload_n 0, 1) := by decide +kernel
theorem dX10_next_40 : decode mX10_next.2.1 40 = .ok (.getfield 93, 3) := by decide +kernel
theorem dX10_next_43 : decode mX10_next.2.1 43 = .ok (.putfield 103, 3) := by decide +kernel
theorem dX10_next_46 : decode mX10_next.2.1 46 = .ok (.aload_n 0, 1) := by decide +kernel
theorem dX10_next_47 : decode mX10_next.2.1 47 = .ok (.getfield 93, 3) := by decide +kernel
theorem dX10_next_50 : decode mX10_next.2.1 50 = .ok (.aload_n 0, 1) := by decide +kernel
theorem dX10_next_51 : decode mX10_next.2.1 51 = .ok (.getfield 96, 3) := by decide +kernel
theorem dX10_next_54 : decode mX10_next.2.1 54 = .ok (.if_icmp .ne 11, 3) := by decide +kernel
theorem dX10_next_57 : decode mX10_next.2.1 57 = .ok (.aload_n 0, 1) := by decide +kernel
theorem dX10_next_58 : decode mX10_next.2.1 58 = .ok (.sipush 1000, 3) := by decide +kernel
theorem dX10_next_61 : decode mX10_next.2.1 61 = .ok (.putfield 106, 3) := by decide +kernel
theorem dX10_next_64 : decode mX10_next.2.1 64 = .ok (.return_, 1) := by decide +kernel
theorem dX10_next_65 : decode mX10_next.2.1 65 = .ok (.aload_n 0, 1) := by decide +kernel
theorem dX10_next_66 : decode mX10_next.2.1 66 = .ok (.invokevirtual 109, 3) := by decide +kernel
theorem dX10_next_69 : decode mX10_next.2.1 69 = .ok (.ifCond .ne 27, 3) := by decide +kernel
theorem dX10_next_72 : decode mX10_next.2.1 72 = .ok (.aload_n 0, 1) := by decide +kernel
theorem dX10_next_73 : decode mX10_next.2.1 73 = .ok (.aload_n 0, 1) := by decide +kernel
theorem dX10_next_74 : decode mX10_next.2.1 74 = .ok (.getfield 22, 3) := by decide +kernel
theorem dX10_next_77 : decode mX10_next.2.1 77 = .ok (.aload_n 0, 1) := by decide +kernel
theorem dX10_next_78 : decode mX10_next.2.1 78 = .ok (.getfield 93, 3) := by decide +kernel
theorem dX10_next_81 : decode mX10_next.2.1 81 = .ok (.iaload, 1) := by decide +kernel
theorem dX10_next_82 : decode mX10_next.2.1 82 = .ok (.putfield 106, 3) := by decide +kernel
theorem dX10_next_85 : decode mX10_next.2.1 85 = .ok (.aload_n 0, 1) := by decide +kernel
theorem dX10_next_86 : decode mX10_next.2.1 86 = .ok (.dup, 1) := by decide +kernel
theorem dX10_next_87 : decode mX10_next.2.1 87 = .ok (.getfield 93, 3) := by decide +kernel
theorem dX10_next_90 : decode mX10_next.2.1 90 = .ok (.iconst 1, 1) := by decide +kernel
theorem dX10_next_91 : decode mX10_next.2.1 91 = .ok (.iadd, 1) := by decide +kernel
theorem dX10_next_92 : decode mX10_next.2.1 92 = .ok (.putfield 93, 3) := by decide +kernel
theorem dX10_next_95 : decode mX10_next.2.1 95 = .ok (.return_, 1) := by decide +kernel
theorem dX10_next_96 : decode mX10_next.2.1 96 = .ok (.aload_n 0, 1) := by decide +kernel
theorem dX10_next_97 : decode mX10_next.2.1 97 = .ok (.invokevirtual 109, 3) := by decide +kernel
theorem dX10_next_100 : decode mX10_next.2.1 100 = .ok (.ifCond .eq 16, 3) := by decide +kernel
theorem dX10_next_103 : decode mX10_next.2.1 103 = .ok (.aload_n 0, 1) := by decide +kernel
theorem dX10_next_104 : decode mX10_next.2.1 104 = .ok (.dup, 1) := by decide +kernel
theorem dX10_next_105 : decode mX10_next.2.1 105 = .ok (.getfield 93, 3) := by decide +kernel
theorem dX10_next_108 : decode mX10_next.2.1 108 = .ok (.iconst 1, 1) := by decide +kernel
theorem dX10_next_109 : decode mX10_next.2.1 109 = .ok (.iadd, 1) := by decide +kernel
theorem dX10_next_110 : decode mX10_next.2.1 110 = .ok (.putfield 93, 3) := by decide +kernel
theorem dX10_next_113 : decode mX10_next.2.1 113 = .ok (.goto (-17), 3) := by decide +kernel
theorem dX10_next_116 : decode mX10_next.2.1 116 = .ok (.aload_n 0, 1) := by decide +kernel
theorem dX10_next_117 : decode mX10_next.2.1 117 = .ok (.aload_n 0, 1) := by decide +kernel
theorem dX10_next_118 : decode mX10_next.2.1 118 = .ok (.getfield 93, 3) := by decide +kernel
theorem dX10_next_121 : decode mX10_next.2.1 121 = .ok (.aload_n 0, 1) := by decide +kernel
theorem dX10_next_122 : decode mX10_next.2.1 122 = .ok (.getfield 103, 3) := by decide +kernel
theorem dX10_next_125 : decode mX10_next.2.1 125 = .ok (.iconst 1, 1) := by decide +kernel
theorem dX10_next_126 : decode mX10_next.2.1 126 = .ok (.iadd, 1) := by decide +kernel
theorem dX10_next_127 : decode mX10_next.2.1 127 = .ok (.if_icmp .ne 15, 3) := by decide +kernel
theorem dX10_next_130 : decode mX10_next.2.1 130 = .ok (.aload_n 0, 1) := by decide +kernel
theorem dX10_next_131 : decode mX10_next.2.1 131 = .ok (.getfield 22, 3) := by decide +kernel
theorem dX10_next_134 : decode mX10_next.2.1 134 = .ok (.aload_n 0, 1) := by decide +kernel
theorem dX10_next_135 : decode mX10_next.2.1 135 = .ok (.getfield 103, 3) := by decide +kernel
theorem dX10_next_138 : decode mX10_next.2.1 138 = .ok (.iaload, 1) := by decide +kernel
theorem dX10_next_139 : decode mX10_next.2.1 139 = .ok (.goto 47, 3) := by decide +kernel
theorem dX10_next_142 : decode mX10_next.2.1 142 = .ok (.aload_n 0, 1) := by decide +kernel
theorem dX10_next_143 : decode mX10_next.2.1 143 = .ok (.bipush 110, 2) := by decide +kernel
theorem dX10_next_145 : decode mX10_next.2.1 145 = .ok (.bipush 101, 2) := by decide +kernel
theorem dX10_next_147 : decode mX10_next.2.1 147 = .ok (.bipush 119, 2) := by decide +kernel
theorem dX10_next_149 : decode mX10_next.2.1 149 = .ok (.iconst 0, 1) := by decide +kernel
theorem dX10_next_150 : decode mX10_next.2.1 150 = .ok (.invokevirtual 113, 3) := by decide +kernel
theorem dX10_next_153 : decode mX10_next.2.1 153 = .ok (.ifCond .eq 9, 3) := by decide +kernel
theorem dX10_next_156 : decode mX10_next.2.1 156 = .ok (.sipush 1001, 3) := by decide +kernel
theorem dX10_next_159 : decode mX10_next.2.1 159 = .ok (.goto 27, 3) := by decide +kernel
theorem dX10_next_162 : decode mX10_next.2.1 162 = .ok (.aload_n 0, 1) := by decide +kernel
theorem dX10_next_163 : decode mX10_next.2.1 163 = .ok (.bipush 108, 2) := by decide +kernel
theorem dX10_next_165 : decode mX10_next.2.1 165 = .ok (.bipush 111, 2) := by decide +kernel
theorem dX10_next_167 : decode mX10_next.2.1 167 = .ok (.bipush 99, 2) := by decide +kernel
theorem dX10_next_169 : decode mX10_next.2.1 169 = .ok (.bipush 107, 2) := by decide +kernel
theorem dX10_next_171 : decode mX10_next.2.1 171 = .ok (.invokevirtual 113, 3) := by decide +kernel
theorem dX10_next_174 : decode mX10_next.2.1 174 = .ok (.ifCond .eq 9, 3) := by decide +kernel
theorem dX10_next_177 : decode mX10_next.2.1 177 = .ok (.sipush 1002, 3) := by decide +kernel
theorem dX10_next_180 : decode mX10_next.2.1 180 = .ok (.goto 6, 3) := by decide +kernel
theorem dX10_next_183 : decode mX10_next.2.1 183 = .ok (.sipush 1003, 3) := by decide +kernel
theorem dX10_next_186 : decode mX10_next.2.1 186 = .ok (.putfield 106, 3) := by decide +kernel
theorem dX10_next_189 : decode mX10_next.2.1 189 = .ok (.return_, 1) := by decide +kernel
theorem dX10_isNext_0 : decode mX10_isNext.2.1 0 = .ok (.aload_n 0, 1) := by decide +kernel
theorem dX10_isNext_1 : decode mX10_isNext.2.1 1 = .ok (.invokevirtual 117, 3) := by decide +kernel
theorem dX10_isNext_4 : decode mX10_isNext.2.1 4 = .ok (.aload_n 0, 1) := by decide +kernel
theorem dX10_isNext_5 : decode mX10_isNext.2.1 5 = .ok (.getfield 106, 3) := by decide +kernel
theorem dX10_isNext_8 : decode mX10_isNext.2.1 8 = .ok (.iload_n 1, 1) := by decide +kernel
theorem dX10_isNext_9 : decode mX10_isNext.2.1 9 = .ok (.if_icmp .ne 7, 3) := by decide +kernel
theorem dX10_isNext_12 : decode mX10_isNext.2.1 12 = .ok (.iconst 1, 1) := by decide +kernel
theorem dX10_isNext_13 : decode mX10_isNext.2.1 13 = .ok (.goto 4, 3) := by decide +kernel
theorem dX10_isNext_16 : decode mX10_isNext.2.1 16 = .ok (.iconst 0, 1) := by decide +kernel
theorem dX10_isNext_17 : decode mX10_isNext.2.1 17 = .ok (.ireturn, 1) := by decide +kernel
theorem dX10_nameOf_0 : decode mX10_nameOf.2.1 0 = .ok (.iload_n 0, 1) := by decide +kernel
theorem dX10_nameOf_1 : decode mX10_nameOf.2.1 1 = .ok (.bipush 112, 2) := by decide +kernel
theorem dX10_nameOf_3 : decode mX10_nameOf.2.1 3 = .ok (.if_icmp .ne 7, 3) := by decide +kernel
theorem dX10_nameOf_6 : decode mX10_nameOf.2.1 6 = .ok (.iconst 0, 1) := by decide +kernel
theorem dX10_nameOf_7 : decode mX10_nameOf.2.1 7 = .ok (.goto 34, 3) := by decide +kernel
theorem dX10_nameOf_10 : decode mX10_nameOf.2.1 10 = .ok (.iload_n 0, 1) := by decide +kernel
theorem dX10_nameOf_11 : decode mX10_nameOf.2.1 11 = .ok (.bipush 97, 2) := by decide +kernel
theorem dX10_nameOf_13 : decode mX10_nameOf.2.1 13 = .ok (.if_icmp .ne 7, 3) := by decide +kernel
theorem dX10_nameOf_16 : decode mX10_nameOf.2.1 16 = .ok (.iconst 1, 1) := by decide +kernel
theorem dX10_nameOf_17 : decode mX10_nameOf.2.1 17 = .ok (.goto 24, 3) := by decide +kernel
theorem dX10_nameOf_20 : decode mX10_nameOf.2.1 20 = .ok (.iload_n 0, 1) := by decide +kernel
theorem dX10_nameOf_21 : decode mX10_nameOf.2.1 21 = .ok (.bipush 98, 2) := by decide +kernel
theorem dX10_nameOf_23 : decode mX10_nameOf.2.1 23 = .ok (.if_icmp .ne 7, 3) := by decide +kernel
theorem dX10_nameOf_26 : decode mX10_nameOf.2.1 26 = .ok (.iconst 2, 1) := by decide +kernel
theorem dX10_nameOf_27 : decode mX10_nameOf.2.1 27 = .ok (.goto 14, 3) := by decide +kernel
theorem dX10_nameOf_30 : decode mX10_nameOf.2.1 30 = .ok (.iload_n 0, 1) := by decide +kernel
theorem dX10_nameOf_31 : decode mX10_nameOf.2.1 31 = .ok (.bipush 114, 2) := by decide +kernel
theorem dX10_nameOf_33 : decode mX10_nameOf.2.1 33 = .ok (.if_icmp .ne 7, 3) := by decide +kernel
theorem dX10_nameOf_36 : decode mX10_nameOf.2.1 36 = .ok (.iconst 3, 1) := by decide +kernel
theorem dX10_nameOf_37 : decode mX10_nameOf.2.1 37 = .ok (.goto 4, 3) := by decide +kernel
theorem dX10_nameOf_40 : decode mX10_nameOf.2.1 40 = .ok (.iconst (-1), 1) := by decide +kernel
theorem dX10_nameOf_41 : decode mX10_nameOf.2.1 41 = .ok (.ireturn, 1) := by decide +kernel
theorem dX10_nextName_0 : decode mX10_nextName.2.1 0 = .ok (.aload_n 0, 1) := by decide +kernel
theorem dX10_nextName_1 : decode mX10_nextName.2.1 1 = .ok (.invokevirtual 117, 3) := by decide +kernel
theorem dX10_nextName_4 : decode mX10_nextName.2.1 4 = .ok (.aload_n 0, 1) := by decide +kernel
theorem dX10_nextName_5 : decode mX10_nextName.2.1 5 = .ok (.getfield 106, 3) := by decide +kernel
theorem dX10_nextName_8 : decode mX10_nextName.2.1 8 = .ok (.invokestatic 120, 3) := by decide +kernel
theorem dX10_nextName_11 : decode mX10_nextName.2.1 11 = .ok (.ireturn, 1) := by decide +kernel
theorem dX10_readRight_0 : decode mX10_readRight.2.1 0 = .ok (.aload_n 0, 1) := by decide +kernel
theorem dX10_readRight_1 : decode mX10_readRight.2.1 1 = .ok (.invokevirtual 117, 3) := by decide +kernel
theorem dX10_readRight_4 : decode mX10_readRight.2.1 4 = .ok (.aload_n 0, 1) := by decide +kernel
theorem dX10_readRight_5 : decode mX10_readRight.2.1 5 = .ok (.aload_n 0, 1) := by decide +kernel
theorem dX10_readRight_6 : decode mX10_readRight.2.1 6 = .ok (.getfield 106, 3) := by decide +kernel
theorem dX10_readRight_9 : decode mX10_readRight.2.1 9 = .ok (.invokestatic 120, 3) := by decide +kernel
theorem dX10_readRight_12 : decode mX10_readRight.2.1 12 = .ok (.putfield 124, 3) := by decide +kernel
theorem dX10_readRight_15 : decode mX10_readRight.2.1 15 = .ok (.aload_n 0, 1) := by decide +kernel
theorem dX10_readRight_16 : decode mX10_readRight.2.1 16 = .ok (.getfield 106, 3) := by decide +kernel
theorem dX10_readRight_19 : decode mX10_readRight.2.1 19 = .ok (.sipush 1001, 3) := by decide +kernel
theorem dX10_readRight_22 : decode mX10_readRight.2.1 22 = .ok (.if_icmp .eq 12, 3) := by decide +kernel
theorem dX10_readRight_25 : decode mX10_readRight.2.1 25 = .ok (.aload_n 0, 1) := by decide +kernel
theorem dX10_readRight_26 : decode mX10_readRight.2.1 26 = .ok (.getfield 106, 3) := by decide +kernel
theorem dX10_readRight_29 : decode mX10_readRight.2.1 29 = .ok (.bipush 71, 2) := by decide +kernel
theorem dX10_readRight_31 : decode mX10_readRight.2.1 31 = .ok (.if_icmp .ne 28, 3) := by decide +kernel
theorem dX10_readRight_34 : decode mX10_readRight.2.1 34 = .ok (.aload_n 0, 1) := by decide +kernel
theorem dX10_readRight_35 : decode mX10_readRight.2.1 35 = .ok (.aload_n 0, 1) := by decide +kernel
theorem dX10_readRight_36 : decode mX10_readRight.2.1 36 = .ok (.getfield 106, 3) := by decide +kernel
theorem dX10_readRight_39 : decode mX10_readRight.2.1 39 = .ok (.sipush 1001, 3) := by decide +kernel
theorem dX10_readRight_42 : decode mX10_readRight.2.1 42 = .ok (.if_icmp .ne 7, 3) := by decide +kernel
theorem dX10_readRight_45 : decode mX10_readRight.2.1 45 = .ok (.iconst 0, 1) := by decide +kernel
theorem dX10_readRight_46 : decode mX10_readRight.2.1 46 = .ok (.goto 4, 3) := by decide +kernel
theorem dX10_readRight_49 : decode mX10_readRight.2.1 49 = .ok (.iconst 5, 1) := by decide +kernel
theorem dX10_readRight_50 : decode mX10_readRight.2.1 50 = .ok (.putfield 127, 3) := by decide +kernel
theorem dX10_readRight_53 : decode mX10_readRight.2.1 53 = .ok (.aload_n 0, 1) := by decide +kernel
theorem dX10_readRight_54 : decode mX10_readRight.2.1 54 = .ok (.invokevirtual 117, 3) := by decide +kernel
theorem dX10_readRight_57 : decode mX10_readRight.2.1 57 = .ok (.iconst 1, 1) := by decide +kernel
theorem dX10_readRight_58 : decode mX10_readRight.2.1 58 = .ok (.ireturn, 1) := by decide +kernel
theorem dX10_readRight_59 : decode mX10_readRight.2.1 59 = .ok (.aload_n 0, 1) := by decide +kernel
theorem dX10_readRight_60 : decode mX10_readRight.2.1 60 = .ok (.getfield 106, 3) := by decide +kernel
theorem dX10_readRight_63 : decode mX10_readRight.2.1 63 = .ok (.bipush 48, 2) := by decide +kernel
theorem dX10_readRight_65 : decode mX10_readRight.2.1 65 = .ok (.bipush 51, 2) := by decide +kernel
theorem dX10_readRight_67 : decode mX10_readRight.2.1 67 = .ok (.invokestatic 99, 3) := by decide +kernel
theorem dX10_readRight_70 : decode mX10_readRight.2.1 70 = .ok (.ifCond .eq 110, 3) := by decide +kernel
theorem dX10_readRight_73 : decode mX10_readRight.2.1 73 = .ok (.aload_n 0, 1) := by decide +kernel
theorem dX10_readRight_74 : decode mX10_readRight.2.1 74 = .ok (.bipush 7, 2) := by decide +kernel
theorem dX10_readRight_76 : decode mX10_readRight.2.1 76 = .ok (.putfield 127, 3) := by decide +kernel
theorem dX10_readRight_79 : decode mX10_readRight.2.1 79 = .ok (.aload_n 0, 1) := by decide +kernel
theorem dX10_readRight_80 : decode mX10_readRight.2.1 80 = .ok (.aload_n 0, 1) := by decide +kernel
theorem dX10_readRight_81 : decode mX10_readRight.2.1 81 = .ok (.getfield 106, 3) := by decide +kernel
theorem dX10_readRight_84 : decode mX10_readRight.2.1 84 = .ok (.bipush 48, 2) := by decide +kernel
theorem dX10_readRight_86 : decode mX10_readRight.2.1 86 = .ok (.isub, 1) := by decide +kernel
theorem dX10_readRight_87 : decode mX10_readRight.2.1 87 = .ok (.putfield 130, 3) := by decide +kernel
theorem dX10_readRight_90 : decode mX10_readRight.2.1 90 = .ok (.aload_n 0, 1) := by decide +kernel
theorem dX10_readRight_91 : decode mX10_readRight.2.1 91 = .ok (.getfield 130, 3) := by decide +kernel
theorem dX10_readRight_94 : decode mX10_readRight.2.1 94 = .ok (.iload_n 1, 1) := by decide +kernel
theorem dX10_readRight_95 : decode mX10_readRight.2.1 95 = .ok (.if_icmp .gt 5, 3) := by decide +kernel
theorem dX10_readRight_98 : decode mX10_readRight.2.1 98 = .ok (.iconst 0, 1) := by decide +kernel
theorem dX10_readRight_99 : decode mX10_readRight.2.1 99 = .ok (.ireturn, 1) := by decide +kernel
theorem dX10_readRight_100 : decode mX10_readRight.2.1 100 = .ok (.aload_n 0, 1) := by decide +kernel
theorem dX10_readRight_101 : decode mX10_readRight.2.1 101 = .ok (.getfield 25, 3) := by decide +kernel
theorem dX10_readRight_104 : decode mX10_readRight.2.1 104 = .ok (.aload_n 0, 1) := by decide +kernel
theorem dX10_readRight_105 : decode mX10_readRight.2.1 105 = .ok (.getfield 133, 3) := by decide +kernel
theorem dX10_readRight_108 : decode mX10_readRight.2.1 108 = .ok (.aload_n 0, 1) := by decide +kernel
theorem dX10_readRight_109 : decode mX10_readRight.2.1 109 = .ok (.getfield 130, 3) := by decide +kernel
theorem dX10_readRight_112 : decode mX10_readRight.2.1 112 = .ok (.iastore, 1) := by decide +kernel
theorem dX10_readRight_113 : decode mX10_readRight.2.1 113 = .ok (.aload_n 0, 1) := by decide +kernel
theorem dX10_readRight_114 : decode mX10_readRight.2.1 114 = .ok (.getfield 28, 3) := by decide +kernel
theorem dX10_readRight_117 : decode mX10_readRight.2.1 117 = .ok (.aload_n 0, 1) := by decide +kernel
theorem dX10_readRight_118 : decode mX10_readRight.2.1 118 = .ok (.getfield 133, 3) := by decide +kernel
theorem dX10_readRight_121 : decode mX10_readRight.2.1 121 = .ok (.aload_n 0, 1) := by decide +kernel
theorem dX10_readRight_122 : decode mX10_readRight.2.1 122 = .ok (.getfield 103, 3) := by decide +kernel
theorem dX10_readRight_125 : decode mX10_readRight.2.1 125 = .ok (.iastore, 1) := by decide +kernel
theorem dX10_readRight_126 : decode mX10_readRight.2.1 126 = .ok (.aload_n 0, 1) := by decide +kernel
theorem dX10_readRight_127 : decode mX10_readRight.2.1 127 = .ok (.dup, 1) := by decide +kernel
theorem dX10_readRight_128 : decode mX10_readRight.2.1 128 = .ok (.getfield 133, 3) := by decide +kernel
theorem dX10_readRight_131 : decode mX10_readRight.2.1 131 = .ok (.iconst 1, 1) := by decide +kernel
theorem dX10_readRight_132 : decode mX10_readRight.2.1 132 = .ok (.iadd, 1) := by decide +kernel
theorem dX10_readRight_133 : decode mX10_readRight.2.1 133 = .ok (.putfield 133, 3) := by decide +kernel
theorem dX10_readRight_136 : decode mX10_readRight.2.1 136 = .ok (.aload_n 0, 1) := by decide +kernel
theorem dX10_readRight_137 : decode mX10_readRight.2.1 137 = .ok (.bipush 40, 2) := by decide +kernel
theorem dX10_readRight_139 : decode mX10_readRight.2.1 139 = .ok (.invokevirtual 136, 3) := by decide +kernel
theorem dX10_readRight_142 : decode mX10_readRight.2.1 142 = .ok (.ifCond .ne 5, 3) := by decide +kernel
theorem dX10_readRight_145 : decode mX10_readRight.2.1 145 = .ok (.iconst 0, 1) := by decide +kernel
theorem dX10_readRight_146 : decode mX10_readRight.2.1 146 = .ok (.ireturn, 1) := by decide +kernel
theorem dX10_readRight_147 : decode mX10_readRight.2.1 147 = .ok (.aload_n 0, 1) := by decide +kernel
theorem dX10_readRight_148 : decode mX10_readRight.2.1 148 = .ok (.aload_n 0, 1) := by decide +kernel
theorem dX10_readRight_149 : decode mX10_readRight.2.1 149 = .ok (.invokevirtual 140, 3) := by decide +kernel
theorem dX10_readRight_152 : decode mX10_readRight.2.1 152 = .ok (.putfield 124, 3) := by decide +kernel
theorem dX10_readRight_155 : decode mX10_readRight.2.1 155 = .ok (.aload_n 0, 1) := by decide +kernel
theorem dX10_readRight_156 : decode mX10_readRight.2.1 156 = .ok (.getfield 124, 3) := by decide +kernel
theorem dX10_readRight_159 : decode mX10_readRight.2.1 159 = .ok (.iconst (-1), 1) := by decide +kernel
theorem dX10_readRight_160 : decode mX10_readRight.2.1 160 = .ok (.if_icmp .eq 12, 3) := by decide +kernel
theorem dX10_readRight_163 : decode mX10_readRight.2.1 163 = .ok (.aload_n 0, 1) := by decide +kernel
theorem dX10_readRight_164 : decode mX10_readRight.2.1 164 = .ok (.bipush 41, 2) := by decide +kernel
theorem dX10_readRight_166 : decode mX10_readRight.2.1 166 = .ok (.invokevirtual 136, 3) := by decide +kernel
theorem dX10_readRight_169 : decode mX10_readRight.2.1 169 = .ok (.ifCond .ne 5, 3) := by decide +kernel
theorem dX10_readRight_172 : decode mX10_readRight.2.1 172 = .ok (.iconst 0, 1) := by decide +kernel
theorem dX10_readRight_173 : decode mX10_readRight.2.1 173 = .ok (.ireturn, 1) := by decide +kernel
theorem dX10_readRight_174 : decode mX10_readRight.2.1 174 = .ok (.aload_n 0, 1) := by decide +kernel
theorem dX10_readRight_175 : decode mX10_readRight.2.1 175 = .ok (.invokevirtual 117, 3) := by decide +kernel
theorem dX10_readRight_178 : decode mX10_readRight.2.1 178 = .ok (.iconst 1, 1) := by decide +kernel
theorem dX10_readRight_179 : decode mX10_readRight.2.1 179 = .ok (.ireturn, 1) := by decide +kernel
theorem dX10_readRight_180 : decode mX10_readRight.2.1 180 = .ok (.aload_n 0, 1) := by decide +kernel
theorem dX10_readRight_181 : decode mX10_readRight.2.1 181 = .ok (.getfield 124, 3) := by decide +kernel
theorem dX10_readRight_184 : decode mX10_readRight.2.1 184 = .ok (.iconst (-1), 1) := by decide +kernel
theorem dX10_readRight_185 : decode mX10_readRight.2.1 185 = .ok (.if_icmp .ne 5, 3) := by decide +kernel
theorem dX10_readRight_188 : decode mX10_readRight.2.1 188 = .ok (.iconst 0, 1) := by decide +kernel
theorem dX10_readRight_189 : decode mX10_readRight.2.1 189 = .ok (.ireturn, 1) := by decide +kernel
theorem dX10_readRight_190 : decode mX10_readRight.2.1 190 = .ok (.aload_n 0, 1) := by decide +kernel
theorem dX10_readRight_191 : decode mX10_readRight.2.1 191 = .ok (.invokevirtual 117, 3) := by decide +kernel
theorem dX10_readRight_194 : decode mX10_readRight.2.1 194 = .ok (.aload_n 0, 1) := by decide +kernel
theorem dX10_readRight_195 : decode mX10_readRight.2.1 195 = .ok (.aload_n 0, 1) := by decide +kernel
theorem dX10_readRight_196 : decode mX10_readRight.2.1 196 = .ok (.getfield 106, 3) := by decide +kernel
theorem dX10_readRight_199 : decode mX10_readRight.2.1 199 = .ok (.bipush 46, 2) := by decide +kernel
theorem dX10_readRight_201 : decode mX10_readRight.2.1 201 = .ok (.if_icmp .ne 7, 3) := by decide +kernel
theorem dX10_readRight_204 : decode mX10_readRight.2.1 204 = .ok (.iconst 3, 1) := by decide +kernel
theorem dX10_readRight_205 : decode mX10_readRight.2.1 205 = .ok (.goto 4, 3) := by decide +kernel
theorem dX10_readRight_208 : decode mX10_readRight.2.1 208 = .ok (.iconst 1, 1) := by decide +kernel
theorem dX10_readRight_209 : decode mX10_readRight.2.1 209 = .ok (.putfield 127, 3) := by decide +kernel
theorem dX10_readRight_212 : decode mX10_readRight.2.1 212 = .ok (.aload_n 0, 1) := by decide +kernel
theorem dX10_readRight_213 : decode mX10_readRight.2.1 213 = .ok (.getfield 127, 3) := by decide +kernel
theorem dX10_readRight_216 : decode mX10_readRight.2.1 216 = .ok (.iconst 3, 1) := by decide +kernel
theorem dX10_readRight_217 : decode mX10_readRight.2.1 217 = .ok (.if_icmp .ne 18, 3) := by decide +kernel
theorem dX10_readRight_220 : decode mX10_readRight.2.1 220 = .ok (.aload_n 0, 1) := by decide +kernel
theorem dX10_readRight_221 : decode mX10_readRight.2.1 221 = .ok (.bipush 102, 2) := by decide +kernel
theorem dX10_readRight_223 : decode mX10_readRight.2.1 223 = .ok (.invokevirtual 136, 3) := by decide +kernel
theorem dX10_readRight_226 : decode mX10_readRight.2.1 226 = .ok (.ifCond .ne 5, 3) := by decide +kernel
theorem dX10_readRight_229 : decode mX10_readRight.2.1 229 = .ok (.iconst 0, 1) := by decide +kernel
theorem dX10_readRight_230 : decode mX10_readRight.2.1 230 = .ok (.ireturn, 1) := by decide +kernel
theorem dX10_readRight_231 : decode mX10_readRight.2.1 231 = .ok (.aload_n 0, 1) := by decide +kernel
theorem dX10_readRight_232 : decode mX10_readRight.2.1 232 = .ok (.invokevirtual 117, 3) := by decide +kernel
theorem dX10_readRight_235 : decode mX10_readRight.2.1 235 = .ok (.iconst 1, 1) := by decide +kernel
theorem dX10_readRight_236 : decode mX10_readRight.2.1 236 = .ok (.ireturn, 1) := by decide +kernel
theorem dX10_readLine_0 : decode mX10_readLine.2.1 0 = .ok (.aload_n 0, 1) := by decide +kernel
theorem dX10_readLine_1 : decode mX10_readLine.2.1 1 = .ok (.iconst (-1), 1) := by decide +kernel
theorem dX10_readLine_2 : decode mX10_readLine.2.1 2 = .ok (.putfield 124, 3) := by decide +kernel
theorem dX10_readLine_5 : decode mX10_readLine.2.1 5 = .ok (.aload_n 0, 1) := by decide +kernel
theorem dX10_readLine_6 : decode mX10_readLine.2.1 6 = .ok (.iconst (-1), 1) := by decide +kernel
theorem dX10_readLine_7 : decode mX10_readLine.2.1 7 = .ok (.putfield 130, 3) := by decide +kernel
theorem dX10_readLine_10 : decode mX10_readLine.2.1 10 = .ok (.aload_n 0, 1) := by decide +kernel
theorem dX10_readLine_11 : decode mX10_readLine.2.1 11 = .ok (.aload_n 0, 1) := by decide +kernel
theorem dX10_readLine_12 : decode mX10_readLine.2.1 12 = .ok (.getfield 106, 3) := by decide +kernel
theorem dX10_readLine_15 : decode mX10_readLine.2.1 15 = .ok (.invokestatic 120, 3) := by decide +kernel
theorem dX10_readLine_18 : decode mX10_readLine.2.1 18 = .ok (.putfield 144, 3) := by decide +kernel
theorem dX10_readLine_21 : decode mX10_readLine.2.1 21 = .ok (.aload_n 0, 1) := by decide +kernel
theorem dX10_readLine_22 : decode mX10_readLine.2.1 22 = .ok (.getfield 106, 3) := by decide +kernel
theorem dX10_readLine_25 : decode mX10_readLine.2.1 25 = .ok (.sipush 1002, 3) := by decide +kernel
theorem dX10_readLine_28 : decode mX10_readLine.2.1 28 = .ok (.if_icmp .ne 40, 3) := by decide +kernel
theorem dX10_readLine_31 : decode mX10_readLine.2.1 31 = .ok (.aload_n 0, 1) := by decide +kernel
theorem dX10_readLine_32 : decode mX10_readLine.2.1 32 = .ok (.bipush 6, 2) := by decide +kernel
theorem dX10_readLine_34 : decode mX10_readLine.2.1 34 = .ok (.putfield 127, 3) := by decide +kernel
theorem dX10_readLine_37 : decode mX10_readLine.2.1 37 = .ok (.aload_n 0, 1) := by decide +kernel
theorem dX10_readLine_38 : decode mX10_readLine.2.1 38 = .ok (.aload_n 0, 1) := by decide +kernel
theorem dX10_readLine_39 : decode mX10_readLine.2.1 39 = .ok (.invokevirtual 140, 3) := by decide +kernel
theorem dX10_readLine_42 : decode mX10_readLine.2.1 42 = .ok (.putfield 144, 3) := by decide +kernel
theorem dX10_readLine_45 : decode mX10_readLine.2.1 45 = .ok (.aload_n 0, 1) := by decide +kernel
theorem dX10_readLine_46 : decode mX10_readLine.2.1 46 = .ok (.getfield 144, 3) := by decide +kernel
theorem dX10_readLine_49 : decode mX10_readLine.2.1 49 = .ok (.iconst (-1), 1) := by decide +kernel
theorem dX10_readLine_50 : decode mX10_readLine.2.1 50 = .ok (.if_icmp .eq 16, 3) := by decide +kernel
theorem dX10_readLine_53 : decode mX10_readLine.2.1 53 = .ok (.aload_n 0, 1) := by decide +kernel
theorem dX10_readLine_54 : decode mX10_readLine.2.1 54 = .ok (.bipush 59, 2) := by decide +kernel
theorem dX10_readLine_56 : decode mX10_readLine.2.1 56 = .ok (.invokevirtual 136, 3) := by decide +kernel
theorem dX10_readLine_59 : decode mX10_readLine.2.1 59 = .ok (.ifCond .eq 7, 3) := by decide +kernel
theorem dX10_readLine_62 : decode mX10_readLine.2.1 62 = .ok (.iconst 1, 1) := by decide +kernel
theorem dX10_readLine_63 : decode mX10_readLine.2.1 63 = .ok (.goto 4, 3) := by decide +kernel
theorem dX10_readLine_66 : decode mX10_readLine.2.1 66 = .ok (.iconst 0, 1) := by decide +kernel
theorem dX10_readLine_67 : decode mX10_readLine.2.1 67 = .ok (.ireturn, 1) := by decide +kernel
theorem dX10_readLine_68 : decode mX10_readLine.2.1 68 = .ok (.aload_n 0, 1) := by decide +kernel
theorem dX10_readLine_69 : decode mX10_readLine.2.1 69 = .ok (.getfield 106, 3) := by decide +kernel
theorem dX10_readLine_72 : decode mX10_readLine.2.1 72 = .ok (.bipush 71, 2) := by decide +kernel
theorem dX10_readLine_74 : decode mX10_readLine.2.1 74 = .ok (.if_icmp .ne 50, 3) := by decide +kernel
theorem dX10_readLine_77 : decode mX10_readLine.2.1 77 = .ok (.aload_n 0, 1) := by decide +kernel
theorem dX10_readLine_78 : decode mX10_readLine.2.1 78 = .ok (.iconst 4, 1) := by decide +kernel
theorem dX10_readLine_79 : decode mX10_readLine.2.1 79 = .ok (.putfield 127, 3) := by decide +kernel
theorem dX10_readLine_82 : decode mX10_readLine.2.1 82 = .ok (.aload_n 0, 1) := by decide +kernel
theorem dX10_readLine_83 : decode mX10_readLine.2.1 83 = .ok (.bipush 61, 2) := by decide +kernel
theorem dX10_readLine_85 : decode mX10_readLine.2.1 85 = .ok (.invokevirtual 136, 3) := by decide +kernel
theorem dX10_readLine_88 : decode mX10_readLine.2.1 88 = .ok (.ifCond .ne 5, 3) := by decide +kernel
theorem dX10_readLine_91 : decode mX10_readLine.2.1 91 = .ok (.iconst 0, 1) := by decide +kernel
theorem dX10_readLine_92 : decode mX10_readLine.2.1 92 = .ok (.ireturn, 1) := by decide +kernel
theorem dX10_readLine_93 : decode mX10_readLine.2.1 93 = .ok (.aload_n 0, 1) := by decide +kernel
theorem dX10_readLine_94 : decode mX10_readLine.2.1 94 = .ok (.aload_n 0, 1) := by decide +kernel
theorem dX10_readLine_95 : decode mX10_readLine.2.1 95 = .ok (.invokevirtual 140, 3) := by decide +kernel
theorem dX10_readLine_98 : decode mX10_readLine.2.1 98 = .ok (.putfield 144, 3) := by decide +kernel
theorem dX10_readLine_101 : decode mX10_readLine.2.1 101 = .ok (.aload_n 0, 1) := by decide +kernel
theorem dX10_readLine_102 : decode mX10_readLine.2.1 102 = .ok (.getfield 144, 3) := by decide +kernel
theorem dX10_readLine_105 : decode mX10_readLine.2.1 105 = .ok (.iconst (-1), 1) := by decide +kernel
theorem dX10_readLine_106 : decode mX10_readLine.2.1 106 = .ok (.if_icmp .eq 16, 3) := by decide +kernel
theorem dX10_readLine_109 : decode mX10_readLine.2.1 109 = .ok (.aload_n 0, 1) := by decide +kernel
theorem dX10_readLine_110 : decode mX10_readLine.2.1 110 = .ok (.bipush 59, 2) := by decide +kernel
theorem dX10_readLine_112 : decode mX10_readLine.2.1 112 = .ok (.invokevirtual 136, 3) := by decide +kernel
theorem dX10_readLine_115 : decode mX10_readLine.2.1 115 = .ok (.ifCond .eq 7, 3) := by decide +kernel
theorem dX10_readLine_118 : decode mX10_readLine.2.1 118 = .ok (.iconst 1, 1) := by decide +kernel
theorem dX10_readLine_119 : decode mX10_readLine.2.1 119 = .ok (.goto 4, 3) := by decide +kernel
theorem dX10_readLine_122 : decode mX10_readLine.2.1 122 = .ok (.iconst 0, 1) := by decide +kernel
theorem dX10_readLine_123 : decode mX10_readLine.2.1 123 = .ok (.ireturn, 1) := by decide +kernel
theorem dX10_readLine_124 : decode mX10_readLine.2.1 124 = .ok (.aload_n 0, 1) := by decide +kernel
theorem dX10_readLine_125 : decode mX10_readLine.2.1 125 = .ok (.getfield 144, 3) := by decide +kernel
theorem dX10_readLine_128 : decode mX10_readLine.2.1 128 = .ok (.iconst (-1), 1) := by decide +kernel
theorem dX10_readLine_129 : decode mX10_readLine.2.1 129 = .ok (.if_icmp .ne 5, 3) := by decide +kernel
theorem dX10_readLine_132 : decode mX10_readLine.2.1 132 = .ok (.iconst 0, 1) := by decide +kernel
theorem dX10_readLine_133 : decode mX10_readLine.2.1 133 = .ok (.ireturn, 1) := by decide +kernel
theorem dX10_readLine_134 : decode mX10_readLine.2.1 134 = .ok (.aload_n 0, 1) := by decide +kernel
theorem dX10_readLine_135 : decode mX10_readLine.2.1 135 = .ok (.invokevirtual 117, 3) := by decide +kernel
theorem dX10_readLine_138 : decode mX10_readLine.2.1 138 = .ok (.aload_n 0, 1) := by decide +kernel
theorem dX10_readLine_139 : decode mX10_readLine.2.1 139 = .ok (.getfield 106, 3) := by decide +kernel
theorem dX10_readLine_142 : decode mX10_readLine.2.1 142 = .ok (.bipush 46, 2) := by decide +kernel
theorem dX10_readLine_144 : decode mX10_readLine.2.1 144 = .ok (.if_icmp .ne 59, 3) := by decide +kernel
theorem dX10_readLine_147 : decode mX10_readLine.2.1 147 = .ok (.aload_n 0, 1) := by decide +kernel
theorem dX10_readLine_148 : decode mX10_readLine.2.1 148 = .ok (.iconst 2, 1) := by decide +kernel
theorem dX10_readLine_149 : decode mX10_readLine.2.1 149 = .ok (.putfield 127, 3) := by decide +kernel
theorem dX10_readLine_152 : decode mX10_readLine.2.1 152 = .ok (.aload_n 0, 1) := by decide +kernel
theorem dX10_readLine_153 : decode mX10_readLine.2.1 153 = .ok (.bipush 102, 2) := by decide +kernel
theorem dX10_readLine_155 : decode mX10_readLine.2.1 155 = .ok (.invokevirtual 136, 3) := by decide +kernel
theorem dX10_readLine_158 : decode mX10_readLine.2.1 158 = .ok (.ifCond .eq 12, 3) := by decide +kernel
theorem dX10_readLine_161 : decode mX10_readLine.2.1 161 = .ok (.aload_n 0, 1) := by decide +kernel
theorem dX10_readLine_162 : decode mX10_readLine.2.1 162 = .ok (.bipush 61, 2) := by decide +kernel
theorem dX10_readLine_164 : decode mX10_readLine.2.1 164 = .ok (.invokevirtual 136, 3) := by decide +kernel
theorem dX10_readLine_167 : decode mX10_readLine.2.1 167 = .ok (.ifCond .ne 5, 3) := by decide +kernel
theorem dX10_readLine_170 : decode mX10_readLine.2.1 170 = .ok (.iconst 0, 1) := by decide +kernel
theorem dX10_readLine_171 : decode mX10_readLine.2.1 171 = .ok (.ireturn, 1) := by decide +kernel
theorem dX10_readLine_172 : decode mX10_readLine.2.1 172 = .ok (.aload_n 0, 1) := by decide +kernel
theorem dX10_readLine_173 : decode mX10_readLine.2.1 173 = .ok (.aload_n 0, 1) := by decide +kernel
theorem dX10_readLine_174 : decode mX10_readLine.2.1 174 = .ok (.invokevirtual 140, 3) := by decide +kernel
theorem dX10_readLine_177 : decode mX10_readLine.2.1 177 = .ok (.putfield 124, 3) := by decide +kernel
theorem dX10_readLine_180 : decode mX10_readLine.2.1 180 = .ok (.aload_n 0, 1) := by decide +kernel
theorem dX10_readLine_181 : decode mX10_readLine.2.1 181 = .ok (.getfield 124, 3) := by decide +kernel
theorem dX10_readLine_184 : decode mX10_readLine.2.1 184 = .ok (.iconst (-1), 1) := by decide +kernel
theorem dX10_readLine_185 : decode mX10_readLine.2.1 185 = .ok (.if_icmp .eq 16, 3) := by decide +kernel
theorem dX10_readLine_188 : decode mX10_readLine.2.1 188 = .ok (.aload_n 0, 1) := by decide +kernel
theorem dX10_readLine_189 : decode mX10_readLine.2.1 189 = .ok (.bipush 59, 2) := by decide +kernel
theorem dX10_readLine_191 : decode mX10_readLine.2.1 191 = .ok (.invokevirtual 136, 3) := by decide +kernel
theorem dX10_readLine_194 : decode mX10_readLine.2.1 194 = .ok (.ifCond .eq 7, 3) := by decide +kernel
theorem dX10_readLine_197 : decode mX10_readLine.2.1 197 = .ok (.iconst 1, 1) := by decide +kernel
theorem dX10_readLine_198 : decode mX10_readLine.2.1 198 = .ok (.goto 4, 3) := by decide +kernel
theorem dX10_readLine_201 : decode mX10_readLine.2.1 201 = .ok (.iconst 0, 1) := by decide +kernel
theorem dX10_readLine_202 : decode mX10_readLine.2.1 202 = .ok (.ireturn, 1) := by decide +kernel
theorem dX10_readLine_203 : decode mX10_readLine.2.1 203 = .ok (.aload_n 0, 1) := by decide +kernel
theorem dX10_readLine_204 : decode mX10_readLine.2.1 204 = .ok (.getfield 106, 3) := by decide +kernel
theorem dX10_readLine_207 : decode mX10_readLine.2.1 207 = .ok (.bipush 61, 2) := by decide +kernel
theorem dX10_readLine_209 : decode mX10_readLine.2.1 209 = .ok (.if_icmp .ne 24, 3) := by decide +kernel
theorem dX10_readLine_212 : decode mX10_readLine.2.1 212 = .ok (.aload_n 0, 1) := by decide +kernel
theorem dX10_readLine_213 : decode mX10_readLine.2.1 213 = .ok (.iload_n 1, 1) := by decide +kernel
theorem dX10_readLine_214 : decode mX10_readLine.2.1 214 = .ok (.invokevirtual 147, 3) := by decide +kernel
theorem dX10_readLine_217 : decode mX10_readLine.2.1 217 = .ok (.ifCond .eq 16, 3) := by decide +kernel
theorem dX10_readLine_220 : decode mX10_readLine.2.1 220 = .ok (.aload_n 0, 1) := by decide +kernel
theorem dX10_readLine_221 : decode mX10_readLine.2.1 221 = .ok (.getfield 106, 3) := by decide +kernel
theorem dX10_readLine_224 : decode mX10_readLine.2.1 224 = .ok (.bipush 59, 2) := by decide +kernel
theorem dX10_readLine_226 : decode mX10_readLine.2.1 226 = .ok (.if_icmp .ne 7, 3) := by decide +kernel
theorem dX10_readLine_229 : decode mX10_readLine.2.1 229 = .ok (.iconst 1, 1) := by decide +kernel
theorem dX10_readLine_230 : decode mX10_readLine.2.1 230 = .ok (.goto 4, 3) := by decide +kernel
theorem dX10_readLine_233 : decode mX10_readLine.2.1 233 = .ok (.iconst 0, 1) := by decide +kernel
theorem dX10_readLine_234 : decode mX10_readLine.2.1 234 = .ok (.ireturn, 1) := by decide +kernel
theorem dX10_readMethod_0 : decode mX10_readMethod.2.1 0 = .ok (.aload_n 0, 1) := by decide +kernel
theorem dX10_readMethod_1 : decode mX10_readMethod.2.1 1 = .ok (.getfield 106, 3) := by decide +kernel
theorem dX10_readMethod_4 : decode mX10_readMethod.2.1 4 = .ok (.bipush 123, 2) := by decide +kernel
theorem dX10_readMethod_6 : decode mX10_readMethod.2.1 6 = .ok (.if_icmp .ne 13, 3) := by decide +kernel
theorem dX10_readMethod_9 : decode mX10_readMethod.2.1 9 = .ok (.aload_n 0, 1) := by decide +kernel
theorem dX10_readMethod_10 : decode mX10_readMethod.2.1 10 = .ok (.getfield 13, 3) := by decide +kernel
theorem dX10_readMethod_13 : decode mX10_readMethod.2.1 13 = .ok (.iconst 0, 1) := by decide +kernel
theorem dX10_readMethod_14 : decode mX10_readMethod.2.1 14 = .ok (.iaload, 1) := by decide +kernel
theorem dX10_readMethod_15 : decode mX10_readMethod.2.1 15 = .ok (.iconst 4, 1) := by decide +kernel
theorem dX10_readMethod_16 : decode mX10_readMethod.2.1 16 = .ok (.if_icmp .ne 5, 3) := by decide +kernel
theorem dX10_readMethod_19 : decode mX10_readMethod.2.1 19 = .ok (.iconst 0, 1) := by decide +kernel
theorem dX10_readMethod_20 : decode mX10_readMethod.2.1 20 = .ok (.ireturn, 1) := by decide +kernel
theorem dX10_readMethod_21 : decode mX10_readMethod.2.1 21 = .ok (.iconst 1, 1) := by decide +kernel
theorem dX10_readMethod_22 : decode mX10_readMethod.2.1 22 = .ok (.bipush 33, 2) := by decide +kernel
theorem dX10_readMethod_24 : decode mX10_readMethod.2.1 24 = .ok (.aload_n 0, 1) := by decide +kernel
theorem dX10_readMethod_25 : decode mX10_readMethod.2.1 25 = .ok (.getfield 13, 3) := by decide +kernel
theorem dX10_readMethod_28 : decode mX10_readMethod.2.1 28 = .ok (.iconst 0, 1) := by decide +kernel
theorem dX10_readMethod_29 : decode mX10_readMethod.2.1 29 = .ok (.iaload, 1) := by decide +kernel
theorem dX10_readMethod_30 : decode mX10_readMethod.2.1 30 = .ok (.imul, 1) := by decide +kernel
theorem dX10_readMethod_31 : decode mX10_readMethod.2.1 31 = .ok (.iadd, 1) := by decide +kernel
theorem dX10_readMethod_32 : decode mX10_readMethod.2.1 32 = .ok (.istore_n 1, 1) := by decide +kernel
theorem dX10_readMethod_33 : decode mX10_readMethod.2.1 33 = .ok (.aload_n 0, 1) := by decide +kernel
theorem dX10_readMethod_34 : decode mX10_readMethod.2.1 34 = .ok (.getfield 13, 3) := by decide +kernel
theorem dX10_readMethod_37 : decode mX10_readMethod.2.1 37 = .ok (.iload_n 1, 1) := by decide +kernel
theorem dX10_readMethod_38 : decode mX10_readMethod.2.1 38 = .ok (.iconst 0, 1) := by decide +kernel
theorem dX10_readMethod_39 : decode mX10_readMethod.2.1 39 = .ok (.iastore, 1) := by decide +kernel
theorem dX10_readMethod_40 : decode mX10_readMethod.2.1 40 = .ok (.aload_n 0, 1) := by decide +kernel
theorem dX10_readMethod_41 : decode mX10_readMethod.2.1 41 = .ok (.invokevirtual 117, 3) := by decide +kernel
theorem dX10_readMethod_44 : decode mX10_readMethod.2.1 44 = .ok (.aload_n 0, 1) := by decide +kernel
theorem dX10_readMethod_45 : decode mX10_readMethod.2.1 45 = .ok (.getfield 106, 3) := by decide +kernel
theorem dX10_readMethod_48 : decode mX10_readMethod.2.1 48 = .ok (.bipush 125, 2) := by decide +kernel
theorem dX10_readMethod_50 : decode mX10_readMethod.2.1 50 = .ok (.if_icmp .eq 124, 3) := by decide +kernel
theorem dX10_readMethod_53 : decode mX10_readMethod.2.1 53 = .ok (.aload_n 0, 1) := by decide +kernel
theorem dX10_readMethod_54 : decode mX10_readMethod.2.1 54 = .ok (.getfield 13, 3) := by decide +kernel
theorem dX10_readMethod_57 : decode mX10_readMethod.2.1 57 = .ok (.iload_n 1, 1) := by decide +kernel
theorem dX10_readMethod_58 : decode mX10_readMethod.2.1 58 = .ok (.iaload, 1) := by decide +kernel
theorem dX10_readMethod_59 : decode mX10_readMethod.2.1 59 = .ok (.bipush 8, 2) := by decide +kernel
theorem dX10_readMethod_61 : decode mX10_readMethod.2.1 61 = .ok (.if_icmp .eq 16, 3) := by decide +kernel
theorem dX10_readMethod_64 : decode mX10_readMethod.2.1 64 = .ok (.aload_n 0, 1) := by decide +kernel
theorem dX10_readMethod_65 : decode mX10_readMethod.2.1 65 = .ok (.aload_n 0, 1) := by decide +kernel
theorem dX10_readMethod_66 : decode mX10_readMethod.2.1 66 = .ok (.getfield 13, 3) := by decide +kernel
theorem dX10_readMethod_69 : decode mX10_readMethod.2.1 69 = .ok (.iconst 0, 1) := by decide +kernel
theorem dX10_readMethod_70 : decode mX10_readMethod.2.1 70 = .ok (.iaload, 1) := by decide +kernel
theorem dX10_readMethod_71 : decode mX10_readMethod.2.1 71 = .ok (.invokevirtual 150, 3) := by decide +kernel
theorem dX10_readMethod_74 : decode mX10_readMethod.2.1 74 = .ok (.ifCond .ne 5, 3) := by decide +kernel
theorem dX10_readMethod_77 : decode mX10_readMethod.2.1 77 = .ok (.iconst 0, 1) := by decide +kernel
theorem dX10_readMethod_78 : decode mX10_readMethod.2.1 78 = .ok (.ireturn, 1) := by decide +kernel
theorem dX10_readMethod_79 : decode mX10_readMethod.2.1 79 = .ok (.iload_n 1, 1) := by decide +kernel
theorem dX10_readMethod_80 : decode mX10_readMethod.2.1 80 = .ok (.iconst 1, 1) := by decide +kernel
theorem dX10_readMethod_81 : decode mX10_readMethod.2.1 81 = .ok (.iadd, 1) := by decide +kernel
theorem dX10_readMethod_82 : decode mX10_readMethod.2.1 82 = .ok (.iconst 4, 1) := by decide +kernel
theorem dX10_readMethod_83 : decode mX10_readMethod.2.1 83 = .ok (.aload_n 0, 1) := by decide +kernel
theorem dX10_readMethod_84 : decode mX10_readMethod.2.1 84 = .ok (.getfield 13, 3) := by decide +kernel
theorem dX10_readMethod_87 : decode mX10_readMethod.2.1 87 = .ok (.iload_n 1, 1) := by decide +kernel
theorem dX10_readMethod_88 : decode mX10_readMethod.2.1 88 = .ok (.iaload, 1) := by decide +kernel
theorem dX10_readMethod_89 : decode mX10_readMethod.2.1 89 = .ok (.imul, 1) := by decide +kernel
theorem dX10_readMethod_90 : decode mX10_readMethod.2.1 90 = .ok (.iadd, 1) := by decide +kernel
theorem dX10_readMethod_91 : decode mX10_readMethod.2.1 91 = .ok (.istore_n 2, 1) := by decide +kernel
theorem dX10_readMethod_92 : decode mX10_readMethod.2.1 92 = .ok (.aload_n 0, 1) := by decide +kernel
theorem dX10_readMethod_93 : decode mX10_readMethod.2.1 93 = .ok (.getfield 13, 3) := by decide +kernel
theorem dX10_readMethod_96 : decode mX10_readMethod.2.1 96 = .ok (.iload_n 2, 1) := by decide +kernel
theorem dX10_readMethod_97 : decode mX10_readMethod.2.1 97 = .ok (.aload_n 0, 1) := by decide +kernel
theorem dX10_readMethod_98 : decode mX10_readMethod.2.1 98 = .ok (.getfield 127, 3) := by decide +kernel
theorem dX10_readMethod_101 : decode mX10_readMethod.2.1 101 = .ok (.iastore, 1) := by decide +kernel
theorem dX10_readMethod_102 : decode mX10_readMethod.2.1 102 = .ok (.aload_n 0, 1) := by decide +kernel
theorem dX10_readMethod_103 : decode mX10_readMethod.2.1 103 = .ok (.getfield 13, 3) := by decide +kernel
theorem dX10_readMethod_106 : decode mX10_readMethod.2.1 106 = .ok (.iload_n 2, 1) := by decide +kernel
theorem dX10_readMethod_107 : decode mX10_readMethod.2.1 107 = .ok (.iconst 1, 1) := by decide +kernel
theorem dX10_readMethod_108 : decode mX10_readMethod.2.1 108 = .ok (.iadd, 1) := by decide +kernel
theorem dX10_readMethod_109 : decode mX10_readMethod.2.1 109 = .ok (.aload_n 0, 1) := by decide +kernel
theorem dX10_readMethod_110 : decode mX10_readMethod.2.1 110 = .ok (.getfield 144, 3) := by decide +kernel
theorem dX10_readMethod_113 : decode mX10_readMethod.2.1 113 = .ok (.iastore, 1) := by decide +kernel
theorem dX10_readMethod_114 : decode mX10_readMethod.2.1 114 = .ok (.aload_n 0, 1) := by decide +kernel
theorem dX10_readMethod_115 : decode mX10_readMethod.2.1 115 = .ok (.getfield 13, 3) := by decide +kernel
theorem dX10_readMethod_118 : decode mX10_readMethod.2.1 118 = .ok (.iload_n 2, 1) := by decide +kernel
theorem dX10_readMethod_119 : decode mX10_readMethod.2.1 119 = .ok (.iconst 2, 1) := by decide +kernel
theorem dX10_readMethod_120 : decode mX10_readMethod.2.1 120 = .ok (.iadd, 1) := by decide +kernel
theorem dX10_readMethod_121 : decode mX10_readMethod.2.1 121 = .ok (.aload_n 0, 1) := by decide +kernel
theorem dX10_readMethod_122 : decode mX10_readMethod.2.1 122 = .ok (.getfield 127, 3) := by decide +kernel
theorem dX10_readMethod_125 : decode mX10_readMethod.2.1 125 = .ok (.ifCond .eq 11, 3) := by decide +kernel
theorem dX10_readMethod_128 : decode mX10_readMethod.2.1 128 = .ok (.aload_n 0, 1) := by decide +kernel
theorem dX10_readMethod_129 : decode mX10_readMethod.2.1 129 = .ok (.getfield 127, 3) := by decide +kernel
theorem dX10_readMethod_132 : decode mX10_readMethod.2.1 132 = .ok (.iconst 5, 1) := by decide +kernel
theorem dX10_readMethod_133 : decode mX10_readMethod.2.1 133 = .ok (.if_icmp .ne 7, 3) := by decide +kernel
theorem dX10_readMethod_136 : decode mX10_readMethod.2.1 136 = .ok (.iconst (-1), 1) := by decide +kernel
theorem dX10_readMethod_137 : decode mX10_readMethod.2.1 137 = .ok (.goto 7, 3) := by decide +kernel
theorem dX10_readMethod_140 : decode mX10_readMethod.2.1 140 = .ok (.aload_n 0, 1) := by decide +kernel
theorem dX10_readMethod_141 : decode mX10_readMethod.2.1 141 = .ok (.getfield 124, 3) := by decide +kernel
theorem dX10_readMethod_144 : decode mX10_readMethod.2.1 144 = .ok (.iastore, 1) := by decide +kernel
theorem dX10_readMethod_145 : decode mX10_readMethod.2.1 145 = .ok (.aload_n 0, 1) := by decide +kernel
theorem dX10_readMethod_146 : decode mX10_readMethod.2.1 146 = .ok (.getfield 13, 3) := by decide +kernel
theorem dX10_readMethod_149 : decode mX10_readMethod.2.1 149 = .ok (.iload_n 2, 1) := by decide +kernel
theorem dX10_readMethod_150 : decode mX10_readMethod.2.1 150 = .ok (.iconst 3, 1) := by decide +kernel
theorem dX10_readMethod_151 : decode mX10_readMethod.2.1 151 = .ok (.iadd, 1) := by decide +kernel
theorem dX10_readMethod_152 : decode mX10_readMethod.2.1 152 = .ok (.aload_n 0, 1) := by decide +kernel
theorem dX10_readMethod_153 : decode mX10_readMethod.2.1 153 = .ok (.getfield 130, 3) := by decide +kernel
theorem dX10_readMethod_156 : decode mX10_readMethod.2.1 156 = .ok (.iastore, 1) := by decide +kernel
theorem dX10_readMethod_157 : decode mX10_readMethod.2.1 157 = .ok (.aload_n 0, 1) := by decide +kernel
theorem dX10_readMethod_158 : decode mX10_readMethod.2.1 158 = .ok (.getfield 13, 3) := by decide +kernel
theorem dX10_readMethod_161 : decode mX10_readMethod.2.1 161 = .ok (.iload_n 1, 1) := by decide +kernel
theorem dX10_readMethod_162 : decode mX10_readMethod.2.1 162 = .ok (.dup2, 1) := by decide +kernel
theorem dX10_readMethod_163 : decode mX10_readMethod.2.1 163 = .ok (.iaload, 1) := by decide +kernel
theorem dX10_readMethod_164 : decode mX10_readMethod.2.1 164 = .ok (.iconst 1, 1) := by decide +kernel
theorem dX10_readMethod_165 : decode mX10_readMethod.2.1 165 = .ok (.iadd, 1) := by decide +kernel
theorem dX10_readMethod_166 : decode mX10_readMethod.2.1 166 = .ok (.iastore, 1) := by decide +kernel
theorem dX10_readMethod_167 : decode mX10_readMethod.2.1 167 = .ok (.aload_n 0, 1) := by decide +kernel
theorem dX10_readMethod_168 : decode mX10_readMethod.2.1 168 = .ok (.invokevirtual 117, 3) := by decide +kernel
theorem dX10_readMethod_171 : decode mX10_readMethod.2.1 171 = .ok (.goto (-127), 3) := by decide +kernel
theorem dX10_readMethod_174 : decode mX10_readMethod.2.1 174 = .ok (.aload_n 0, 1) := by decide +kernel
theorem dX10_readMethod_175 : decode mX10_readMethod.2.1 175 = .ok (.getfield 13, 3) := by decide +kernel
theorem dX10_readMethod_178 : decode mX10_readMethod.2.1 178 = .ok (.iconst 0, 1) := by decide +kernel
theorem dX10_readMethod_179 : decode mX10_readMethod.2.1 179 = .ok (.dup2, 1) := by decide +kernel
theorem dX10_readMethod_180 : decode mX10_readMethod.2.1 180 = .ok (.iaload, 1) := by decide +kernel
theorem dX10_readMethod_181 : decode mX10_readMethod.2.1 181 = .ok (.iconst 1, 1) := by decide +kernel
theorem dX10_readMethod_182 : decode mX10_readMethod.2.1 182 = .ok (.iadd, 1) := by decide +kernel
theorem dX10_readMethod_183 : decode mX10_readMethod.2.1 183 = .ok (.iastore, 1) := by decide +kernel
theorem dX10_readMethod_184 : decode mX10_readMethod.2.1 184 = .ok (.iconst 1, 1) := by decide +kernel
theorem dX10_readMethod_185 : decode mX10_readMethod.2.1 185 = .ok (.ireturn, 1) := by decide +kernel
theorem dX10_readText_0 : decode mX10_readText.2.1 0 = .ok (.iconst 0, 1) := by decide +kernel
theorem dX10_readText_1 : decode mX10_readText.2.1 1 = .ok (.istore_n 1, 1) := by decide +kernel
theorem dX10_readText_2 : decode mX10_readText.2.1 2 = .ok (.iload_n 1, 1) := by decide +kernel
theorem dX10_readText_3 : decode mX10_readText.2.1 3 = .ok (.sipush 133, 3) := by decide +kernel
theorem dX10_readText_6 : decode mX10_readText.2.1 6 = .ok (.if_icmp .ge 16, 3) := by decide +kernel
theorem dX10_readText_9 : decode mX10_readText.2.1 9 = .ok (.aload_n 0, 1) := by decide +kernel
theorem dX10_readText_10 : decode mX10_readText.2.1 10 = .ok (.getfield 13, 3) := by decide +kernel
theorem dX10_readText_13 : decode mX10_readText.2.1 13 = .ok (.iload_n 1, 1) := by decide +kernel
theorem dX10_readText_14 : decode mX10_readText.2.1 14 = .ok (.iconst 0, 1) := by decide +kernel
theorem dX10_readText_15 : decode mX10_readText.2.1 15 = .ok (.iastore, 1) := by decide +kernel
theorem dX10_readText_16 : decode mX10_readText.2.1 16 = .ok (.iinc 1 1, 3) := by decide +kernel
theorem dX10_readText_19 : decode mX10_readText.2.1 19 = .ok (.goto (-17), 3) := by decide +kernel
theorem dX10_readText_22 : decode mX10_readText.2.1 22 = .ok (.aload_n 0, 1) := by decide +kernel
theorem dX10_readText_23 : decode mX10_readText.2.1 23 = .ok (.iconst 0, 1) := by decide +kernel
theorem dX10_readText_24 : decode mX10_readText.2.1 24 = .ok (.putfield 133, 3) := by decide +kernel
theorem dX10_readText_27 : decode mX10_readText.2.1 27 = .ok (.aload_n 0, 1) := by decide +kernel
theorem dX10_readText_28 : decode mX10_readText.2.1 28 = .ok (.iconst 0, 1) := by decide +kernel
theorem dX10_readText_29 : decode mX10_readText.2.1 29 = .ok (.putfield 93, 3) := by decide +kernel
theorem dX10_readText_32 : decode mX10_readText.2.1 32 = .ok (.aload_n 0, 1) := by decide +kernel
theorem dX10_readText_33 : decode mX10_readText.2.1 33 = .ok (.invokevirtual 117, 3) := by decide +kernel
theorem dX10_readText_36 : decode mX10_readText.2.1 36 = .ok (.aload_n 0, 1) := by decide +kernel
theorem dX10_readText_37 : decode mX10_readText.2.1 37 = .ok (.getfield 106, 3) := by decide +kernel
theorem dX10_readText_40 : decode mX10_readText.2.1 40 = .ok (.sipush 1000, 3) := by decide +kernel
theorem dX10_readText_43 : decode mX10_readText.2.1 43 = .ok (.if_icmp .eq 22, 3) := by decide +kernel
theorem dX10_readText_46 : decode mX10_readText.2.1 46 = .ok (.aload_n 0, 1) := by decide +kernel
theorem dX10_readText_47 : decode mX10_readText.2.1 47 = .ok (.invokevirtual 153, 3) := by decide +kernel
theorem dX10_readText_50 : decode mX10_readText.2.1 50 = .ok (.ifCond .ne 8, 3) := by decide +kernel
theorem dX10_readText_53 : decode mX10_readText.2.1 53 = .ok (.aload_n 0, 1) := by decide +kernel
theorem dX10_readText_54 : decode mX10_readText.2.1 54 = .ok (.getfield 103, 3) := by decide +kernel
theorem dX10_readText_57 : decode mX10_readText.2.1 57 = .ok (.ireturn, 1) := by decide +kernel
theorem dX10_readText_58 : decode mX10_readText.2.1 58 = .ok (.aload_n 0, 1) := by decide +kernel
theorem dX10_readText_59 : decode mX10_readText.2.1 59 = .ok (.invokevirtual 117, 3) := by decide +kernel
theorem dX10_readText_62 : decode mX10_readText.2.1 62 = .ok (.goto (-26), 3) := by decide +kernel
theorem dX10_readText_65 : decode mX10_readText.2.1 65 = .ok (.iconst 0, 1) := by decide +kernel
theorem dX10_readText_66 : decode mX10_readText.2.1 66 = .ok (.istore_n 1, 1) := by decide +kernel
theorem dX10_readText_67 : decode mX10_readText.2.1 67 = .ok (.iload_n 1, 1) := by decide +kernel
theorem dX10_readText_68 : decode mX10_readText.2.1 68 = .ok (.aload_n 0, 1) := by decide +kernel
theorem dX10_readText_69 : decode mX10_readText.2.1 69 = .ok (.getfield 133, 3) := by decide +kernel
theorem dX10_readText_72 : decode mX10_readText.2.1 72 = .ok (.if_icmp .ge 31, 3) := by decide +kernel
theorem dX10_readText_75 : decode mX10_readText.2.1 75 = .ok (.aload_n 0, 1) := by decide +kernel
theorem dX10_readText_76 : decode mX10_readText.2.1 76 = .ok (.getfield 25, 3) := by decide +kernel
theorem dX10_readText_79 : decode mX10_readText.2.1 79 = .ok (.iload_n 1, 1) := by decide +kernel
theorem dX10_readText_80 : decode mX10_readText.2.1 80 = .ok (.iaload, 1) := by decide +kernel
theorem dX10_readText_81 : decode mX10_readText.2.1 81 = .ok (.aload_n 0, 1) := by decide +kernel
theorem dX10_readText_82 : decode mX10_readText.2.1 82 = .ok (.getfield 13, 3) := by decide +kernel
theorem dX10_readText_85 : decode mX10_readText.2.1 85 = .ok (.iconst 0, 1) := by decide +kernel
theorem dX10_readText_86 : decode mX10_readText.2.1 86 = .ok (.iaload, 1) := by decide +kernel
theorem dX10_readText_87 : decode mX10_readText.2.1 87 = .ok (.if_icmp .lt 10, 3) := by decide +kernel
theorem dX10_readText_90 : decode mX10_readText.2.1 90 = .ok (.aload_n 0, 1) := by decide +kernel
theorem dX10_readText_91 : decode mX10_readText.2.1 91 = .ok (.getfield 28, 3) := by decide +kernel
theorem dX10_readText_94 : decode mX10_readText.2.1 94 = .ok (.iload_n 1, 1) := by decide +kernel
theorem dX10_readText_95 : decode mX10_readText.2.1 95 = .ok (.iaload, 1) := by decide +kernel
theorem dX10_readText_96 : decode mX10_readText.2.1 96 = .ok (.ireturn, 1) := by decide +kernel
theorem dX10_readText_97 : decode mX10_readText.2.1 97 = .ok (.iinc 1 1, 3) := by decide +kernel
theorem dX10_readText_100 : decode mX10_readText.2.1 100 = .ok (.goto (-33), 3) := by decide +kernel
theorem dX10_readText_103 : decode mX10_readText.2.1 103 = .ok (.iconst (-1), 1) := by decide +kernel
theorem dX10_readText_104 : decode mX10_readText.2.1 104 = .ok (.ireturn, 1) := by decide +kernel
theorem dX10_type_0 : decode mX10_type.2.1 0 = .ok (.iload_n 1, 1) := by decide +kernel
theorem dX10_type_1 : decode mX10_type.2.1 1 = .ok (.iconst 0, 1) := by decide +kernel
theorem dX10_type_2 : decode mX10_type.2.1 2 = .ok (.bipush 127, 2) := by decide +kernel
theorem dX10_type_4 : decode mX10_type.2.1 4 = .ok (.invokestatic 99, 3) := by decide +kernel
theorem dX10_type_7 : decode mX10_type.2.1 7 = .ok (.ifCond .ne 10, 3) := by decide +kernel
theorem dX10_type_10 : decode mX10_type.2.1 10 = .ok (.aload_n 0, 1) := by decide +kernel
theorem dX10_type_11 : decode mX10_type.2.1 11 = .ok (.bipush (-2), 2) := by decide +kernel
theorem dX10_type_13 : decode mX10_type.2.1 13 = .ok (.invokevirtual 156, 3) := by decide +kernel
theorem dX10_type_16 : decode mX10_type.2.1 16 = .ok (.ireturn, 1) := by decide +kernel
theorem dX10_type_17 : decode mX10_type.2.1 17 = .ok (.aload_n 0, 1) := by decide +kernel
theorem dX10_type_18 : decode mX10_type.2.1 18 = .ok (.getfield 96, 3) := by decide +kernel
theorem dX10_type_21 : decode mX10_type.2.1 21 = .ok (.sipush 200, 3) := by decide +kernel
theorem dX10_type_24 : decode mX10_type.2.1 24 = .ok (.if_icmp .ne 10, 3) := by decide +kernel
theorem dX10_type_27 : decode mX10_type.2.1 27 = .ok (.aload_n 0, 1) := by decide +kernel
theorem dX10_type_28 : decode mX10_type.2.1 28 = .ok (.bipush (-4), 2) := by decide +kernel
theorem dX10_type_30 : decode mX10_type.2.1 30 = .ok (.invokevirtual 156, 3) := by decide +kernel
theorem dX10_type_33 : decode mX10_type.2.1 33 = .ok (.ireturn, 1) := by decide +kernel
theorem dX10_type_34 : decode mX10_type.2.1 34 = .ok (.aload_n 0, 1) := by decide +kernel
theorem dX10_type_35 : decode mX10_type.2.1 35 = .ok (.getfield 22, 3) := by decide +kernel
theorem dX10_type_38 : decode mX10_type.2.1 38 = .ok (.aload_n 0, 1) := by decide +kernel
theorem dX10_type_39 : decode mX10_type.2.1 39 = .ok (.getfield 96, 3) := by decide +kernel
theorem dX10_type_42 : decode mX10_type.2.1 42 = .ok (.iload_n 1, 1) := by decide +kernel
theorem dX10_type_43 : decode mX10_type.2.1 43 = .ok (.iastore, 1) := by decide +kernel
theorem dX10_type_44 : decode mX10_type.2.1 44 = .ok (.aload_n 0, 1) := by decide +kernel
theorem dX10_type_45 : decode mX10_type.2.1 45 = .ok (.dup, 1) := by decide +kernel
theorem dX10_type_46 : decode mX10_type.2.1 46 = .ok (.getfield 96, 3) := by decide +kernel
theorem dX10_type_49 : decode mX10_type.2.1 49 = .ok (.iconst 1, 1) := by decide +kernel
theorem dX10_type_50 : decode mX10_type.2.1 50 = .ok (.iadd, 1) := by decide +kernel
theorem dX10_type_51 : decode mX10_type.2.1 51 = .ok (.putfield 96, 3) := by decide +kernel
theorem dX10_type_54 : decode mX10_type.2.1 54 = .ok (.aload_n 0, 1) := by decide +kernel
theorem dX10_type_55 : decode mX10_type.2.1 55 = .ok (.getfield 96, 3) := by decide +kernel
theorem dX10_type_58 : decode mX10_type.2.1 58 = .ok (.ireturn, 1) := by decide +kernel
theorem dX10_clear_0 : decode mX10_clear.2.1 0 = .ok (.aload_n 0, 1) := by decide +kernel
theorem dX10_clear_1 : decode mX10_clear.2.1 1 = .ok (.getfield 96, 3) := by decide +kernel
theorem dX10_clear_4 : decode mX10_clear.2.1 4 = .ok (.istore_n 1, 1) := by decide +kernel
theorem dX10_clear_5 : decode mX10_clear.2.1 5 = .ok (.aload_n 0, 1) := by decide +kernel
theorem dX10_clear_6 : decode mX10_clear.2.1 6 = .ok (.iconst 0, 1) := by decide +kernel
theorem dX10_clear_7 : decode mX10_clear.2.1 7 = .ok (.putfield 96, 3) := by decide +kernel
theorem dX10_clear_10 : decode mX10_clear.2.1 10 = .ok (.iload_n 1, 1) := by decide +kernel
theorem dX10_clear_11 : decode mX10_clear.2.1 11 = .ok (.ireturn, 1) := by decide +kernel
theorem dX10_reads_0 : decode mX10_reads.2.1 0 = .ok (.aload_n 0, 1) := by decide +kernel
theorem dX10_reads_1 : decode mX10_reads.2.1 1 = .ok (.invokevirtual 159, 3) := by decide +kernel
theorem dX10_reads_4 : decode mX10_reads.2.1 4 = .ok (.istore_n 1, 1) := by decide +kernel
theorem dX10_reads_5 : decode mX10_reads.2.1 5 = .ok (.iload_n 1, 1) := by decide +kernel
theorem dX10_reads_6 : decode mX10_reads.2.1 6 = .ok (.iconst (-1), 1) := by decide +kernel
theorem dX10_reads_7 : decode mX10_reads.2.1 7 = .ok (.if_icmp .eq 8, 3) := by decide +kernel
theorem dX10_reads_10 : decode mX10_reads.2.1 10 = .ok (.bipush (-10), 2) := by decide +kernel
theorem dX10_reads_12 : decode mX10_reads.2.1 12 = .ok (.iload_n 1, 1) := by decide +kernel
theorem dX10_reads_13 : decode mX10_reads.2.1 13 = .ok (.isub, 1) := by decide +kernel
theorem dX10_reads_14 : decode mX10_reads.2.1 14 = .ok (.ireturn, 1) := by decide +kernel
theorem dX10_reads_15 : decode mX10_reads.2.1 15 = .ok (.aload_n 0, 1) := by decide +kernel
theorem dX10_reads_16 : decode mX10_reads.2.1 16 = .ok (.invokevirtual 162, 3) := by decide +kernel
theorem dX10_reads_19 : decode mX10_reads.2.1 19 = .ok (.aload_n 0, 1) := by decide +kernel
theorem dX10_reads_20 : decode mX10_reads.2.1 20 = .ok (.getfield 13, 3) := by decide +kernel
theorem dX10_reads_23 : decode mX10_reads.2.1 23 = .ok (.iconst 0, 1) := by decide +kernel
theorem dX10_reads_24 : decode mX10_reads.2.1 24 = .ok (.aload_n 0, 1) := by decide +kernel
theorem dX10_reads_25 : decode mX10_reads.2.1 25 = .ok (.getfield 7, 3) := by decide +kernel
theorem dX10_reads_28 : decode mX10_reads.2.1 28 = .ok (.iconst 0, 1) := by decide +kernel
theorem dX10_reads_29 : decode mX10_reads.2.1 29 = .ok (.invokestatic 89, 3) := by decide +kernel
theorem dX10_reads_32 : decode mX10_reads.2.1 32 = .ok (.aload_n 0, 1) := by decide +kernel
theorem dX10_reads_33 : decode mX10_reads.2.1 33 = .ok (.getfield 7, 3) := by decide +kernel
theorem dX10_reads_36 : decode mX10_reads.2.1 36 = .ok (.iconst 0, 1) := by decide +kernel
theorem dX10_reads_37 : decode mX10_reads.2.1 37 = .ok (.iaload, 1) := by decide +kernel
theorem dX10_reads_38 : decode mX10_reads.2.1 38 = .ok (.ireturn, 1) := by decide +kernel
theorem dX10_linesOf_0 : decode mX10_linesOf.2.1 0 = .ok (.aload_n 0, 1) := by decide +kernel
theorem dX10_linesOf_1 : decode mX10_linesOf.2.1 1 = .ok (.getfield 7, 3) := by decide +kernel
theorem dX10_linesOf_4 : decode mX10_linesOf.2.1 4 = .ok (.iconst 1, 1) := by decide +kernel
theorem dX10_linesOf_5 : decode mX10_linesOf.2.1 5 = .ok (.bipush 33, 2) := by decide +kernel
theorem dX10_linesOf_7 : decode mX10_linesOf.2.1 7 = .ok (.iload_n 1, 1) := by decide +kernel
theorem dX10_linesOf_8 : decode mX10_linesOf.2.1 8 = .ok (.imul, 1) := by decide +kernel
theorem dX10_linesOf_9 : decode mX10_linesOf.2.1 9 = .ok (.iadd, 1) := by decide +kernel
theorem dX10_linesOf_10 : decode mX10_linesOf.2.1 10 = .ok (.iaload, 1) := by decide +kernel
theorem dX10_linesOf_11 : decode mX10_linesOf.2.1 11 = .ok (.ireturn, 1) := by decide +kernel
theorem dX10_lineAt_0 : decode mX10_lineAt.2.1 0 = .ok (.aload_n 0, 1) := by decide +kernel
theorem dX10_lineAt_1 : decode mX10_lineAt.2.1 1 = .ok (.getfield 7, 3) := by decide +kernel
theorem dX10_lineAt_4 : decode mX10_lineAt.2.1 4 = .ok (.iconst 2, 1) := by decide +kernel
theorem dX10_lineAt_5 : decode mX10_lineAt.2.1 5 = .ok (.bipush 33, 2) := by decide +kernel
theorem dX10_lineAt_7 : decode mX10_lineAt.2.1 7 = .ok (.iload_n 1, 1) := by decide +kernel
theorem dX10_lineAt_8 : decode mX10_lineAt.2.1 8 = .ok (.imul, 1) := by decide +kernel
theorem dX10_lineAt_9 : decode mX10_lineAt.2.1 9 = .ok (.iadd, 1) := by decide +kernel
theorem dX10_lineAt_10 : decode mX10_lineAt.2.1 10 = .ok (.iconst 4, 1) := by decide +kernel
theorem dX10_lineAt_11 : decode mX10_lineAt.2.1 11 = .ok (.iload_n 2, 1) := by decide +kernel
theorem dX10_lineAt_12 : decode mX10_lineAt.2.1 12 = .ok (.imul, 1) := by decide +kernel
theorem dX10_lineAt_13 : decode mX10_lineAt.2.1 13 = .ok (.iadd, 1) := by decide +kernel
theorem dX10_lineAt_14 : decode mX10_lineAt.2.1 14 = .ok (.iload_n 3, 1) := by decide +kernel
theorem dX10_lineAt_15 : decode mX10_lineAt.2.1 15 = .ok (.iadd, 1) := by decide +kernel
theorem dX10_lineAt_16 : decode mX10_lineAt.2.1 16 = .ok (.iaload, 1) := by decide +kernel
theorem dX10_lineAt_17 : decode mX10_lineAt.2.1 17 = .ok (.ireturn, 1) := by decide +kernel
theorem dX10_isMethod_0 : decode mX10_isMethod.2.1 0 = .ok (.iload_n 1, 1) := by decide +kernel
theorem dX10_isMethod_1 : decode mX10_isMethod.2.1 1 = .ok (.iconst 0, 1) := by decide +kernel
theorem dX10_isMethod_2 : decode mX10_isMethod.2.1 2 = .ok (.aload_n 0, 1) := by decide +kernel
theorem dX10_isMethod_3 : decode mX10_isMethod.2.1 3 = .ok (.getfield 7, 3) := by decide +kernel
theorem dX10_isMethod_6 : decode mX10_isMethod.2.1 6 = .ok (.iconst 0, 1) := by decide +kernel
theorem dX10_isMethod_7 : decode mX10_isMethod.2.1 7 = .ok (.iaload, 1) := by decide +kernel
theorem dX10_isMethod_8 : decode mX10_isMethod.2.1 8 = .ok (.iconst 1, 1) := by decide +kernel
theorem dX10_isMethod_9 : decode mX10_isMethod.2.1 9 = .ok (.isub, 1) := by decide +kernel
theorem dX10_isMethod_10 : decode mX10_isMethod.2.1 10 = .ok (.invokestatic 99, 3) := by decide +kernel
theorem dX10_isMethod_13 : decode mX10_isMethod.2.1 13 = .ok (.ireturn, 1) := by decide +kernel
theorem dX10_isLine_0 : decode mX10_isLine.2.1 0 = .ok (.aload_n 0, 1) := by decide +kernel
theorem dX10_isLine_1 : decode mX10_isLine.2.1 1 = .ok (.iload_n 1, 1) := by decide +kernel
theorem dX10_isLine_2 : decode mX10_isLine.2.1 2 = .ok (.invokevirtual 165, 3) := by decide +kernel
theorem dX10_isLine_5 : decode mX10_isLine.2.1 5 = .ok (.ifCond .eq 22, 3) := by decide +kernel
theorem dX10_isLine_8 : decode mX10_isLine.2.1 8 = .ok (.iload_n 2, 1) := by decide +kernel
theorem dX10_isLine_9 : decode mX10_isLine.2.1 9 = .ok (.iconst 0, 1) := by decide +kernel
theorem dX10_isLine_10 : decode mX10_isLine.2.1 10 = .ok (.aload_n 0, 1) := by decide +kernel
theorem dX10_isLine_11 : decode mX10_isLine.2.1 11 = .ok (.iload_n 1, 1) := by decide +kernel
theorem dX10_isLine_12 : decode mX10_isLine.2.1 12 = .ok (.invokevirtual 168, 3) := by decide +kernel
theorem dX10_isLine_15 : decode mX10_isLine.2.1 15 = .ok (.iconst 1, 1) := by decide +kernel
theorem dX10_isLine_16 : decode mX10_isLine.2.1 16 = .ok (.isub, 1) := by decide +kernel
theorem dX10_isLine_17 : decode mX10_isLine.2.1 17 = .ok (.invokestatic 99, 3) := by decide +kernel
theorem dX10_isLine_20 : decode mX10_isLine.2.1 20 = .ok (.ifCond .eq 7, 3) := by decide +kernel
theorem dX10_isLine_23 : decode mX10_isLine.2.1 23 = .ok (.iconst 1, 1) := by decide +kernel
theorem dX10_isLine_24 : decode mX10_isLine.2.1 24 = .ok (.goto 4, 3) := by decide +kernel
theorem dX10_isLine_27 : decode mX10_isLine.2.1 27 = .ok (.iconst 0, 1) := by decide +kernel
theorem dX10_isLine_28 : decode mX10_isLine.2.1 28 = .ok (.ireturn, 1) := by decide +kernel
theorem dX10_drops_0 : decode mX10_drops.2.1 0 = .ok (.aload_n 0, 1) := by decide +kernel
theorem dX10_drops_1 : decode mX10_drops.2.1 1 = .ok (.iload_n 1, 1) := by decide +kernel
theorem dX10_drops_2 : decode mX10_drops.2.1 2 = .ok (.iload_n 2, 1) := by decide +kernel
theorem dX10_drops_3 : decode mX10_drops.2.1 3 = .ok (.invokevirtual 171, 3) := by decide +kernel
theorem dX10_drops_6 : decode mX10_drops.2.1 6 = .ok (.ifCond .ne 10, 3) := by decide +kernel
theorem dX10_drops_9 : decode mX10_drops.2.1 9 = .ok (.aload_n 0, 1) := by decide +kernel
theorem dX10_drops_10 : decode mX10_drops.2.1 10 = .ok (.bipush (-2), 2) := by decide +kernel
theorem dX10_drops_12 : decode mX10_drops.2.1 12 = .ok (.invokevirtual 156, 3) := by decide +kernel
theorem dX10_drops_15 : decode mX10_drops.2.1 15 = .ok (.ireturn, 1) := by decide +kernel
theorem dX10_drops_16 : decode mX10_drops.2.1 16 = .ok (.aload_n 0, 1) := by decide +kernel
theorem dX10_drops_17 : decode mX10_drops.2.1 17 = .ok (.invokevirtual 162, 3) := by decide +kernel
theorem dX10_drops_20 : decode mX10_drops.2.1 20 = .ok (.iconst 2, 1) := by decide +kernel
theorem dX10_drops_21 : decode mX10_drops.2.1 21 = .ok (.bipush 33, 2) := by decide +kernel
theorem dX10_drops_23 : decode mX10_drops.2.1 23 = .ok (.iload_n 1, 1) := by decide +kernel
theorem dX10_drops_24 : decode mX10_drops.2.1 24 = .ok (.imul, 1) := by decide +kernel
theorem dX10_drops_25 : decode mX10_drops.2.1 25 = .ok (.iadd, 1) := by decide +kernel
theorem dX10_drops_26 : decode mX10_drops.2.1 26 = .ok (.istore_n 3, 1) := by decide +kernel
theorem dX10_drops_27 : decode mX10_drops.2.1 27 = .ok (.iconst 4, 1) := by decide +kernel
theorem dX10_drops_28 : decode mX10_drops.2.1 28 = .ok (.iload_n 2, 1) := by decide +kernel
theorem dX10_drops_29 : decode mX10_drops.2.1 29 = .ok (.imul, 1) := by decide +kernel
theorem dX10_drops_30 : decode mX10_drops.2.1 30 = .ok (.istore 4, 2) := by decide +kernel
theorem dX10_drops_32 : decode mX10_drops.2.1 32 = .ok (.iload 4, 2) := by decide +kernel
theorem dX10_drops_34 : decode mX10_drops.2.1 34 = .ok (.bipush 28, 2) := by decide +kernel
theorem dX10_drops_36 : decode mX10_drops.2.1 36 = .ok (.if_icmp .ge 29, 3) := by decide +kernel
theorem dX10_drops_39 : decode mX10_drops.2.1 39 = .ok (.aload_n 0, 1) := by decide +kernel
theorem dX10_drops_40 : decode mX10_drops.2.1 40 = .ok (.getfield 7, 3) := by decide +kernel
theorem dX10_drops_43 : decode mX10_drops.2.1 43 = .ok (.iload_n 3, 1) := by decide +kernel
theorem dX10_drops_44 : decode mX10_drops.2.1 44 = .ok (.iload 4, 2) := by decide +kernel
theorem dX10_drops_46 : decode mX10_drops.2.1 46 = .ok (.iadd, 1) := by decide +kernel
theorem dX10_drops_47 : decode mX10_drops.2.1 47 = .ok (.aload_n 0, 1) := by decide +kernel
theorem dX10_drops_48 : decode mX10_drops.2.1 48 = .ok (.getfield 7, 3) := by decide +kernel
theorem dX10_drops_51 : decode mX10_drops.2.1 51 = .ok (.iload_n 3, 1) := by decide +kernel
theorem dX10_drops_52 : decode mX10_drops.2.1 52 = .ok (.iload 4, 2) := by decide +kernel
theorem dX10_drops_54 : decode mX10_drops.2.1 54 = .ok (.iadd, 1) := by decide +kernel
theorem dX10_drops_55 : decode mX10_drops.2.1 55 = .ok (.iconst 4, 1) := by decide +kernel
theorem dX10_drops_56 : decode mX10_drops.2.1 56 = .ok (.iadd, 1) := by decide +kernel
theorem dX10_drops_57 : decode mX10_drops.2.1 57 = .ok (.iaload, 1) := by decide +kernel
theorem dX10_drops_58 : decode mX10_drops.2.1 58 = .ok (.iastore, 1) := by decide +kernel
theorem dX10_drops_59 : decode mX10_drops.2.1 59 = .ok (.iinc 4 1, 3) := by decide +kernel
theorem dX10_drops_62 : decode mX10_drops.2.1 62 = .ok (.goto (-30), 3) := by decide +kernel
theorem dX10_drops_65 : decode mX10_drops.2.1 65 = .ok (.aload_n 0, 1) := by decide +kernel
theorem dX10_drops_66 : decode mX10_drops.2.1 66 = .ok (.getfield 7, 3) := by decide +kernel
theorem dX10_drops_69 : decode mX10_drops.2.1 69 = .ok (.iload_n 3, 1) := by decide +kernel
theorem dX10_drops_70 : decode mX10_drops.2.1 70 = .ok (.iconst 1, 1) := by decide +kernel
theorem dX10_drops_71 : decode mX10_drops.2.1 71 = .ok (.isub, 1) := by decide +kernel
theorem dX10_drops_72 : decode mX10_drops.2.1 72 = .ok (.dup2, 1) := by decide +kernel
theorem dX10_drops_73 : decode mX10_drops.2.1 73 = .ok (.iaload, 1) := by decide +kernel
theorem dX10_drops_74 : decode mX10_drops.2.1 74 = .ok (.iconst 1, 1) := by decide +kernel
theorem dX10_drops_75 : decode mX10_drops.2.1 75 = .ok (.isub, 1) := by decide +kernel
theorem dX10_drops_76 : decode mX10_drops.2.1 76 = .ok (.iastore, 1) := by decide +kernel
theorem dX10_drops_77 : decode mX10_drops.2.1 77 = .ok (.aload_n 0, 1) := by decide +kernel
theorem dX10_drops_78 : decode mX10_drops.2.1 78 = .ok (.getfield 7, 3) := by decide +kernel
theorem dX10_drops_81 : decode mX10_drops.2.1 81 = .ok (.iload_n 3, 1) := by decide +kernel
theorem dX10_drops_82 : decode mX10_drops.2.1 82 = .ok (.iconst 1, 1) := by decide +kernel
theorem dX10_drops_83 : decode mX10_drops.2.1 83 = .ok (.isub, 1) := by decide +kernel
theorem dX10_drops_84 : decode mX10_drops.2.1 84 = .ok (.iaload, 1) := by decide +kernel
theorem dX10_drops_85 : decode mX10_drops.2.1 85 = .ok (.ireturn, 1) := by decide +kernel
theorem dX10_swaps_0 : decode mX10_swaps.2.1 0 = .ok (.aload_n 0, 1) := by decide +kernel
theorem dX10_swaps_1 : decode mX10_swaps.2.1 1 = .ok (.iload_n 1, 1) := by decide +kernel
theorem dX10_swaps_2 : decode mX10_swaps.2.1 2 = .ok (.iload_n 2, 1) := by decide +kernel
theorem dX10_swaps_3 : decode mX10_swaps.2.1 3 = .ok (.invokevirtual 171, 3) := by decide +kernel
theorem dX10_swaps_6 : decode mX10_swaps.2.1 6 = .ok (.ifCond .eq 14, 3) := by decide +kernel
theorem dX10_swaps_9 : decode mX10_swaps.2.1 9 = .ok (.iload_n 2, 1) := by decide +kernel
theorem dX10_swaps_10 : decode mX10_swaps.2.1 10 = .ok (.iconst 1, 1) := by decide +kernel
theorem dX10_swaps_11 : decode mX10_swaps.2.1 11 = .ok (.iadd, 1) := by decide +kernel
theorem dX10_swaps_12 : decode mX10_swaps.2.1 12 = .ok (.aload_n 0, 1) := by decide +kernel
theorem dX10_swaps_13 : decode mX10_swaps.2.1 13 = .ok (.iload_n 1, 1) := by decide +kernel
theorem dX10_swaps_14 : decode mX10_swaps.2.1 14 = .ok (.invokevirtual 168, 3) := by decide +kernel
theorem dX10_swaps_17 : decode mX10_swaps.2.1 17 = .ok (.if_icmp .ne 10, 3) := by decide +kernel
theorem dX10_swaps_20 : decode mX10_swaps.2.1 20 = .ok (.aload_n 0, 1) := by decide +kernel
theorem dX10_swaps_21 : decode mX10_swaps.2.1 21 = .ok (.bipush (-2), 2) := by decide +kernel
theorem dX10_swaps_23 : decode mX10_swaps.2.1 23 = .ok (.invokevirtual 156, 3) := by decide +kernel
theorem dX10_swaps_26 : decode mX10_swaps.2.1 26 = .ok (.ireturn, 1) := by decide +kernel
theorem dX10_swaps_27 : decode mX10_swaps.2.1 27 = .ok (.aload_n 0, 1) := by decide +kernel
theorem dX10_swaps_28 : decode mX10_swaps.2.1 28 = .ok (.invokevirtual 162, 3) := by decide +kernel
theorem dX10_swaps_31 : decode mX10_swaps.2.1 31 = .ok (.iconst 2, 1) := by decide +kernel
theorem dX10_swaps_32 : decode mX10_swaps.2.1 32 = .ok (.bipush 33, 2) := by decide +kernel
theorem dX10_swaps_34 : decode mX10_swaps.2.1 34 = .ok (.iload_n 1, 1) := by decide +kernel
theorem dX10_swaps_35 : decode mX10_swaps.2.1 35 = .ok (.imul, 1) := by decide +kernel
theorem dX10_swaps_36 : decode mX10_swaps.2.1 36 = .ok (.iadd, 1) := by decide +kernel
theorem dX10_swaps_37 : decode mX10_swaps.2.1 37 = .ok (.iconst 4, 1) := by decide +kernel
theorem dX10_swaps_38 : decode mX10_swaps.2.1 38 = .ok (.iload_n 2, 1) := by decide +kernel
theorem dX10_swaps_39 : decode mX10_swaps.2.1 39 = .ok (.imul, 1) := by decide +kernel
theorem dX10_swaps_40 : decode mX10_swaps.2.1 40 = .ok (.iadd, 1) := by decide +kernel
theorem dX10_swaps_41 : decode mX10_swaps.2.1 41 = .ok (.istore_n 3, 1) := by decide +kernel
theorem dX10_swaps_42 : decode mX10_swaps.2.1 42 = .ok (.iconst 0, 1) := by decide +kernel
theorem dX10_swaps_43 : decode mX10_swaps.2.1 43 = .ok (.istore 4, 2) := by decide +kernel
theorem dX10_swaps_45 : decode mX10_swaps.2.1 45 = .ok (.iload 4, 2) := by decide +kernel
theorem dX10_swaps_47 : decode mX10_swaps.2.1 47 = .ok (.iconst 4, 1) := by decide +kernel
theorem dX10_swaps_48 : decode mX10_swaps.2.1 48 = .ok (.if_icmp .ge 53, 3) := by decide +kernel
theorem dX10_swaps_51 : decode mX10_swaps.2.1 51 = .ok (.aload_n 0, 1) := by decide +kernel
theorem dX10_swaps_52 : decode mX10_swaps.2.1 52 = .ok (.getfield 7, 3) := by decide +kernel
theorem dX10_swaps_55 : decode mX10_swaps.2.1 55 = .ok (.iload_n 3, 1) := by decide +kernel
theorem dX10_swaps_56 : decode mX10_swaps.2.1 56 = .ok (.iload 4, 2) := by decide +kernel
theorem dX10_swaps_58 : decode mX10_swaps.2.1 58 = .ok (.iadd, 1) := by decide +kernel
theorem dX10_swaps_59 : decode mX10_swaps.2.1 59 = .ok (.iaload, 1) := by decide +kernel
theorem dX10_swaps_60 : decode mX10_swaps.2.1 60 = .ok (.istore 5, 2) := by decide +kernel
theorem dX10_swaps_62 : decode mX10_swaps.2.1 62 = .ok (.aload_n 0, 1) := by decide +kernel
theorem dX10_swaps_63 : decode mX10_swaps.2.1 63 = .ok (.getfield 7, 3) := by decide +kernel
theorem dX10_swaps_66 : decode mX10_swaps.2.1 66 = .ok (.iload_n 3, 1) := by decide +kernel
theorem dX10_swaps_67 : decode mX10_swaps.2.1 67 = .ok (.iload 4, 2) := by decide +kernel
theorem dX10_swaps_69 : decode mX10_swaps.2.1 69 = .ok (.iadd, 1) := by decide +kernel
theorem dX10_swaps_70 : decode mX10_swaps.2.1 70 = .ok (.aload_n 0, 1) := by decide +kernel
theorem dX10_swaps_71 : decode mX10_swaps.2.1 71 = .ok (.getfield 7, 3) := by decide +kernel
theorem dX10_swaps_74 : decode mX10_swaps.2.1 74 = .ok (.iload_n 3, 1) := by decide +kernel
theorem dX10_swaps_75 : decode mX10_swaps.2.1 75 = .ok (.iload 4, 2) := by decide +kernel
theorem dX10_swaps_77 : decode mX10_swaps.2.1 77 = .ok (.iadd, 1) := by decide +kernel
theorem dX10_swaps_78 : decode mX10_swaps.2.1 78 = .ok (.iconst 4, 1) := by decide +kernel
theorem dX10_swaps_79 : decode mX10_swaps.2.1 79 = .ok (.iadd, 1) := by decide +kernel
theorem dX10_swaps_80 : decode mX10_swaps.2.1 80 = .ok (.iaload, 1) := by decide +kernel
theorem dX10_swaps_81 : decode mX10_swaps.2.1 81 = .ok (.iastore, 1) := by decide +kernel
theorem dX10_swaps_82 : decode mX10_swaps.2.1 82 = .ok (.aload_n 0, 1) := by decide +kernel
theorem dX10_swaps_83 : decode mX10_swaps.2.1 83 = .ok (.getfield 7, 3) := by decide +kernel
theorem dX10_swaps_86 : decode mX10_swaps.2.1 86 = .ok (.iload_n 3, 1) := by decide +kernel
theorem dX10_swaps_87 : decode mX10_swaps.2.1 87 = .ok (.iload 4, 2) := by decide +kernel
theorem dX10_swaps_89 : decode mX10_swaps.2.1 89 = .ok (.iadd, 1) := by decide +kernel
theorem dX10_swaps_90 : decode mX10_swaps.2.1 90 = .ok (.iconst 4, 1) := by decide +kernel
theorem dX10_swaps_91 : decode mX10_swaps.2.1 91 = .ok (.iadd, 1) := by decide +kernel
theorem dX10_swaps_92 : decode mX10_swaps.2.1 92 = .ok (.iload 5, 2) := by decide +kernel
theorem dX10_swaps_94 : decode mX10_swaps.2.1 94 = .ok (.iastore, 1) := by decide +kernel
theorem dX10_swaps_95 : decode mX10_swaps.2.1 95 = .ok (.iinc 4 1, 3) := by decide +kernel
theorem dX10_swaps_98 : decode mX10_swaps.2.1 98 = .ok (.goto (-53), 3) := by decide +kernel
theorem dX10_swaps_101 : decode mX10_swaps.2.1 101 = .ok (.iconst 1, 1) := by decide +kernel
theorem dX10_swaps_102 : decode mX10_swaps.2.1 102 = .ok (.ireturn, 1) := by decide +kernel
theorem dX10_findSites_0 : decode mX10_findSites.2.1 0 = .ok (.aload_n 0, 1) := by decide +kernel
theorem dX10_findSites_1 : decode mX10_findSites.2.1 1 = .ok (.iconst 0, 1) := by decide +kernel
theorem dX10_findSites_2 : decode mX10_findSites.2.1 2 = .ok (.putfield 175, 3) := by decide +kernel
theorem dX10_findSites_5 : decode mX10_findSites.2.1 5 = .ok (.iconst 0, 1) := by decide +kernel
theorem dX10_findSites_6 : decode mX10_findSites.2.1 6 = .ok (.istore_n 1, 1) := by decide +kernel
theorem dX10_findSites_7 : decode mX10_findSites.2.1 7 = .ok (.iload_n 1, 1) := by decide +kernel
theorem dX10_findSites_8 : decode mX10_findSites.2.1 8 = .ok (.aload_n 0, 1) := by decide +kernel
theorem dX10_findSites_9 : decode mX10_findSites.2.1 9 = .ok (.getfield 7, 3) := by decide +kernel
theorem dX10_findSites_12 : decode mX10_findSites.2.1 12 = .ok (.iconst 0, 1) := by decide +kernel
theorem dX10_findSites_13 : decode mX10_findSites.2.1 13 = .ok (.iaload, 1) := by decide +kernel
theorem dX10_findSites_14 : decode mX10_findSites.2.1 14 = .ok (.if_icmp .ge 93, 3) := by decide +kernel
theorem dX10_findSites_17 : decode mX10_findSites.2.1 17 = .ok (.iconst 0, 1) := by decide +kernel
theorem dX10_findSites_18 : decode mX10_findSites.2.1 18 = .ok (.istore_n 2, 1) := by decide +kernel
theorem dX10_findSites_19 : decode mX10_findSites.2.1 19 = .ok (.iload_n 2, 1) := by decide +kernel
theorem dX10_findSites_20 : decode mX10_findSites.2.1 20 = .ok (.aload_n 0, 1) := by decide +kernel
theorem dX10_findSites_21 : decode mX10_findSites.2.1 21 = .ok (.iload_n 1, 1) := by decide +kernel
theorem dX10_findSites_22 : decode mX10_findSites.2.1 22 = .ok (.invokevirtual 168, 3) := by decide +kernel
theorem dX10_findSites_25 : decode mX10_findSites.2.1 25 = .ok (.if_icmp .ge 76, 3) := by decide +kernel
theorem dX10_findSites_28 : decode mX10_findSites.2.1 28 = .ok (.aload_n 0, 1) := by decide +kernel
theorem dX10_findSites_29 : decode mX10_findSites.2.1 29 = .ok (.getfield 37, 3) := by decide +kernel
theorem dX10_findSites_32 : decode mX10_findSites.2.1 32 = .ok (.bipush 8, 2) := by decide +kernel
theorem dX10_findSites_34 : decode mX10_findSites.2.1 34 = .ok (.iload_n 1, 1) := by decide +kernel
theorem dX10_findSites_35 : decode mX10_findSites.2.1 35 = .ok (.imul, 1) := by decide +kernel
theorem dX10_findSites_36 : decode mX10_findSites.2.1 36 = .ok (.iload_n 2, 1) := by decide +kernel
theorem dX10_findSites_37 : decode mX10_findSites.2.1 37 = .ok (.iadd, 1) := by decide +kernel
theorem dX10_findSites_38 : decode mX10_findSites.2.1 38 = .ok (.iconst (-1), 1) := by decide +kernel
theorem dX10_findSites_39 : decode mX10_findSites.2.1 39 = .ok (.iastore, 1) := by decide +kernel
theorem dX10_findSites_40 : decode mX10_findSites.2.1 40 = .ok (.aload_n 0, 1) := by decide +kernel
theorem dX10_findSites_41 : decode mX10_findSites.2.1 41 = .ok (.iload_n 1, 1) := by decide +kernel
theorem dX10_findSites_42 : decode mX10_findSites.2.1 42 = .ok (.iload_n 2, 1) := by decide +kernel
theorem dX10_findSites_43 : decode mX10_findSites.2.1 43 = .ok (.iconst 0, 1) := by decide +kernel
theorem dX10_findSites_44 : decode mX10_findSites.2.1 44 = .ok (.invokevirtual 178, 3) := by decide +kernel
theorem dX10_findSites_47 : decode mX10_findSites.2.1 47 = .ok (.ifCond .ne 48, 3) := by decide +kernel
theorem dX10_findSites_50 : decode mX10_findSites.2.1 50 = .ok (.aload_n 0, 1) := by decide +kernel
theorem dX10_findSites_51 : decode mX10_findSites.2.1 51 = .ok (.getfield 31, 3) := by decide +kernel
theorem dX10_findSites_54 : decode mX10_findSites.2.1 54 = .ok (.aload_n 0, 1) := by decide +kernel
theorem dX10_findSites_55 : decode mX10_findSites.2.1 55 = .ok (.getfield 175, 3) := by decide +kernel
theorem dX10_findSites_58 : decode mX10_findSites.2.1 58 = .ok (.iload_n 1, 1) := by decide +kernel
theorem dX10_findSites_59 : decode mX10_findSites.2.1 59 = .ok (.iastore, 1) := by decide +kernel
theorem dX10_findSites_60 : decode mX10_findSites.2.1 60 = .ok (.aload_n 0, 1) := by decide +kernel
theorem dX10_findSites_61 : decode mX10_findSites.2.1 61 = .ok (.getfield 34, 3) := by decide +kernel
theorem dX10_findSites_64 : decode mX10_findSites.2.1 64 = .ok (.aload_n 0, 1) := by decide +kernel
theorem dX10_findSites_65 : decode mX10_findSites.2.1 65 = .ok (.getfield 175, 3) := by decide +kernel
theorem dX10_findSites_68 : decode mX10_findSites.2.1 68 = .ok (.iload_n 2, 1) := by decide +kernel
theorem dX10_findSites_69 : decode mX10_findSites.2.1 69 = .ok (.iastore, 1) := by decide +kernel
theorem dX10_findSites_70 : decode mX10_findSites.2.1 70 = .ok (.aload_n 0, 1) := by decide +kernel
theorem dX10_findSites_71 : decode mX10_findSites.2.1 71 = .ok (.getfield 37, 3) := by decide +kernel
theorem dX10_findSites_74 : decode mX10_findSites.2.1 74 = .ok (.bipush 8, 2) := by decide +kernel
theorem dX10_findSites_76 : decode mX10_findSites.2.1 76 = .ok (.iload_n 1, 1) := by decide +kernel
theorem dX10_findSites_77 : decode mX10_findSites.2.1 77 = .ok (.imul, 1) := by decide +kernel
theorem dX10_findSites_78 : decode mX10_findSites.2.1 78 = .ok (.iload_n 2, 1) := by decide +kernel
theorem dX10_findSites_79 : decode mX10_findSites.2.1 79 = .ok (.iadd, 1) := by decide +kernel
theorem dX10_findSites_80 : decode mX10_findSites.2.1 80 = .ok (.aload_n 0, 1) := by decide +kernel
theorem dX10_findSites_81 : decode mX10_findSites.2.1 81 = .ok (.getfield 175, 3) := by decide +kernel
theorem dX10_findSites_84 : decode mX10_findSites.2.1 84 = .ok (.iastore, 1) := by decide +kernel
theorem dX10_findSites_85 : decode mX10_findSites.2.1 85 = .ok (.aload_n 0, 1) := by decide +kernel
theorem dX10_findSites_86 : decode mX10_findSites.2.1 86 = .ok (.dup, 1) := by decide +kernel
theorem dX10_findSites_87 : decode mX10_findSites.2.1 87 = .ok (.getfield 175, 3) := by decide +kernel
theorem dX10_findSites_90 : decode mX10_findSites.2.1 90 = .ok (.iconst 1, 1) := by decide +kernel
theorem dX10_findSites_91 : decode mX10_findSites.2.1 91 = .ok (.iadd, 1) := by decide +kernel
theorem dX10_findSites_92 : decode mX10_findSites.2.1 92 = .ok (.putfield 175, 3) := by decide +kernel
theorem dX10_findSites_95 : decode mX10_findSites.2.1 95 = .ok (.iinc 2 1, 3) := by decide +kernel
theorem dX10_findSites_98 : decode mX10_findSites.2.1 98 = .ok (.goto (-79), 3) := by decide +kernel
theorem dX10_findSites_101 : decode mX10_findSites.2.1 101 = .ok (.iinc 1 1, 3) := by decide +kernel
theorem dX10_findSites_104 : decode mX10_findSites.2.1 104 = .ok (.goto (-97), 3) := by decide +kernel
theorem dX10_findSites_107 : decode mX10_findSites.2.1 107 = .ok (.return_, 1) := by decide +kernel
theorem dX10_add_0 : decode mX10_add.2.1 0 = .ok (.aload_n 0, 1) := by decide +kernel
theorem dX10_add_1 : decode mX10_add.2.1 1 = .ok (.aload_n 0, 1) := by decide +kernel
theorem dX10_add_2 : decode mX10_add.2.1 2 = .ok (.getfield 182, 3) := by decide +kernel
theorem dX10_add_5 : decode mX10_add.2.1 5 = .ok (.ifCond .ne 20, 3) := by decide +kernel
theorem dX10_add_8 : decode mX10_add.2.1 8 = .ok (.aload_n 0, 1) := by decide +kernel
theorem dX10_add_9 : decode mX10_add.2.1 9 = .ok (.getfield 40, 3) := by decide +kernel
theorem dX10_add_12 : decode mX10_add.2.1 12 = .ok (.iload_n 1, 1) := by decide +kernel
theorem dX10_add_13 : decode mX10_add.2.1 13 = .ok (.iaload, 1) := by decide +kernel
theorem dX10_add_14 : decode mX10_add.2.1 14 = .ok (.iload_n 2, 1) := by decide +kernel
theorem dX10_add_15 : decode mX10_add.2.1 15 = .ok (.ior, 1) := by decide +kernel
theorem dX10_add_16 : decode mX10_add.2.1 16 = .ok (.aload_n 0, 1) := by decide +kernel
theorem dX10_add_17 : decode mX10_add.2.1 17 = .ok (.getfield 40, 3) := by decide +kernel
theorem dX10_add_20 : decode mX10_add.2.1 20 = .ok (.iload_n 1, 1) := by decide +kernel
theorem dX10_add_21 : decode mX10_add.2.1 21 = .ok (.iaload, 1) := by decide +kernel
theorem dX10_add_22 : decode mX10_add.2.1 22 = .ok (.if_icmp .eq 7, 3) := by decide +kernel
theorem dX10_add_25 : decode mX10_add.2.1 25 = .ok (.iconst 1, 1) := by decide +kernel
theorem dX10_add_26 : decode mX10_add.2.1 26 = .ok (.goto 4, 3) := by decide +kernel
theorem dX10_add_29 : decode mX10_add.2.1 29 = .ok (.iconst 0, 1) := by decide +kernel
theorem dX10_add_30 : decode mX10_add.2.1 30 = .ok (.putfield 182, 3) := by decide +kernel
theorem dX10_add_33 : decode mX10_add.2.1 33 = .ok (.aload_n 0, 1) := by decide +kernel
theorem dX10_add_34 : decode mX10_add.2.1 34 = .ok (.getfield 40, 3) := by decide +kernel
theorem dX10_add_37 : decode mX10_add.2.1 37 = .ok (.iload_n 1, 1) := by decide +kernel
theorem dX10_add_38 : decode mX10_add.2.1 38 = .ok (.dup2, 1) := by decide +kernel
theorem dX10_add_39 : decode mX10_add.2.1 39 = .ok (.iaload, 1) := by decide +kernel
theorem dX10_add_40 : decode mX10_add.2.1 40 = .ok (.iload_n 2, 1) := by decide +kernel
theorem dX10_add_41 : decode mX10_add.2.1 41 = .ok (.ior, 1) := by decide +kernel
theorem dX10_add_42 : decode mX10_add.2.1 42 = .ok (.iastore, 1) := by decide +kernel
theorem dX10_add_43 : decode mX10_add.2.1 43 = .ok (.return_, 1) := by decide +kernel
theorem dX10_has_0 : decode mX10_has.2.1 0 = .ok (.iload_n 0, 1) := by decide +kernel
theorem dX10_has_1 : decode mX10_has.2.1 1 = .ok (.iload_n 1, 1) := by decide +kernel
theorem dX10_has_2 : decode mX10_has.2.1 2 = .ok (.ishr, 1) := by decide +kernel
theorem dX10_has_3 : decode mX10_has.2.1 3 = .ok (.iconst 1, 1) := by decide +kernel
theorem dX10_has_4 : decode mX10_has.2.1 4 = .ok (.iand, 1) := by decide +kernel
theorem dX10_has_5 : decode mX10_has.2.1 5 = .ok (.iconst 1, 1) := by decide +kernel
theorem dX10_has_6 : decode mX10_has.2.1 6 = .ok (.if_icmp .ne 7, 3) := by decide +kernel
theorem dX10_has_9 : decode mX10_has.2.1 9 = .ok (.iconst 1, 1) := by decide +kernel
theorem dX10_has_10 : decode mX10_has.2.1 10 = .ok (.goto 4, 3) := by decide +kernel
theorem dX10_has_13 : decode mX10_has.2.1 13 = .ok (.iconst 0, 1) := by decide +kernel
theorem dX10_has_14 : decode mX10_has.2.1 14 = .ok (.ireturn, 1) := by decide +kernel
theorem dX10_fields_0 : decode mX10_fields.2.1 0 = .ok (.iconst 0, 1) := by decide +kernel
theorem dX10_fields_1 : decode mX10_fields.2.1 1 = .ok (.istore_n 2, 1) := by decide +kernel
theorem dX10_fields_2 : decode mX10_fields.2.1 2 = .ok (.iconst 0, 1) := by decide +kernel
theorem dX10_fields_3 : decode mX10_fields.2.1 3 = .ok (.istore_n 3, 1) := by decide +kernel
theorem dX10_fields_4 : decode mX10_fields.2.1 4 = .ok (.iload_n 3, 1) := by decide +kernel
theorem dX10_fields_5 : decode mX10_fields.2.1 5 = .ok (.aload_n 0, 1) := by decide +kernel
theorem dX10_fields_6 : decode mX10_fields.2.1 6 = .ok (.getfield 175, 3) := by decide +kernel
theorem dX10_fields_9 : decode mX10_fields.2.1 9 = .ok (.if_icmp .ge 33, 3) := by decide +kernel
theorem dX10_fields_12 : decode mX10_fields.2.1 12 = .ok (.iload_n 2, 1) := by decide +kernel
theorem dX10_fields_13 : decode mX10_fields.2.1 13 = .ok (.iload_n 1, 1) := by decide +kernel
theorem dX10_fields_14 : decode mX10_fields.2.1 14 = .ok (.iload_n 3, 1) := by decide +kernel
theorem dX10_fields_15 : decode mX10_fields.2.1 15 = .ok (.invokestatic 186, 3) := by decide +kernel
theorem dX10_fields_18 : decode mX10_fields.2.1 18 = .ok (.ifCond .eq 15, 3) := by decide +kernel
theorem dX10_fields_21 : decode mX10_fields.2.1 21 = .ok (.aload_n 0, 1) := by decide +kernel
theorem dX10_fields_22 : decode mX10_fields.2.1 22 = .ok (.getfield 40, 3) := by decide +kernel
theorem dX10_fields_25 : decode mX10_fields.2.1 25 = .ok (.bipush 17, 2) := by decide +kernel
theorem dX10_fields_27 : decode mX10_fields.2.1 27 = .ok (.iload_n 3, 1) := by decide +kernel
theorem dX10_fields_28 : decode mX10_fields.2.1 28 = .ok (.iadd, 1) := by decide +kernel
theorem dX10_fields_29 : decode mX10_fields.2.1 29 = .ok (.iaload, 1) := by decide +kernel
theorem dX10_fields_30 : decode mX10_fields.2.1 30 = .ok (.goto 4, 3) := by decide +kernel
theorem dX10_fields_33 : decode mX10_fields.2.1 33 = .ok (.iconst 0, 1) := by decide +kernel
theorem dX10_fields_34 : decode mX10_fields.2.1 34 = .ok (.ior, 1) := by decide +kernel
theorem dX10_fields_35 : decode mX10_fields.2.1 35 = .ok (.istore_n 2, 1) := by decide +kernel
theorem dX10_fields_36 : decode mX10_fields.2.1 36 = .ok (.iinc 3 1, 3) := by decide +kernel
theorem dX10_fields_39 : decode mX10_fields.2.1 39 = .ok (.goto (-35), 3) := by decide +kernel
theorem dX10_fields_42 : decode mX10_fields.2.1 42 = .ok (.iload_n 2, 1) := by decide +kernel
theorem dX10_fields_43 : decode mX10_fields.2.1 43 = .ok (.ireturn, 1) := by decide +kernel
theorem dX10_goThrough_0 : decode mX10_goThrough.2.1 0 = .ok (.iconst 4, 1) := by decide +kernel
theorem dX10_goThrough_1 : decode mX10_goThrough.2.1 1 = .ok (.iload_n 1, 1) := by decide +kernel
theorem dX10_goThrough_2 : decode mX10_goThrough.2.1 2 = .ok (.imul, 1) := by decide +kernel
theorem dX10_goThrough_3 : decode mX10_goThrough.2.1 3 = .ok (.aload_n 0, 1) := by decide +kernel
theorem dX10_goThrough_4 : decode mX10_goThrough.2.1 4 = .ok (.iload_n 1, 1) := by decide +kernel
theorem dX10_goThrough_5 : decode mX10_goThrough.2.1 5 = .ok (.iload_n 2, 1) := by decide +kernel
theorem dX10_goThrough_6 : decode mX10_goThrough.2.1 6 = .ok (.iconst 1, 1) := by decide +kernel
theorem dX10_goThrough_7 : decode mX10_goThrough.2.1 7 = .ok (.invokevirtual 178, 3) := by decide +kernel
theorem dX10_goThrough_10 : decode mX10_goThrough.2.1 10 = .ok (.iadd, 1) := by decide +kernel
theorem dX10_goThrough_11 : decode mX10_goThrough.2.1 11 = .ok (.istore_n 3, 1) := by decide +kernel
theorem dX10_goThrough_12 : decode mX10_goThrough.2.1 12 = .ok (.iconst 4, 1) := by decide +kernel
theorem dX10_goThrough_13 : decode mX10_goThrough.2.1 13 = .ok (.iload_n 1, 1) := by decide +kernel
theorem dX10_goThrough_14 : decode mX10_goThrough.2.1 14 = .ok (.imul, 1) := by decide +kernel
theorem dX10_goThrough_15 : decode mX10_goThrough.2.1 15 = .ok (.aload_n 0, 1) := by decide +kernel
theorem dX10_goThrough_16 : decode mX10_goThrough.2.1 16 = .ok (.iload_n 1, 1) := by decide +kernel
theorem dX10_goThrough_17 : decode mX10_goThrough.2.1 17 = .ok (.iload_n 2, 1) := by decide +kernel
theorem dX10_goThrough_18 : decode mX10_goThrough.2.1 18 = .ok (.iconst 2, 1) := by decide +kernel
theorem dX10_goThrough_19 : decode mX10_goThrough.2.1 19 = .ok (.invokevirtual 178, 3) := by decide +kernel
theorem dX10_goThrough_22 : decode mX10_goThrough.2.1 22 = .ok (.iadd, 1) := by decide +kernel
theorem dX10_goThrough_23 : decode mX10_goThrough.2.1 23 = .ok (.istore 4, 2) := by decide +kernel
theorem dX10_goThrough_25 : decode mX10_goThrough.2.1 25 = .ok (.aload_n 0, 1) := by decide +kernel
theorem dX10_goThrough_26 : decode mX10_goThrough.2.1 26 = .ok (.iload_n 1, 1) := by decide +kernel
theorem dX10_goThrough_27 : decode mX10_goThrough.2.1 27 = .ok (.iload_n 2, 1) := by decide +kernel
theorem dX10_goThrough_28 : decode mX10_goThrough.2.1 28 = .ok (.iconst 3, 1) := by decide +kernel
theorem dX10_goThrough_29 : decode mX10_goThrough.2.1 29 = .ok (.invokevirtual 178, 3) := by decide +kernel
theorem dX10_goThrough_32 : decode mX10_goThrough.2.1 32 = .ok (.istore 5, 2) := by decide +kernel
theorem dX10_goThrough_34 : decode mX10_goThrough.2.1 34 = .ok (.aload_n 0, 1) := by decide +kernel
theorem dX10_goThrough_35 : decode mX10_goThrough.2.1 35 = .ok (.iload_n 1, 1) := by decide +kernel
theorem dX10_goThrough_36 : decode mX10_goThrough.2.1 36 = .ok (.iload_n 2, 1) := by decide +kernel
theorem dX10_goThrough_37 : decode mX10_goThrough.2.1 37 = .ok (.iconst 0, 1) := by decide +kernel
theorem dX10_goThrough_38 : decode mX10_goThrough.2.1 38 = .ok (.invokevirtual 178, 3) := by decide +kernel
theorem dX10_goThrough_41 : decode mX10_goThrough.2.1 41 = .ok (.tableswitch 221 0 7 #[47, 68, 83, 138, 157, 172, 221, 187], 47) := by decide +kernel
theorem dX10_goThrough_88 : decode mX10_goThrough.2.1 88 = .ok (.aload_n 0, 1) := by decide +kernel
theorem dX10_goThrough_89 : decode mX10_goThrough.2.1 89 = .ok (.iload_n 3, 1) := by decide +kernel
theorem dX10_goThrough_90 : decode mX10_goThrough.2.1 90 = .ok (.iconst 1, 1) := by decide +kernel
theorem dX10_goThrough_91 : decode mX10_goThrough.2.1 91 = .ok (.aload_n 0, 1) := by decide +kernel
theorem dX10_goThrough_92 : decode mX10_goThrough.2.1 92 = .ok (.getfield 37, 3) := by decide +kernel
theorem dX10_goThrough_95 : decode mX10_goThrough.2.1 95 = .ok (.bipush 8, 2) := by decide +kernel
theorem dX10_goThrough_97 : decode mX10_goThrough.2.1 97 = .ok (.iload_n 1, 1) := by decide +kernel
theorem dX10_goThrough_98 : decode mX10_goThrough.2.1 98 = .ok (.imul, 1) := by decide +kernel
theorem dX10_goThrough_99 : decode mX10_goThrough.2.1 99 = .ok (.iload_n 2, 1) := by decide +kernel
theorem dX10_goThrough_100 : decode mX10_goThrough.2.1 100 = .ok (.iadd, 1) := by decide +kernel
theorem dX10_goThrough_101 : decode mX10_goThrough.2.1 101 = .ok (.iaload, 1) := by decide +kernel
theorem dX10_goThrough_102 : decode mX10_goThrough.2.1 102 = .ok (.ishl, 1) := by decide +kernel
theorem dX10_goThrough_103 : decode mX10_goThrough.2.1 103 = .ok (.invokevirtual 189, 3) := by decide +kernel
theorem dX10_goThrough_106 : decode mX10_goThrough.2.1 106 = .ok (.goto 156, 3) := by decide +kernel
theorem dX10_goThrough_109 : decode mX10_goThrough.2.1 109 = .ok (.aload_n 0, 1) := by decide +kernel
theorem dX10_goThrough_110 : decode mX10_goThrough.2.1 110 = .ok (.iload_n 3, 1) := by decide +kernel
theorem dX10_goThrough_111 : decode mX10_goThrough.2.1 111 = .ok (.aload_n 0, 1) := by decide +kernel
theorem dX10_goThrough_112 : decode mX10_goThrough.2.1 112 = .ok (.getfield 40, 3) := by decide +kernel
theorem dX10_goThrough_115 : decode mX10_goThrough.2.1 115 = .ok (.iload 4, 2) := by decide +kernel
theorem dX10_goThrough_117 : decode mX10_goThrough.2.1 117 = .ok (.iaload, 1) := by decide +kernel
theorem dX10_goThrough_118 : decode mX10_goThrough.2.1 118 = .ok (.invokevirtual 189, 3) := by decide +kernel
theorem dX10_goThrough_121 : decode mX10_goThrough.2.1 121 = .ok (.goto 141, 3) := by decide +kernel
theorem dX10_goThrough_124 : decode mX10_goThrough.2.1 124 = .ok (.iconst 0, 1) := by decide +kernel
theorem dX10_goThrough_125 : decode mX10_goThrough.2.1 125 = .ok (.istore 6, 2) := by decide +kernel
theorem dX10_goThrough_127 : decode mX10_goThrough.2.1 127 = .ok (.iload 6, 2) := by decide +kernel
theorem dX10_goThrough_129 : decode mX10_goThrough.2.1 129 = .ok (.aload_n 0, 1) := by decide +kernel
theorem dX10_goThrough_130 : decode mX10_goThrough.2.1 130 = .ok (.getfield 175, 3) := by decide +kernel
theorem dX10_goThrough_133 : decode mX10_goThrough.2.1 133 = .ok (.if_icmp .ge 43, 3) := by decide +kernel
theorem dX10_goThrough_136 : decode mX10_goThrough.2.1 136 = .ok (.aload_n 0, 1) := by decide +kernel
theorem dX10_goThrough_137 : decode mX10_goThrough.2.1 137 = .ok (.bipush 17, 2) := by decide +kernel
theorem dX10_goThrough_139 : decode mX10_goThrough.2.1 139 = .ok (.iload 6, 2) := by decide +kernel
theorem dX10_goThrough_141 : decode mX10_goThrough.2.1 141 = .ok (.iadd, 1) := by decide +kernel
theorem dX10_goThrough_142 : decode mX10_goThrough.2.1 142 = .ok (.aload_n 0, 1) := by decide +kernel
theorem dX10_goThrough_143 : decode mX10_goThrough.2.1 143 = .ok (.getfield 40, 3) := by decide +kernel
theorem dX10_goThrough_146 : decode mX10_goThrough.2.1 146 = .ok (.iload_n 3, 1) := by decide +kernel
theorem dX10_goThrough_147 : decode mX10_goThrough.2.1 147 = .ok (.iaload, 1) := by decide +kernel
theorem dX10_goThrough_148 : decode mX10_goThrough.2.1 148 = .ok (.iload 6, 2) := by decide +kernel
theorem dX10_goThrough_150 : decode mX10_goThrough.2.1 150 = .ok (.invokestatic 186, 3) := by decide +kernel
theorem dX10_goThrough_153 : decode mX10_goThrough.2.1 153 = .ok (.ifCond .eq 13, 3) := by decide +kernel
theorem dX10_goThrough_156 : decode mX10_goThrough.2.1 156 = .ok (.aload_n 0, 1) := by decide +kernel
theorem dX10_goThrough_157 : decode mX10_goThrough.2.1 157 = .ok (.getfield 40, 3) := by decide +kernel
theorem dX10_goThrough_160 : decode mX10_goThrough.2.1 160 = .ok (.iload 4, 2) := by decide +kernel
theorem dX10_goThrough_162 : decode mX10_goThrough.2.1 162 = .ok (.iaload, 1) := by decide +kernel
theorem dX10_goThrough_163 : decode mX10_goThrough.2.1 163 = .ok (.goto 4, 3) := by decide +kernel
theorem dX10_goThrough_166 : decode mX10_goThrough.2.1 166 = .ok (.iconst 0, 1) := by decide +kernel
theorem dX10_goThrough_167 : decode mX10_goThrough.2.1 167 = .ok (.invokevirtual 189, 3) := by decide +kernel
theorem dX10_goThrough_170 : decode mX10_goThrough.2.1 170 = .ok (.iinc 6 1, 3) := by decide +kernel
theorem dX10_goThrough_173 : decode mX10_goThrough.2.1 173 = .ok (.goto (-46), 3) := by decide +kernel
theorem dX10_goThrough_176 : decode mX10_goThrough.2.1 176 = .ok (.goto 86, 3) := by decide +kernel
theorem dX10_goThrough_179 : decode mX10_goThrough.2.1 179 = .ok (.aload_n 0, 1) := by decide +kernel
theorem dX10_goThrough_180 : decode mX10_goThrough.2.1 180 = .ok (.iload_n 3, 1) := by decide +kernel
theorem dX10_goThrough_181 : decode mX10_goThrough.2.1 181 = .ok (.aload_n 0, 1) := by decide +kernel
theorem dX10_goThrough_182 : decode mX10_goThrough.2.1 182 = .ok (.aload_n 0, 1) := by decide +kernel
theorem dX10_goThrough_183 : decode mX10_goThrough.2.1 183 = .ok (.getfield 40, 3) := by decide +kernel
theorem dX10_goThrough_186 : decode mX10_goThrough.2.1 186 = .ok (.iload 4, 2) := by decide +kernel
theorem dX10_goThrough_188 : decode mX10_goThrough.2.1 188 = .ok (.iaload, 1) := by decide +kernel
theorem dX10_goThrough_189 : decode mX10_goThrough.2.1 189 = .ok (.invokevirtual 193, 3) := by decide +kernel
theorem dX10_goThrough_192 : decode mX10_goThrough.2.1 192 = .ok (.invokevirtual 189, 3) := by decide +kernel
theorem dX10_goThrough_195 : decode mX10_goThrough.2.1 195 = .ok (.goto 67, 3) := by decide +kernel
theorem dX10_goThrough_198 : decode mX10_goThrough.2.1 198 = .ok (.aload_n 0, 1) := by decide +kernel
theorem dX10_goThrough_199 : decode mX10_goThrough.2.1 199 = .ok (.bipush 16, 2) := by decide +kernel
theorem dX10_goThrough_201 : decode mX10_goThrough.2.1 201 = .ok (.aload_n 0, 1) := by decide +kernel
theorem dX10_goThrough_202 : decode mX10_goThrough.2.1 202 = .ok (.getfield 40, 3) := by decide +kernel
theorem dX10_goThrough_205 : decode mX10_goThrough.2.1 205 = .ok (.iload_n 3, 1) := by decide +kernel
theorem dX10_goThrough_206 : decode mX10_goThrough.2.1 206 = .ok (.iaload, 1) := by decide +kernel
theorem dX10_goThrough_207 : decode mX10_goThrough.2.1 207 = .ok (.invokevirtual 189, 3) := by decide +kernel
theorem dX10_goThrough_210 : decode mX10_goThrough.2.1 210 = .ok (.goto 52, 3) := by decide +kernel
theorem dX10_goThrough_213 : decode mX10_goThrough.2.1 213 = .ok (.aload_n 0, 1) := by decide +kernel
theorem dX10_goThrough_214 : decode mX10_goThrough.2.1 214 = .ok (.iload_n 3, 1) := by decide +kernel
theorem dX10_goThrough_215 : decode mX10_goThrough.2.1 215 = .ok (.aload_n 0, 1) := by decide +kernel
theorem dX10_goThrough_216 : decode mX10_goThrough.2.1 216 = .ok (.getfield 40, 3) := by decide +kernel
theorem dX10_goThrough_219 : decode mX10_goThrough.2.1 219 = .ok (.bipush 16, 2) := by decide +kernel
theorem dX10_goThrough_221 : decode mX10_goThrough.2.1 221 = .ok (.iaload, 1) := by decide +kernel
theorem dX10_goThrough_222 : decode mX10_goThrough.2.1 222 = .ok (.invokevirtual 189, 3) := by decide +kernel
theorem dX10_goThrough_225 : decode mX10_goThrough.2.1 225 = .ok (.goto 37, 3) := by decide +kernel
theorem dX10_goThrough_228 : decode mX10_goThrough.2.1 228 = .ok (.aload_n 0, 1) := by decide +kernel
theorem dX10_goThrough_229 : decode mX10_goThrough.2.1 229 = .ok (.iconst 4, 1) := by decide +kernel
theorem dX10_goThrough_230 : decode mX10_goThrough.2.1 230 = .ok (.iload 5, 2) := by decide +kernel
theorem dX10_goThrough_232 : decode mX10_goThrough.2.1 232 = .ok (.imul, 1) := by decide +kernel
theorem dX10_goThrough_233 : decode mX10_goThrough.2.1 233 = .ok (.aload_n 0, 1) := by decide +kernel
theorem dX10_goThrough_234 : decode mX10_goThrough.2.1 234 = .ok (.getfield 40, 3) := by decide +kernel
theorem dX10_goThrough_237 : decode mX10_goThrough.2.1 237 = .ok (.iload 4, 2) := by decide +kernel
theorem dX10_goThrough_239 : decode mX10_goThrough.2.1 239 = .ok (.iaload, 1) := by decide +kernel
theorem dX10_goThrough_240 : decode mX10_goThrough.2.1 240 = .ok (.invokevirtual 189, 3) := by decide +kernel
theorem dX10_goThrough_243 : decode mX10_goThrough.2.1 243 = .ok (.aload_n 0, 1) := by decide +kernel
theorem dX10_goThrough_244 : decode mX10_goThrough.2.1 244 = .ok (.iload_n 3, 1) := by decide +kernel
theorem dX10_goThrough_245 : decode mX10_goThrough.2.1 245 = .ok (.aload_n 0, 1) := by decide +kernel
theorem dX10_goThrough_246 : decode mX10_goThrough.2.1 246 = .ok (.getfield 40, 3) := by decide +kernel
theorem dX10_goThrough_249 : decode mX10_goThrough.2.1 249 = .ok (.iconst 4, 1) := by decide +kernel
theorem dX10_goThrough_250 : decode mX10_goThrough.2.1 250 = .ok (.iload 5, 2) := by decide +kernel
theorem dX10_goThrough_252 : decode mX10_goThrough.2.1 252 = .ok (.imul, 1) := by decide +kernel
theorem dX10_goThrough_253 : decode mX10_goThrough.2.1 253 = .ok (.iconst 3, 1) := by decide +kernel
theorem dX10_goThrough_254 : decode mX10_goThrough.2.1 254 = .ok (.iadd, 1) := by decide +kernel
theorem dX10_goThrough_255 : decode mX10_goThrough.2.1 255 = .ok (.iaload, 1) := by decide +kernel
theorem dX10_goThrough_256 : decode mX10_goThrough.2.1 256 = .ok (.invokevirtual 189, 3) := by decide +kernel
theorem dX10_goThrough_259 : decode mX10_goThrough.2.1 259 = .ok (.goto 3, 3) := by decide +kernel
theorem dX10_goThrough_262 : decode mX10_goThrough.2.1 262 = .ok (.return_, 1) := by decide +kernel
theorem dX10_findMays_0 : decode mX10_findMays.2.1 0 = .ok (.aload_n 0, 1) := by decide +kernel
theorem dX10_findMays_1 : decode mX10_findMays.2.1 1 = .ok (.invokevirtual 196, 3) := by decide +kernel
theorem dX10_findMays_4 : decode mX10_findMays.2.1 4 = .ok (.iconst 0, 1) := by decide +kernel
theorem dX10_findMays_5 : decode mX10_findMays.2.1 5 = .ok (.istore_n 1, 1) := by decide +kernel
theorem dX10_findMays_6 : decode mX10_findMays.2.1 6 = .ok (.iload_n 1, 1) := by decide +kernel
theorem dX10_findMays_7 : decode mX10_findMays.2.1 7 = .ok (.bipush 49, 2) := by decide +kernel
theorem dX10_findMays_9 : decode mX10_findMays.2.1 9 = .ok (.if_icmp .ge 16, 3) := by decide +kernel
theorem dX10_findMays_12 : decode mX10_findMays.2.1 12 = .ok (.aload_n 0, 1) := by decide +kernel
theorem dX10_findMays_13 : decode mX10_findMays.2.1 13 = .ok (.getfield 40, 3) := by decide +kernel
theorem dX10_findMays_16 : decode mX10_findMays.2.1 16 = .ok (.iload_n 1, 1) := by decide +kernel
theorem dX10_findMays_17 : decode mX10_findMays.2.1 17 = .ok (.iconst 0, 1) := by decide +kernel
theorem dX10_findMays_18 : decode mX10_findMays.2.1 18 = .ok (.iastore, 1) := by decide +kernel
theorem dX10_findMays_19 : decode mX10_findMays.2.1 19 = .ok (.iinc 1 1, 3) := by decide +kernel
theorem dX10_findMays_22 : decode mX10_findMays.2.1 22 = .ok (.goto (-16), 3) := by decide +kernel
theorem dX10_findMays_25 : decode mX10_findMays.2.1 25 = .ok (.aload_n 0, 1) := by decide +kernel
theorem dX10_findMays_26 : decode mX10_findMays.2.1 26 = .ok (.iconst 1, 1) := by decide +kernel
theorem dX10_findMays_27 : decode mX10_findMays.2.1 27 = .ok (.putfield 182, 3) := by decide +kernel
theorem dX10_findMays_30 : decode mX10_findMays.2.1 30 = .ok (.aload_n 0, 1) := by decide +kernel
theorem dX10_findMays_31 : decode mX10_findMays.2.1 31 = .ok (.getfield 182, 3) := by decide +kernel
theorem dX10_findMays_34 : decode mX10_findMays.2.1 34 = .ok (.ifCond .eq 52, 3) := by decide +kernel
theorem dX10_findMays_37 : decode mX10_findMays.2.1 37 = .ok (.aload_n 0, 1) := by decide +kernel
theorem dX10_findMays_38 : decode mX10_findMays.2.1 38 = .ok (.iconst 0, 1) := by decide +kernel
theorem dX10_findMays_39 : decode mX10_findMays.2.1 39 = .ok (.putfield 182, 3) := by decide +kernel
theorem dX10_findMays_42 : decode mX10_findMays.2.1 42 = .ok (.iconst 0, 1) := by decide +kernel
theorem dX10_findMays_43 : decode mX10_findMays.2.1 43 = .ok (.istore_n 1, 1) := by decide +kernel
theorem dX10_findMays_44 : decode mX10_findMays.2.1 44 = .ok (.iload_n 1, 1) := by decide +kernel
theorem dX10_findMays_45 : decode mX10_findMays.2.1 45 = .ok (.aload_n 0, 1) := by decide +kernel
theorem dX10_findMays_46 : decode mX10_findMays.2.1 46 = .ok (.getfield 7, 3) := by decide +kernel
theorem dX10_findMays_49 : decode mX10_findMays.2.1 49 = .ok (.iconst 0, 1) := by decide +kernel
theorem dX10_findMays_50 : decode mX10_findMays.2.1 50 = .ok (.iaload, 1) := by decide +kernel
theorem dX10_findMays_51 : decode mX10_findMays.2.1 51 = .ok (.if_icmp .ge 32, 3) := by decide +kernel
theorem dX10_findMays_54 : decode mX10_findMays.2.1 54 = .ok (.iconst 0, 1) := by decide +kernel
theorem dX10_findMays_55 : decode mX10_findMays.2.1 55 = .ok (.istore_n 2, 1) := by decide +kernel
theorem dX10_findMays_56 : decode mX10_findMays.2.1 56 = .ok (.iload_n 2, 1) := by decide +kernel
theorem dX10_findMays_57 : decode mX10_findMays.2.1 57 = .ok (.aload_n 0, 1) := by decide +kernel
theorem dX10_findMays_58 : decode mX10_findMays.2.1 58 = .ok (.iload_n 1, 1) := by decide +kernel
theorem dX10_findMays_59 : decode mX10_findMays.2.1 59 = .ok (.invokevirtual 168, 3) := by decide +kernel
theorem dX10_findMays_62 : decode mX10_findMays.2.1 62 = .ok (.if_icmp .ge 15, 3) := by decide +kernel
theorem dX10_findMays_65 : decode mX10_findMays.2.1 65 = .ok (.aload_n 0, 1) := by decide +kernel
theorem dX10_findMays_66 : decode mX10_findMays.2.1 66 = .ok (.iload_n 1, 1) := by decide +kernel
theorem dX10_findMays_67 : decode mX10_findMays.2.1 67 = .ok (.iload_n 2, 1) := by decide +kernel
theorem dX10_findMays_68 : decode mX10_findMays.2.1 68 = .ok (.invokevirtual 199, 3) := by decide +kernel
theorem dX10_findMays_71 : decode mX10_findMays.2.1 71 = .ok (.iinc 2 1, 3) := by decide +kernel
theorem dX10_findMays_74 : decode mX10_findMays.2.1 74 = .ok (.goto (-18), 3) := by decide +kernel
theorem dX10_findMays_77 : decode mX10_findMays.2.1 77 = .ok (.iinc 1 1, 3) := by decide +kernel
theorem dX10_findMays_80 : decode mX10_findMays.2.1 80 = .ok (.goto (-36), 3) := by decide +kernel
theorem dX10_findMays_83 : decode mX10_findMays.2.1 83 = .ok (.goto (-53), 3) := by decide +kernel
theorem dX10_findMays_86 : decode mX10_findMays.2.1 86 = .ok (.return_, 1) := by decide +kernel
theorem dX10_reachedFrom_0 : decode mX10_reachedFrom.2.1 0 = .ok (.iload_n 1, 1) := by decide +kernel
theorem dX10_reachedFrom_1 : decode mX10_reachedFrom.2.1 1 = .ok (.istore_n 2, 1) := by decide +kernel
theorem dX10_reachedFrom_2 : decode mX10_reachedFrom.2.1 2 = .ok (.iconst 0, 1) := by decide +kernel
theorem dX10_reachedFrom_3 : decode mX10_reachedFrom.2.1 3 = .ok (.istore_n 3, 1) := by decide +kernel
theorem dX10_reachedFrom_4 : decode mX10_reachedFrom.2.1 4 = .ok (.iload_n 2, 1) := by decide +kernel
theorem dX10_reachedFrom_5 : decode mX10_reachedFrom.2.1 5 = .ok (.iload_n 3, 1) := by decide +kernel
theorem dX10_reachedFrom_6 : decode mX10_reachedFrom.2.1 6 = .ok (.if_icmp .eq 16, 3) := by decide +kernel
theorem dX10_reachedFrom_9 : decode mX10_reachedFrom.2.1 9 = .ok (.iload_n 2, 1) := by decide +kernel
theorem dX10_reachedFrom_10 : decode mX10_reachedFrom.2.1 10 = .ok (.istore_n 3, 1) := by decide +kernel
theorem dX10_reachedFrom_11 : decode mX10_reachedFrom.2.1 11 = .ok (.iload_n 2, 1) := by decide +kernel
theorem dX10_reachedFrom_12 : decode mX10_reachedFrom.2.1 12 = .ok (.aload_n 0, 1) := by decide +kernel
theorem dX10_reachedFrom_13 : decode mX10_reachedFrom.2.1 13 = .ok (.iload_n 2, 1) := by decide +kernel
theorem dX10_reachedFrom_14 : decode mX10_reachedFrom.2.1 14 = .ok (.invokevirtual 193, 3) := by decide +kernel
theorem dX10_reachedFrom_17 : decode mX10_reachedFrom.2.1 17 = .ok (.ior, 1) := by decide +kernel
theorem dX10_reachedFrom_18 : decode mX10_reachedFrom.2.1 18 = .ok (.istore_n 2, 1) := by decide +kernel
theorem dX10_reachedFrom_19 : decode mX10_reachedFrom.2.1 19 = .ok (.goto (-15), 3) := by decide +kernel
theorem dX10_reachedFrom_22 : decode mX10_reachedFrom.2.1 22 = .ok (.iload_n 2, 1) := by decide +kernel
theorem dX10_reachedFrom_23 : decode mX10_reachedFrom.2.1 23 = .ok (.ireturn, 1) := by decide +kernel
theorem dX10_fateOf_0 : decode mX10_fateOf.2.1 0 = .ok (.aload_n 0, 1) := by decide +kernel
theorem dX10_fateOf_1 : decode mX10_fateOf.2.1 1 = .ok (.getfield 31, 3) := by decide +kernel
theorem dX10_fateOf_4 : decode mX10_fateOf.2.1 4 = .ok (.iload_n 1, 1) := by decide +kernel
theorem dX10_fateOf_5 : decode mX10_fateOf.2.1 5 = .ok (.iaload, 1) := by decide +kernel
theorem dX10_fateOf_6 : decode mX10_fateOf.2.1 6 = .ok (.istore_n 2, 1) := by decide +kernel
theorem dX10_fateOf_7 : decode mX10_fateOf.2.1 7 = .ok (.aload_n 0, 1) := by decide +kernel
theorem dX10_fateOf_8 : decode mX10_fateOf.2.1 8 = .ok (.aload_n 0, 1) := by decide +kernel
theorem dX10_fateOf_9 : decode mX10_fateOf.2.1 9 = .ok (.getfield 40, 3) := by decide +kernel
theorem dX10_fateOf_12 : decode mX10_fateOf.2.1 12 = .ok (.bipush 16, 2) := by decide +kernel
theorem dX10_fateOf_14 : decode mX10_fateOf.2.1 14 = .ok (.iaload, 1) := by decide +kernel
theorem dX10_fateOf_15 : decode mX10_fateOf.2.1 15 = .ok (.invokevirtual 202, 3) := by decide +kernel
theorem dX10_fateOf_18 : decode mX10_fateOf.2.1 18 = .ok (.iload_n 1, 1) := by decide +kernel
theorem dX10_fateOf_19 : decode mX10_fateOf.2.1 19 = .ok (.invokestatic 186, 3) := by decide +kernel
theorem dX10_fateOf_22 : decode mX10_fateOf.2.1 22 = .ok (.ifCond .eq 7, 3) := by decide +kernel
theorem dX10_fateOf_25 : decode mX10_fateOf.2.1 25 = .ok (.iconst 2, 1) := by decide +kernel
theorem dX10_fateOf_26 : decode mX10_fateOf.2.1 26 = .ok (.goto 38, 3) := by decide +kernel
theorem dX10_fateOf_29 : decode mX10_fateOf.2.1 29 = .ok (.aload_n 0, 1) := by decide +kernel
theorem dX10_fateOf_30 : decode mX10_fateOf.2.1 30 = .ok (.aload_n 0, 1) := by decide +kernel
theorem dX10_fateOf_31 : decode mX10_fateOf.2.1 31 = .ok (.getfield 40, 3) := by decide +kernel
theorem dX10_fateOf_34 : decode mX10_fateOf.2.1 34 = .ok (.iconst 4, 1) := by decide +kernel
theorem dX10_fateOf_35 : decode mX10_fateOf.2.1 35 = .ok (.iload_n 2, 1) := by decide +kernel
theorem dX10_fateOf_36 : decode mX10_fateOf.2.1 36 = .ok (.imul, 1) := by decide +kernel
theorem dX10_fateOf_37 : decode mX10_fateOf.2.1 37 = .ok (.iaload, 1) := by decide +kernel
theorem dX10_fateOf_38 : decode mX10_fateOf.2.1 38 = .ok (.aload_n 0, 1) := by decide +kernel
theorem dX10_fateOf_39 : decode mX10_fateOf.2.1 39 = .ok (.getfield 40, 3) := by decide +kernel
theorem dX10_fateOf_42 : decode mX10_fateOf.2.1 42 = .ok (.iconst 4, 1) := by decide +kernel
theorem dX10_fateOf_43 : decode mX10_fateOf.2.1 43 = .ok (.iload_n 2, 1) := by decide +kernel
theorem dX10_fateOf_44 : decode mX10_fateOf.2.1 44 = .ok (.imul, 1) := by decide +kernel
theorem dX10_fateOf_45 : decode mX10_fateOf.2.1 45 = .ok (.iconst 3, 1) := by decide +kernel
theorem dX10_fateOf_46 : decode mX10_fateOf.2.1 46 = .ok (.iadd, 1) := by decide +kernel
theorem dX10_fateOf_47 : decode mX10_fateOf.2.1 47 = .ok (.iaload, 1) := by decide +kernel
theorem dX10_fateOf_48 : decode mX10_fateOf.2.1 48 = .ok (.ior, 1) := by decide +kernel
theorem dX10_fateOf_49 : decode mX10_fateOf.2.1 49 = .ok (.invokevirtual 202, 3) := by decide +kernel
theorem dX10_fateOf_52 : decode mX10_fateOf.2.1 52 = .ok (.iload_n 1, 1) := by decide +kernel
theorem dX10_fateOf_53 : decode mX10_fateOf.2.1 53 = .ok (.invokestatic 186, 3) := by decide +kernel
theorem dX10_fateOf_56 : decode mX10_fateOf.2.1 56 = .ok (.ifCond .eq 7, 3) := by decide +kernel
theorem dX10_fateOf_59 : decode mX10_fateOf.2.1 59 = .ok (.iconst 1, 1) := by decide +kernel
theorem dX10_fateOf_60 : decode mX10_fateOf.2.1 60 = .ok (.goto 4, 3) := by decide +kernel
theorem dX10_fateOf_63 : decode mX10_fateOf.2.1 63 = .ok (.iconst 0, 1) := by decide +kernel
theorem dX10_fateOf_64 : decode mX10_fateOf.2.1 64 = .ok (.ireturn, 1) := by decide +kernel
theorem dX10_fated_0 : decode mX10_fated.2.1 0 = .ok (.iconst 0, 1) := by decide +kernel
theorem dX10_fated_1 : decode mX10_fated.2.1 1 = .ok (.istore_n 2, 1) := by decide +kernel
theorem dX10_fated_2 : decode mX10_fated.2.1 2 = .ok (.iconst 0, 1) := by decide +kernel
theorem dX10_fated_3 : decode mX10_fated.2.1 3 = .ok (.istore_n 3, 1) := by decide +kernel
theorem dX10_fated_4 : decode mX10_fated.2.1 4 = .ok (.iload_n 3, 1) := by decide +kernel
theorem dX10_fated_5 : decode mX10_fated.2.1 5 = .ok (.aload_n 0, 1) := by decide +kernel
theorem dX10_fated_6 : decode mX10_fated.2.1 6 = .ok (.getfield 175, 3) := by decide +kernel
theorem dX10_fated_9 : decode mX10_fated.2.1 9 = .ok (.if_icmp .ge 28, 3) := by decide +kernel
theorem dX10_fated_12 : decode mX10_fated.2.1 12 = .ok (.iload_n 2, 1) := by decide +kernel
theorem dX10_fated_13 : decode mX10_fated.2.1 13 = .ok (.aload_n 0, 1) := by decide +kernel
theorem dX10_fated_14 : decode mX10_fated.2.1 14 = .ok (.iload_n 3, 1) := by decide +kernel
theorem dX10_fated_15 : decode mX10_fated.2.1 15 = .ok (.invokevirtual 205, 3) := by decide +kernel
theorem dX10_fated_18 : decode mX10_fated.2.1 18 = .ok (.iload_n 1, 1) := by decide +kernel
theorem dX10_fated_19 : decode mX10_fated.2.1 19 = .ok (.if_icmp .ne 9, 3) := by decide +kernel
theorem dX10_fated_22 : decode mX10_fated.2.1 22 = .ok (.iconst 1, 1) := by decide +kernel
theorem dX10_fated_23 : decode mX10_fated.2.1 23 = .ok (.iload_n 3, 1) := by decide +kernel
theorem dX10_fated_24 : decode mX10_fated.2.1 24 = .ok (.ishl, 1) := by decide +kernel
theorem dX10_fated_25 : decode mX10_fated.2.1 25 = .ok (.goto 4, 3) := by decide +kernel
theorem dX10_fated_28 : decode mX10_fated.2.1 28 = .ok (.iconst 0, 1) := by decide +kernel
theorem dX10_fated_29 : decode mX10_fated.2.1 29 = .ok (.ior, 1) := by decide +kernel
theorem dX10_fated_30 : decode mX10_fated.2.1 30 = .ok (.istore_n 2, 1) := by decide +kernel
theorem dX10_fated_31 : decode mX10_fated.2.1 31 = .ok (.iinc 3 1, 3) := by decide +kernel
theorem dX10_fated_34 : decode mX10_fated.2.1 34 = .ok (.goto (-30), 3) := by decide +kernel
theorem dX10_fated_37 : decode mX10_fated.2.1 37 = .ok (.iload_n 2, 1) := by decide +kernel
theorem dX10_fated_38 : decode mX10_fated.2.1 38 = .ok (.ireturn, 1) := by decide +kernel
theorem dX10_idleOf_0 : decode mX10_idleOf.2.1 0 = .ok (.aload_n 0, 1) := by decide +kernel
theorem dX10_idleOf_1 : decode mX10_idleOf.2.1 1 = .ok (.iconst 0, 1) := by decide +kernel
theorem dX10_idleOf_2 : decode mX10_idleOf.2.1 2 = .ok (.invokevirtual 208, 3) := by decide +kernel
theorem dX10_idleOf_5 : decode mX10_idleOf.2.1 5 = .ok (.istore_n 2, 1) := by decide +kernel
theorem dX10_idleOf_6 : decode mX10_idleOf.2.1 6 = .ok (.iconst 0, 1) := by decide +kernel
theorem dX10_idleOf_7 : decode mX10_idleOf.2.1 7 = .ok (.istore_n 3, 1) := by decide +kernel
theorem dX10_idleOf_8 : decode mX10_idleOf.2.1 8 = .ok (.iconst 0, 1) := by decide +kernel
theorem dX10_idleOf_9 : decode mX10_idleOf.2.1 9 = .ok (.istore 4, 2) := by decide +kernel
theorem dX10_idleOf_11 : decode mX10_idleOf.2.1 11 = .ok (.iload 4, 2) := by decide +kernel
theorem dX10_idleOf_13 : decode mX10_idleOf.2.1 13 = .ok (.aload_n 0, 1) := by decide +kernel
theorem dX10_idleOf_14 : decode mX10_idleOf.2.1 14 = .ok (.iload_n 1, 1) := by decide +kernel
theorem dX10_idleOf_15 : decode mX10_idleOf.2.1 15 = .ok (.invokevirtual 168, 3) := by decide +kernel
theorem dX10_idleOf_18 : decode mX10_idleOf.2.1 18 = .ok (.if_icmp .ge 83, 3) := by decide +kernel
theorem dX10_idleOf_21 : decode mX10_idleOf.2.1 21 = .ok (.aload_n 0, 1) := by decide +kernel
theorem dX10_idleOf_22 : decode mX10_idleOf.2.1 22 = .ok (.getfield 40, 3) := by decide +kernel
theorem dX10_idleOf_25 : decode mX10_idleOf.2.1 25 = .ok (.iconst 4, 1) := by decide +kernel
theorem dX10_idleOf_26 : decode mX10_idleOf.2.1 26 = .ok (.iload_n 1, 1) := by decide +kernel
theorem dX10_idleOf_27 : decode mX10_idleOf.2.1 27 = .ok (.imul, 1) := by decide +kernel
theorem dX10_idleOf_28 : decode mX10_idleOf.2.1 28 = .ok (.aload_n 0, 1) := by decide +kernel
theorem dX10_idleOf_29 : decode mX10_idleOf.2.1 29 = .ok (.iload_n 1, 1) := by decide +kernel
theorem dX10_idleOf_30 : decode mX10_idleOf.2.1 30 = .ok (.iload 4, 2) := by decide +kernel
theorem dX10_idleOf_32 : decode mX10_idleOf.2.1 32 = .ok (.iconst 0, 1) := by decide +kernel
theorem dX10_idleOf_33 : decode mX10_idleOf.2.1 33 = .ok (.invokevirtual 178, 3) := by decide +kernel
theorem dX10_idleOf_36 : decode mX10_idleOf.2.1 36 = .ok (.bipush 6, 2) := by decide +kernel
theorem dX10_idleOf_38 : decode mX10_idleOf.2.1 38 = .ok (.if_icmp .ne 14, 3) := by decide +kernel
theorem dX10_idleOf_41 : decode mX10_idleOf.2.1 41 = .ok (.aload_n 0, 1) := by decide +kernel
theorem dX10_idleOf_42 : decode mX10_idleOf.2.1 42 = .ok (.iload_n 1, 1) := by decide +kernel
theorem dX10_idleOf_43 : decode mX10_idleOf.2.1 43 = .ok (.iload 4, 2) := by decide +kernel
theorem dX10_idleOf_45 : decode mX10_idleOf.2.1 45 = .ok (.iconst 1, 1) := by decide +kernel
theorem dX10_idleOf_46 : decode mX10_idleOf.2.1 46 = .ok (.invokevirtual 178, 3) := by decide +kernel
theorem dX10_idleOf_49 : decode mX10_idleOf.2.1 49 = .ok (.goto 4, 3) := by decide +kernel
theorem dX10_idleOf_52 : decode mX10_idleOf.2.1 52 = .ok (.iconst 0, 1) := by decide +kernel
theorem dX10_idleOf_53 : decode mX10_idleOf.2.1 53 = .ok (.iadd, 1) := by decide +kernel
theorem dX10_idleOf_54 : decode mX10_idleOf.2.1 54 = .ok (.iaload, 1) := by decide +kernel
theorem dX10_idleOf_55 : decode mX10_idleOf.2.1 55 = .ok (.istore 5, 2) := by decide +kernel
theorem dX10_idleOf_57 : decode mX10_idleOf.2.1 57 = .ok (.iload_n 3, 1) := by decide +kernel
theorem dX10_idleOf_58 : decode mX10_idleOf.2.1 58 = .ok (.aload_n 0, 1) := by decide +kernel
theorem dX10_idleOf_59 : decode mX10_idleOf.2.1 59 = .ok (.iload_n 1, 1) := by decide +kernel
theorem dX10_idleOf_60 : decode mX10_idleOf.2.1 60 = .ok (.iload 4, 2) := by decide +kernel
theorem dX10_idleOf_62 : decode mX10_idleOf.2.1 62 = .ok (.iconst 0, 1) := by decide +kernel
theorem dX10_idleOf_63 : decode mX10_idleOf.2.1 63 = .ok (.invokevirtual 178, 3) := by decide +kernel
theorem dX10_idleOf_66 : decode mX10_idleOf.2.1 66 = .ok (.bipush 6, 2) := by decide +kernel
theorem dX10_idleOf_68 : decode mX10_idleOf.2.1 68 = .ok (.if_icmp .ne 24, 3) := by decide +kernel
theorem dX10_idleOf_71 : decode mX10_idleOf.2.1 71 = .ok (.iload 5, 2) := by decide +kernel
theorem dX10_idleOf_73 : decode mX10_idleOf.2.1 73 = .ok (.ifCond .eq 19, 3) := by decide +kernel
theorem dX10_idleOf_76 : decode mX10_idleOf.2.1 76 = .ok (.iload 5, 2) := by decide +kernel
theorem dX10_idleOf_78 : decode mX10_idleOf.2.1 78 = .ok (.iload_n 2, 1) := by decide +kernel
theorem dX10_idleOf_79 : decode mX10_idleOf.2.1 79 = .ok (.iconst (-1), 1) := by decide +kernel
theorem dX10_idleOf_80 : decode mX10_idleOf.2.1 80 = .ok (.ixor, 1) := by decide +kernel
theorem dX10_idleOf_81 : decode mX10_idleOf.2.1 81 = .ok (.iand, 1) := by decide +kernel
theorem dX10_idleOf_82 : decode mX10_idleOf.2.1 82 = .ok (.ifCond .ne 10, 3) := by decide +kernel
theorem dX10_idleOf_85 : decode mX10_idleOf.2.1 85 = .ok (.iconst 1, 1) := by decide +kernel
theorem dX10_idleOf_86 : decode mX10_idleOf.2.1 86 = .ok (.iload 4, 2) := by decide +kernel
theorem dX10_idleOf_88 : decode mX10_idleOf.2.1 88 = .ok (.ishl, 1) := by decide +kernel
theorem dX10_idleOf_89 : decode mX10_idleOf.2.1 89 = .ok (.goto 4, 3) := by decide +kernel
theorem dX10_idleOf_92 : decode mX10_idleOf.2.1 92 = .ok (.iconst 0, 1) := by decide +kernel
theorem dX10_idleOf_93 : decode mX10_idleOf.2.1 93 = .ok (.ior, 1) := by decide +kernel
theorem dX10_idleOf_94 : decode mX10_idleOf.2.1 94 = .ok (.istore_n 3, 1) := by decide +kernel
theorem dX10_idleOf_95 : decode mX10_idleOf.2.1 95 = .ok (.iinc 4 1, 3) := by decide +kernel
theorem dX10_idleOf_98 : decode mX10_idleOf.2.1 98 = .ok (.goto (-87), 3) := by decide +kernel
theorem dX10_idleOf_101 : decode mX10_idleOf.2.1 101 = .ok (.iload_n 3, 1) := by decide +kernel
theorem dX10_idleOf_102 : decode mX10_idleOf.2.1 102 = .ok (.ireturn, 1) := by decide +kernel
theorem dX10_ones_0 : decode mX10_ones.2.1 0 = .ok (.iconst 0, 1) := by decide +kernel
theorem dX10_ones_1 : decode mX10_ones.2.1 1 = .ok (.istore_n 1, 1) := by decide +kernel
theorem dX10_ones_2 : decode mX10_ones.2.1 2 = .ok (.iconst 0, 1) := by decide +kernel
theorem dX10_ones_3 : decode mX10_ones.2.1 3 = .ok (.istore_n 2, 1) := by decide +kernel
theorem dX10_ones_4 : decode mX10_ones.2.1 4 = .ok (.iload_n 2, 1) := by decide +kernel
theorem dX10_ones_5 : decode mX10_ones.2.1 5 = .ok (.bipush 32, 2) := by decide +kernel
theorem dX10_ones_7 : decode mX10_ones.2.1 7 = .ok (.if_icmp .ge 17, 3) := by decide +kernel
theorem dX10_ones_10 : decode mX10_ones.2.1 10 = .ok (.iload_n 1, 1) := by decide +kernel
theorem dX10_ones_11 : decode mX10_ones.2.1 11 = .ok (.iload_n 0, 1) := by decide +kernel
theorem dX10_ones_12 : decode mX10_ones.2.1 12 = .ok (.iload_n 2, 1) := by decide +kernel
theorem dX10_ones_13 : decode mX10_ones.2.1 13 = .ok (.ishr, 1) := by decide +kernel
theorem dX10_ones_14 : decode mX10_ones.2.1 14 = .ok (.iconst 1, 1) := by decide +kernel
theorem dX10_ones_15 : decode mX10_ones.2.1 15 = .ok (.iand, 1) := by decide +kernel
theorem dX10_ones_16 : decode mX10_ones.2.1 16 = .ok (.iadd, 1) := by decide +kernel
theorem dX10_ones_17 : decode mX10_ones.2.1 17 = .ok (.istore_n 1, 1) := by decide +kernel
theorem dX10_ones_18 : decode mX10_ones.2.1 18 = .ok (.iinc 2 1, 3) := by decide +kernel
theorem dX10_ones_21 : decode mX10_ones.2.1 21 = .ok (.goto (-17), 3) := by decide +kernel
theorem dX10_ones_24 : decode mX10_ones.2.1 24 = .ok (.iload_n 1, 1) := by decide +kernel
theorem dX10_ones_25 : decode mX10_ones.2.1 25 = .ok (.ireturn, 1) := by decide +kernel
theorem dX10_ofMethod_0 : decode mX10_ofMethod.2.1 0 = .ok (.iload_n 2, 1) := by decide +kernel
theorem dX10_ofMethod_1 : decode mX10_ofMethod.2.1 1 = .ok (.ifCond .ne 9, 3) := by decide +kernel
theorem dX10_ofMethod_4 : decode mX10_ofMethod.2.1 4 = .ok (.aload_n 0, 1) := by decide +kernel
theorem dX10_ofMethod_5 : decode mX10_ofMethod.2.1 5 = .ok (.iload_n 1, 1) := by decide +kernel
theorem dX10_ofMethod_6 : decode mX10_ofMethod.2.1 6 = .ok (.invokevirtual 168, 3) := by decide +kernel
theorem dX10_ofMethod_9 : decode mX10_ofMethod.2.1 9 = .ok (.ireturn, 1) := by decide +kernel
theorem dX10_ofMethod_10 : decode mX10_ofMethod.2.1 10 = .ok (.iload_n 2, 1) := by decide +kernel
theorem dX10_ofMethod_11 : decode mX10_ofMethod.2.1 11 = .ok (.iconst 3, 1) := by decide +kernel
theorem dX10_ofMethod_12 : decode mX10_ofMethod.2.1 12 = .ok (.if_icmp .ne 9, 3) := by decide +kernel
theorem dX10_ofMethod_15 : decode mX10_ofMethod.2.1 15 = .ok (.aload_n 0, 1) := by decide +kernel
theorem dX10_ofMethod_16 : decode mX10_ofMethod.2.1 16 = .ok (.iload_n 1, 1) := by decide +kernel
theorem dX10_ofMethod_17 : decode mX10_ofMethod.2.1 17 = .ok (.invokevirtual 211, 3) := by decide +kernel
theorem dX10_ofMethod_20 : decode mX10_ofMethod.2.1 20 = .ok (.ireturn, 1) := by decide +kernel
theorem dX10_ofMethod_21 : decode mX10_ofMethod.2.1 21 = .ok (.iconst 0, 1) := by decide +kernel
theorem dX10_ofMethod_22 : decode mX10_ofMethod.2.1 22 = .ok (.istore_n 3, 1) := by decide +kernel
theorem dX10_ofMethod_23 : decode mX10_ofMethod.2.1 23 = .ok (.iconst 0, 1) := by decide +kernel
theorem dX10_ofMethod_24 : decode mX10_ofMethod.2.1 24 = .ok (.istore 4, 2) := by decide +kernel
theorem dX10_ofMethod_26 : decode mX10_ofMethod.2.1 26 = .ok (.iconst 0, 1) := by decide +kernel
theorem dX10_ofMethod_27 : decode mX10_ofMethod.2.1 27 = .ok (.istore 5, 2) := by decide +kernel
theorem dX10_ofMethod_29 : decode mX10_ofMethod.2.1 29 = .ok (.iload 5, 2) := by decide +kernel
theorem dX10_ofMethod_31 : decode mX10_ofMethod.2.1 31 = .ok (.aload_n 0, 1) := by decide +kernel
theorem dX10_ofMethod_32 : decode mX10_ofMethod.2.1 32 = .ok (.getfield 175, 3) := by decide +kernel
theorem dX10_ofMethod_35 : decode mX10_ofMethod.2.1 35 = .ok (.if_icmp .ge 42, 3) := by decide +kernel
theorem dX10_ofMethod_38 : decode mX10_ofMethod.2.1 38 = .ok (.iload_n 3, 1) := by decide +kernel
theorem dX10_ofMethod_39 : decode mX10_ofMethod.2.1 39 = .ok (.aload_n 0, 1) := by decide +kernel
theorem dX10_ofMethod_40 : decode mX10_ofMethod.2.1 40 = .ok (.getfield 31, 3) := by decide +kernel
theorem dX10_ofMethod_43 : decode mX10_ofMethod.2.1 43 = .ok (.iload 5, 2) := by decide +kernel
theorem dX10_ofMethod_45 : decode mX10_ofMethod.2.1 45 = .ok (.iaload, 1) := by decide +kernel
theorem dX10_ofMethod_46 : decode mX10_ofMethod.2.1 46 = .ok (.iload_n 1, 1) := by decide +kernel
theorem dX10_ofMethod_47 : decode mX10_ofMethod.2.1 47 = .ok (.if_icmp .ne 21, 3) := by decide +kernel
theorem dX10_ofMethod_50 : decode mX10_ofMethod.2.1 50 = .ok (.iload_n 2, 1) := by decide +kernel
theorem dX10_ofMethod_51 : decode mX10_ofMethod.2.1 51 = .ok (.iconst 1, 1) := by decide +kernel
theorem dX10_ofMethod_52 : decode mX10_ofMethod.2.1 52 = .ok (.if_icmp .eq 12, 3) := by decide +kernel
theorem dX10_ofMethod_55 : decode mX10_ofMethod.2.1 55 = .ok (.aload_n 0, 1) := by decide +kernel
theorem dX10_ofMethod_56 : decode mX10_ofMethod.2.1 56 = .ok (.iload 5, 2) := by decide +kernel
theorem dX10_ofMethod_58 : decode mX10_ofMethod.2.1 58 = .ok (.invokevirtual 205, 3) := by decide +kernel
theorem dX10_ofMethod_61 : decode mX10_ofMethod.2.1 61 = .ok (.ifCond .ne 7, 3) := by decide +kernel
theorem dX10_ofMethod_64 : decode mX10_ofMethod.2.1 64 = .ok (.iconst 1, 1) := by decide +kernel
theorem dX10_ofMethod_65 : decode mX10_ofMethod.2.1 65 = .ok (.goto 4, 3) := by decide +kernel
theorem dX10_ofMethod_68 : decode mX10_ofMethod.2.1 68 = .ok (.iconst 0, 1) := by decide +kernel
theorem dX10_ofMethod_69 : decode mX10_ofMethod.2.1 69 = .ok (.iadd, 1) := by decide +kernel
theorem dX10_ofMethod_70 : decode mX10_ofMethod.2.1 70 = .ok (.istore_n 3, 1) := by decide +kernel
theorem dX10_ofMethod_71 : decode mX10_ofMethod.2.1 71 = .ok (.iinc 5 1, 3) := by decide +kernel
theorem dX10_ofMethod_74 : decode mX10_ofMethod.2.1 74 = .ok (.goto (-45), 3) := by decide +kernel
theorem dX10_ofMethod_77 : decode mX10_ofMethod.2.1 77 = .ok (.iconst 0, 1) := by decide +kernel
theorem dX10_ofMethod_78 : decode mX10_ofMethod.2.1 78 = .ok (.istore 5, 2) := by decide +kernel
theorem dX10_ofMethod_80 : decode mX10_ofMethod.2.1 80 = .ok (.iload 5, 2) := by decide +kernel
theorem dX10_ofMethod_82 : decode mX10_ofMethod.2.1 82 = .ok (.aload_n 0, 1) := by decide +kernel
theorem dX10_ofMethod_83 : decode mX10_ofMethod.2.1 83 = .ok (.iload_n 1, 1) := by decide +kernel
theorem dX10_ofMethod_84 : decode mX10_ofMethod.2.1 84 = .ok (.invokevirtual 168, 3) := by decide +kernel
theorem dX10_ofMethod_87 : decode mX10_ofMethod.2.1 87 = .ok (.if_icmp .ge 41, 3) := by decide +kernel
theorem dX10_ofMethod_90 : decode mX10_ofMethod.2.1 90 = .ok (.iload 4, 2) := by decide +kernel
theorem dX10_ofMethod_92 : decode mX10_ofMethod.2.1 92 = .ok (.aload_n 0, 1) := by decide +kernel
theorem dX10_ofMethod_93 : decode mX10_ofMethod.2.1 93 = .ok (.iload_n 1, 1) := by decide +kernel
theorem dX10_ofMethod_94 : decode mX10_ofMethod.2.1 94 = .ok (.iload 5, 2) := by decide +kernel
theorem dX10_ofMethod_96 : decode mX10_ofMethod.2.1 96 = .ok (.iconst 0, 1) := by decide +kernel
theorem dX10_ofMethod_97 : decode mX10_ofMethod.2.1 97 = .ok (.invokevirtual 178, 3) := by decide +kernel
theorem dX10_ofMethod_100 : decode mX10_ofMethod.2.1 100 = .ok (.bipush 7, 2) := by decide +kernel
theorem dX10_ofMethod_102 : decode mX10_ofMethod.2.1 102 = .ok (.if_icmp .ne 16, 3) := by decide +kernel
theorem dX10_ofMethod_105 : decode mX10_ofMethod.2.1 105 = .ok (.iconst 1, 1) := by decide +kernel
theorem dX10_ofMethod_106 : decode mX10_ofMethod.2.1 106 = .ok (.aload_n 0, 1) := by decide +kernel
theorem dX10_ofMethod_107 : decode mX10_ofMethod.2.1 107 = .ok (.iload_n 1, 1) := by decide +kernel
theorem dX10_ofMethod_108 : decode mX10_ofMethod.2.1 108 = .ok (.iload 5, 2) := by decide +kernel
theorem dX10_ofMethod_110 : decode mX10_ofMethod.2.1 110 = .ok (.iconst 3, 1) := by decide +kernel
theorem dX10_ofMethod_111 : decode mX10_ofMethod.2.1 111 = .ok (.invokevirtual 178, 3) := by decide +kernel
theorem dX10_ofMethod_114 : decode mX10_ofMethod.2.1 114 = .ok (.ishl, 1) := by decide +kernel
theorem dX10_ofMethod_115 : decode mX10_ofMethod.2.1 115 = .ok (.goto 4, 3) := by decide +kernel
theorem dX10_ofMethod_118 : decode mX10_ofMethod.2.1 118 = .ok (.iconst 0, 1) := by decide +kernel
theorem dX10_ofMethod_119 : decode mX10_ofMethod.2.1 119 = .ok (.ior, 1) := by decide +kernel
theorem dX10_ofMethod_120 : decode mX10_ofMethod.2.1 120 = .ok (.istore 4, 2) := by decide +kernel
theorem dX10_ofMethod_122 : decode mX10_ofMethod.2.1 122 = .ok (.iinc 5 1, 3) := by decide +kernel
theorem dX10_ofMethod_125 : decode mX10_ofMethod.2.1 125 = .ok (.goto (-45), 3) := by decide +kernel
theorem dX10_ofMethod_128 : decode mX10_ofMethod.2.1 128 = .ok (.iload_n 2, 1) := by decide +kernel
theorem dX10_ofMethod_129 : decode mX10_ofMethod.2.1 129 = .ok (.iconst 4, 1) := by decide +kernel
theorem dX10_ofMethod_130 : decode mX10_ofMethod.2.1 130 = .ok (.if_icmp .ne 8, 3) := by decide +kernel
theorem dX10_ofMethod_133 : decode mX10_ofMethod.2.1 133 = .ok (.iload 4, 2) := by decide +kernel
theorem dX10_ofMethod_135 : decode mX10_ofMethod.2.1 135 = .ok (.goto 4, 3) := by decide +kernel
theorem dX10_ofMethod_138 : decode mX10_ofMethod.2.1 138 = .ok (.iload_n 3, 1) := by decide +kernel
theorem dX10_ofMethod_139 : decode mX10_ofMethod.2.1 139 = .ok (.ireturn, 1) := by decide +kernel
theorem dX10_of_0 : decode mX10_of.2.1 0 = .ok (.aload_n 0, 1) := by decide +kernel
theorem dX10_of_1 : decode mX10_of.2.1 1 = .ok (.iload_n 1, 1) := by decide +kernel
theorem dX10_of_2 : decode mX10_of.2.1 2 = .ok (.invokevirtual 165, 3) := by decide +kernel
theorem dX10_of_5 : decode mX10_of.2.1 5 = .ok (.ifCond .eq 12, 3) := by decide +kernel
theorem dX10_of_8 : decode mX10_of.2.1 8 = .ok (.iload_n 2, 1) := by decide +kernel
theorem dX10_of_9 : decode mX10_of.2.1 9 = .ok (.iconst 0, 1) := by decide +kernel
theorem dX10_of_10 : decode mX10_of.2.1 10 = .ok (.iconst 4, 1) := by decide +kernel
theorem dX10_of_11 : decode mX10_of.2.1 11 = .ok (.invokestatic 99, 3) := by decide +kernel
theorem dX10_of_14 : decode mX10_of.2.1 14 = .ok (.ifCond .ne 10, 3) := by decide +kernel
theorem dX10_of_17 : decode mX10_of.2.1 17 = .ok (.aload_n 0, 1) := by decide +kernel
theorem dX10_of_18 : decode mX10_of.2.1 18 = .ok (.bipush (-2), 2) := by decide +kernel
theorem dX10_of_20 : decode mX10_of.2.1 20 = .ok (.invokevirtual 156, 3) := by decide +kernel
theorem dX10_of_23 : decode mX10_of.2.1 23 = .ok (.ireturn, 1) := by decide +kernel
theorem dX10_of_24 : decode mX10_of.2.1 24 = .ok (.aload_n 0, 1) := by decide +kernel
theorem dX10_of_25 : decode mX10_of.2.1 25 = .ok (.invokevirtual 214, 3) := by decide +kernel
theorem dX10_of_28 : decode mX10_of.2.1 28 = .ok (.aload_n 0, 1) := by decide +kernel
theorem dX10_of_29 : decode mX10_of.2.1 29 = .ok (.iload_n 1, 1) := by decide +kernel
theorem dX10_of_30 : decode mX10_of.2.1 30 = .ok (.iload_n 2, 1) := by decide +kernel
theorem dX10_of_31 : decode mX10_of.2.1 31 = .ok (.invokevirtual 217, 3) := by decide +kernel
theorem dX10_of_34 : decode mX10_of.2.1 34 = .ok (.ireturn, 1) := by decide +kernel
theorem dX10_ofLine_0 : decode mX10_ofLine.2.1 0 = .ok (.iload_n 3, 1) := by decide +kernel
theorem dX10_ofLine_1 : decode mX10_ofLine.2.1 1 = .ok (.iconst 4, 1) := by decide +kernel
theorem dX10_ofLine_2 : decode mX10_ofLine.2.1 2 = .ok (.if_icmp .ne 15, 3) := by decide +kernel
theorem dX10_ofLine_5 : decode mX10_ofLine.2.1 5 = .ok (.aload_n 0, 1) := by decide +kernel
theorem dX10_ofLine_6 : decode mX10_ofLine.2.1 6 = .ok (.getfield 37, 3) := by decide +kernel
theorem dX10_ofLine_9 : decode mX10_ofLine.2.1 9 = .ok (.bipush 8, 2) := by decide +kernel
theorem dX10_ofLine_11 : decode mX10_ofLine.2.1 11 = .ok (.iload_n 1, 1) := by decide +kernel
theorem dX10_ofLine_12 : decode mX10_ofLine.2.1 12 = .ok (.imul, 1) := by decide +kernel
theorem dX10_ofLine_13 : decode mX10_ofLine.2.1 13 = .ok (.iload_n 2, 1) := by decide +kernel
theorem dX10_ofLine_14 : decode mX10_ofLine.2.1 14 = .ok (.iadd, 1) := by decide +kernel
theorem dX10_ofLine_15 : decode mX10_ofLine.2.1 15 = .ok (.iaload, 1) := by decide +kernel
theorem dX10_ofLine_16 : decode mX10_ofLine.2.1 16 = .ok (.ireturn, 1) := by decide +kernel
theorem dX10_ofLine_17 : decode mX10_ofLine.2.1 17 = .ok (.aload_n 0, 1) := by decide +kernel
theorem dX10_ofLine_18 : decode mX10_ofLine.2.1 18 = .ok (.iload_n 1, 1) := by decide +kernel
theorem dX10_ofLine_19 : decode mX10_ofLine.2.1 19 = .ok (.iload_n 2, 1) := by decide +kernel
theorem dX10_ofLine_20 : decode mX10_ofLine.2.1 20 = .ok (.iconst 0, 1) := by decide +kernel
theorem dX10_ofLine_21 : decode mX10_ofLine.2.1 21 = .ok (.invokevirtual 178, 3) := by decide +kernel
theorem dX10_ofLine_24 : decode mX10_ofLine.2.1 24 = .ok (.istore 4, 2) := by decide +kernel
theorem dX10_ofLine_26 : decode mX10_ofLine.2.1 26 = .ok (.iload_n 3, 1) := by decide +kernel
theorem dX10_ofLine_27 : decode mX10_ofLine.2.1 27 = .ok (.iconst 2, 1) := by decide +kernel
theorem dX10_ofLine_28 : decode mX10_ofLine.2.1 28 = .ok (.if_icmp .ne 21, 3) := by decide +kernel
theorem dX10_ofLine_31 : decode mX10_ofLine.2.1 31 = .ok (.iload 4, 2) := by decide +kernel
theorem dX10_ofLine_33 : decode mX10_ofLine.2.1 33 = .ok (.ifCond .eq 28, 3) := by decide +kernel
theorem dX10_ofLine_36 : decode mX10_ofLine.2.1 36 = .ok (.iload 4, 2) := by decide +kernel
theorem dX10_ofLine_38 : decode mX10_ofLine.2.1 38 = .ok (.iconst 3, 1) := by decide +kernel
theorem dX10_ofLine_39 : decode mX10_ofLine.2.1 39 = .ok (.if_icmp .le 10, 3) := by decide +kernel
theorem dX10_ofLine_42 : decode mX10_ofLine.2.1 42 = .ok (.iload 4, 2) := by decide +kernel
theorem dX10_ofLine_44 : decode mX10_ofLine.2.1 44 = .ok (.bipush 7, 2) := by decide +kernel
theorem dX10_ofLine_46 : decode mX10_ofLine.2.1 46 = .ok (.if_icmp .lt 15, 3) := by decide +kernel
theorem dX10_ofLine_49 : decode mX10_ofLine.2.1 49 = .ok (.iload_n 3, 1) := by decide +kernel
theorem dX10_ofLine_50 : decode mX10_ofLine.2.1 50 = .ok (.iconst 3, 1) := by decide +kernel
theorem dX10_ofLine_51 : decode mX10_ofLine.2.1 51 = .ok (.if_icmp .ne 14, 3) := by decide +kernel
theorem dX10_ofLine_54 : decode mX10_ofLine.2.1 54 = .ok (.iload 4, 2) := by decide +kernel
theorem dX10_ofLine_56 : decode mX10_ofLine.2.1 56 = .ok (.bipush 7, 2) := by decide +kernel
theorem dX10_ofLine_58 : decode mX10_ofLine.2.1 58 = .ok (.if_icmp .eq 7, 3) := by decide +kernel
theorem dX10_ofLine_61 : decode mX10_ofLine.2.1 61 = .ok (.iconst 1, 1) := by decide +kernel
theorem dX10_ofLine_62 : decode mX10_ofLine.2.1 62 = .ok (.goto 4, 3) := by decide +kernel
theorem dX10_ofLine_65 : decode mX10_ofLine.2.1 65 = .ok (.iconst 0, 1) := by decide +kernel
theorem dX10_ofLine_66 : decode mX10_ofLine.2.1 66 = .ok (.istore 5, 2) := by decide +kernel
theorem dX10_ofLine_68 : decode mX10_ofLine.2.1 68 = .ok (.iload 5, 2) := by decide +kernel
theorem dX10_ofLine_70 : decode mX10_ofLine.2.1 70 = .ok (.ifCond .eq 7, 3) := by decide +kernel
theorem dX10_ofLine_73 : decode mX10_ofLine.2.1 73 = .ok (.iconst (-1), 1) := by decide +kernel
theorem dX10_ofLine_74 : decode mX10_ofLine.2.1 74 = .ok (.goto 10, 3) := by decide +kernel
theorem dX10_ofLine_77 : decode mX10_ofLine.2.1 77 = .ok (.aload_n 0, 1) := by decide +kernel
theorem dX10_ofLine_78 : decode mX10_ofLine.2.1 78 = .ok (.iload_n 1, 1) := by decide +kernel
theorem dX10_ofLine_79 : decode mX10_ofLine.2.1 79 = .ok (.iload_n 2, 1) := by decide +kernel
theorem dX10_ofLine_80 : decode mX10_ofLine.2.1 80 = .ok (.iload_n 3, 1) := by decide +kernel
theorem dX10_ofLine_81 : decode mX10_ofLine.2.1 81 = .ok (.invokevirtual 178, 3) := by decide +kernel
theorem dX10_ofLine_84 : decode mX10_ofLine.2.1 84 = .ok (.ireturn, 1) := by decide +kernel
theorem dX10_line_0 : decode mX10_line.2.1 0 = .ok (.aload_n 0, 1) := by decide +kernel
theorem dX10_line_1 : decode mX10_line.2.1 1 = .ok (.iload_n 1, 1) := by decide +kernel
theorem dX10_line_2 : decode mX10_line.2.1 2 = .ok (.iload_n 2, 1) := by decide +kernel
theorem dX10_line_3 : decode mX10_line.2.1 3 = .ok (.invokevirtual 171, 3) := by decide +kernel
theorem dX10_line_6 : decode mX10_line.2.1 6 = .ok (.ifCond .eq 12, 3) := by decide +kernel
theorem dX10_line_9 : decode mX10_line.2.1 9 = .ok (.iload_n 3, 1) := by decide +kernel
theorem dX10_line_10 : decode mX10_line.2.1 10 = .ok (.iconst 0, 1) := by decide +kernel
theorem dX10_line_11 : decode mX10_line.2.1 11 = .ok (.iconst 4, 1) := by decide +kernel
theorem dX10_line_12 : decode mX10_line.2.1 12 = .ok (.invokestatic 99, 3) := by decide +kernel
theorem dX10_line_15 : decode mX10_line.2.1 15 = .ok (.ifCond .ne 10, 3) := by decide +kernel
theorem dX10_line_18 : decode mX10_line.2.1 18 = .ok (.aload_n 0, 1) := by decide +kernel
theorem dX10_line_19 : decode mX10_line.2.1 19 = .ok (.bipush (-2), 2) := by decide +kernel
theorem dX10_line_21 : decode mX10_line.2.1 21 = .ok (.invokevirtual 156, 3) := by decide +kernel
theorem dX10_line_24 : decode mX10_line.2.1 24 = .ok (.ireturn, 1) := by decide +kernel
theorem dX10_line_25 : decode mX10_line.2.1 25 = .ok (.aload_n 0, 1) := by decide +kernel
theorem dX10_line_26 : decode mX10_line.2.1 26 = .ok (.invokevirtual 196, 3) := by decide +kernel
theorem dX10_line_29 : decode mX10_line.2.1 29 = .ok (.aload_n 0, 1) := by decide +kernel
theorem dX10_line_30 : decode mX10_line.2.1 30 = .ok (.iload_n 1, 1) := by decide +kernel
theorem dX10_line_31 : decode mX10_line.2.1 31 = .ok (.iload_n 2, 1) := by decide +kernel
theorem dX10_line_32 : decode mX10_line.2.1 32 = .ok (.iload_n 3, 1) := by decide +kernel
theorem dX10_line_33 : decode mX10_line.2.1 33 = .ok (.invokevirtual 221, 3) := by decide +kernel
theorem dX10_line_36 : decode mX10_line.2.1 36 = .ok (.ireturn, 1) := by decide +kernel
theorem dX10_ofSite_0 : decode mX10_ofSite.2.1 0 = .ok (.iload_n 2, 1) := by decide +kernel
theorem dX10_ofSite_1 : decode mX10_ofSite.2.1 1 = .ok (.ifCond .ne 12, 3) := by decide +kernel
theorem dX10_ofSite_4 : decode mX10_ofSite.2.1 4 = .ok (.aload_n 0, 1) := by decide +kernel
theorem dX10_ofSite_5 : decode mX10_ofSite.2.1 5 = .ok (.getfield 31, 3) := by decide +kernel
theorem dX10_ofSite_8 : decode mX10_ofSite.2.1 8 = .ok (.iload_n 1, 1) := by decide +kernel
theorem dX10_ofSite_9 : decode mX10_ofSite.2.1 9 = .ok (.iaload, 1) := by decide +kernel
theorem dX10_ofSite_10 : decode mX10_ofSite.2.1 10 = .ok (.goto 39, 3) := by decide +kernel
theorem dX10_ofSite_13 : decode mX10_ofSite.2.1 13 = .ok (.iload_n 2, 1) := by decide +kernel
theorem dX10_ofSite_14 : decode mX10_ofSite.2.1 14 = .ok (.iconst 1, 1) := by decide +kernel
theorem dX10_ofSite_15 : decode mX10_ofSite.2.1 15 = .ok (.if_icmp .ne 12, 3) := by decide +kernel
theorem dX10_ofSite_18 : decode mX10_ofSite.2.1 18 = .ok (.aload_n 0, 1) := by decide +kernel
theorem dX10_ofSite_19 : decode mX10_ofSite.2.1 19 = .ok (.getfield 34, 3) := by decide +kernel
theorem dX10_ofSite_22 : decode mX10_ofSite.2.1 22 = .ok (.iload_n 1, 1) := by decide +kernel
theorem dX10_ofSite_23 : decode mX10_ofSite.2.1 23 = .ok (.iaload, 1) := by decide +kernel
theorem dX10_ofSite_24 : decode mX10_ofSite.2.1 24 = .ok (.goto 25, 3) := by decide +kernel
theorem dX10_ofSite_27 : decode mX10_ofSite.2.1 27 = .ok (.iload_n 2, 1) := by decide +kernel
theorem dX10_ofSite_28 : decode mX10_ofSite.2.1 28 = .ok (.iconst 2, 1) := by decide +kernel
theorem dX10_ofSite_29 : decode mX10_ofSite.2.1 29 = .ok (.if_icmp .ne 11, 3) := by decide +kernel
theorem dX10_ofSite_32 : decode mX10_ofSite.2.1 32 = .ok (.aload_n 0, 1) := by decide +kernel
theorem dX10_ofSite_33 : decode mX10_ofSite.2.1 33 = .ok (.iload_n 1, 1) := by decide +kernel
theorem dX10_ofSite_34 : decode mX10_ofSite.2.1 34 = .ok (.invokevirtual 205, 3) := by decide +kernel
theorem dX10_ofSite_37 : decode mX10_ofSite.2.1 37 = .ok (.goto 12, 3) := by decide +kernel
theorem dX10_ofSite_40 : decode mX10_ofSite.2.1 40 = .ok (.aload_n 0, 1) := by decide +kernel
theorem dX10_ofSite_41 : decode mX10_ofSite.2.1 41 = .ok (.getfield 40, 3) := by decide +kernel
theorem dX10_ofSite_44 : decode mX10_ofSite.2.1 44 = .ok (.bipush 17, 2) := by decide +kernel
theorem dX10_ofSite_46 : decode mX10_ofSite.2.1 46 = .ok (.iload_n 1, 1) := by decide +kernel
theorem dX10_ofSite_47 : decode mX10_ofSite.2.1 47 = .ok (.iadd, 1) := by decide +kernel
theorem dX10_ofSite_48 : decode mX10_ofSite.2.1 48 = .ok (.iaload, 1) := by decide +kernel
theorem dX10_ofSite_49 : decode mX10_ofSite.2.1 49 = .ok (.ireturn, 1) := by decide +kernel
theorem dX10_site_0 : decode mX10_site.2.1 0 = .ok (.aload_n 0, 1) := by decide +kernel
theorem dX10_site_1 : decode mX10_site.2.1 1 = .ok (.invokevirtual 214, 3) := by decide +kernel
theorem dX10_site_4 : decode mX10_site.2.1 4 = .ok (.iload_n 1, 1) := by decide +kernel
theorem dX10_site_5 : decode mX10_site.2.1 5 = .ok (.iconst 0, 1) := by decide +kernel
theorem dX10_site_6 : decode mX10_site.2.1 6 = .ok (.aload_n 0, 1) := by decide +kernel
theorem dX10_site_7 : decode mX10_site.2.1 7 = .ok (.getfield 175, 3) := by decide +kernel
theorem dX10_site_10 : decode mX10_site.2.1 10 = .ok (.iconst 1, 1) := by decide +kernel
theorem dX10_site_11 : decode mX10_site.2.1 11 = .ok (.isub, 1) := by decide +kernel
theorem dX10_site_12 : decode mX10_site.2.1 12 = .ok (.invokestatic 99, 3) := by decide +kernel
theorem dX10_site_15 : decode mX10_site.2.1 15 = .ok (.ifCond .eq 21, 3) := by decide +kernel
theorem dX10_site_18 : decode mX10_site.2.1 18 = .ok (.iload_n 2, 1) := by decide +kernel
theorem dX10_site_19 : decode mX10_site.2.1 19 = .ok (.iconst 0, 1) := by decide +kernel
theorem dX10_site_20 : decode mX10_site.2.1 20 = .ok (.iconst 3, 1) := by decide +kernel
theorem dX10_site_21 : decode mX10_site.2.1 21 = .ok (.invokestatic 99, 3) := by decide +kernel
theorem dX10_site_24 : decode mX10_site.2.1 24 = .ok (.ifCond .eq 12, 3) := by decide +kernel
theorem dX10_site_27 : decode mX10_site.2.1 27 = .ok (.aload_n 0, 1) := by decide +kernel
theorem dX10_site_28 : decode mX10_site.2.1 28 = .ok (.iload_n 1, 1) := by decide +kernel
theorem dX10_site_29 : decode mX10_site.2.1 29 = .ok (.iload_n 2, 1) := by decide +kernel
theorem dX10_site_30 : decode mX10_site.2.1 30 = .ok (.invokevirtual 224, 3) := by decide +kernel
theorem dX10_site_33 : decode mX10_site.2.1 33 = .ok (.goto 9, 3) := by decide +kernel
theorem dX10_site_36 : decode mX10_site.2.1 36 = .ok (.aload_n 0, 1) := by decide +kernel
theorem dX10_site_37 : decode mX10_site.2.1 37 = .ok (.bipush (-2), 2) := by decide +kernel
theorem dX10_site_39 : decode mX10_site.2.1 39 = .ok (.invokevirtual 156, 3) := by decide +kernel
theorem dX10_site_42 : decode mX10_site.2.1 42 = .ok (.ireturn, 1) := by decide +kernel
theorem dX10_may_0 : decode mX10_may.2.1 0 = .ok (.aload_n 0, 1) := by decide +kernel
theorem dX10_may_1 : decode mX10_may.2.1 1 = .ok (.iload_n 1, 1) := by decide +kernel
theorem dX10_may_2 : decode mX10_may.2.1 2 = .ok (.invokevirtual 165, 3) := by decide +kernel
theorem dX10_may_5 : decode mX10_may.2.1 5 = .ok (.ifCond .eq 12, 3) := by decide +kernel
theorem dX10_may_8 : decode mX10_may.2.1 8 = .ok (.iload_n 2, 1) := by decide +kernel
theorem dX10_may_9 : decode mX10_may.2.1 9 = .ok (.iconst 0, 1) := by decide +kernel
theorem dX10_may_10 : decode mX10_may.2.1 10 = .ok (.iconst 3, 1) := by decide +kernel
theorem dX10_may_11 : decode mX10_may.2.1 11 = .ok (.invokestatic 99, 3) := by decide +kernel
theorem dX10_may_14 : decode mX10_may.2.1 14 = .ok (.ifCond .ne 10, 3) := by decide +kernel
theorem dX10_may_17 : decode mX10_may.2.1 17 = .ok (.aload_n 0, 1) := by decide +kernel
theorem dX10_may_18 : decode mX10_may.2.1 18 = .ok (.bipush (-2), 2) := by decide +kernel
theorem dX10_may_20 : decode mX10_may.2.1 20 = .ok (.invokevirtual 156, 3) := by decide +kernel
theorem dX10_may_23 : decode mX10_may.2.1 23 = .ok (.ireturn, 1) := by decide +kernel
theorem dX10_may_24 : decode mX10_may.2.1 24 = .ok (.aload_n 0, 1) := by decide +kernel
theorem dX10_may_25 : decode mX10_may.2.1 25 = .ok (.invokevirtual 214, 3) := by decide +kernel
theorem dX10_may_28 : decode mX10_may.2.1 28 = .ok (.aload_n 0, 1) := by decide +kernel
theorem dX10_may_29 : decode mX10_may.2.1 29 = .ok (.getfield 40, 3) := by decide +kernel
theorem dX10_may_32 : decode mX10_may.2.1 32 = .ok (.iconst 4, 1) := by decide +kernel
theorem dX10_may_33 : decode mX10_may.2.1 33 = .ok (.iload_n 1, 1) := by decide +kernel
theorem dX10_may_34 : decode mX10_may.2.1 34 = .ok (.imul, 1) := by decide +kernel
theorem dX10_may_35 : decode mX10_may.2.1 35 = .ok (.iload_n 2, 1) := by decide +kernel
theorem dX10_may_36 : decode mX10_may.2.1 36 = .ok (.iadd, 1) := by decide +kernel
theorem dX10_may_37 : decode mX10_may.2.1 37 = .ok (.iaload, 1) := by decide +kernel
theorem dX10_may_38 : decode mX10_may.2.1 38 = .ok (.ireturn, 1) := by decide +kernel
theorem dX10_open_0 : decode mX10_open.2.1 0 = .ok (.aload_n 0, 1) := by decide +kernel
theorem dX10_open_1 : decode mX10_open.2.1 1 = .ok (.invokevirtual 214, 3) := by decide +kernel
theorem dX10_open_4 : decode mX10_open.2.1 4 = .ok (.aload_n 0, 1) := by decide +kernel
theorem dX10_open_5 : decode mX10_open.2.1 5 = .ok (.getfield 40, 3) := by decide +kernel
theorem dX10_open_8 : decode mX10_open.2.1 8 = .ok (.bipush 16, 2) := by decide +kernel
theorem dX10_open_10 : decode mX10_open.2.1 10 = .ok (.iaload, 1) := by decide +kernel
theorem dX10_open_11 : decode mX10_open.2.1 11 = .ok (.ireturn, 1) := by decide +kernel
theorem dX10_reached_0 : decode mX10_reached.2.1 0 = .ok (.aload_n 0, 1) := by decide +kernel
theorem dX10_reached_1 : decode mX10_reached.2.1 1 = .ok (.iload_n 1, 1) := by decide +kernel
theorem dX10_reached_2 : decode mX10_reached.2.1 2 = .ok (.invokevirtual 165, 3) := by decide +kernel
theorem dX10_reached_5 : decode mX10_reached.2.1 5 = .ok (.ifCond .eq 12, 3) := by decide +kernel
theorem dX10_reached_8 : decode mX10_reached.2.1 8 = .ok (.iload_n 2, 1) := by decide +kernel
theorem dX10_reached_9 : decode mX10_reached.2.1 9 = .ok (.iconst 0, 1) := by decide +kernel
theorem dX10_reached_10 : decode mX10_reached.2.1 10 = .ok (.iconst 3, 1) := by decide +kernel
theorem dX10_reached_11 : decode mX10_reached.2.1 11 = .ok (.invokestatic 99, 3) := by decide +kernel
theorem dX10_reached_14 : decode mX10_reached.2.1 14 = .ok (.ifCond .ne 10, 3) := by decide +kernel
theorem dX10_reached_17 : decode mX10_reached.2.1 17 = .ok (.aload_n 0, 1) := by decide +kernel
theorem dX10_reached_18 : decode mX10_reached.2.1 18 = .ok (.bipush (-2), 2) := by decide +kernel
theorem dX10_reached_20 : decode mX10_reached.2.1 20 = .ok (.invokevirtual 156, 3) := by decide +kernel
theorem dX10_reached_23 : decode mX10_reached.2.1 23 = .ok (.ireturn, 1) := by decide +kernel
theorem dX10_reached_24 : decode mX10_reached.2.1 24 = .ok (.aload_n 0, 1) := by decide +kernel
theorem dX10_reached_25 : decode mX10_reached.2.1 25 = .ok (.invokevirtual 214, 3) := by decide +kernel
theorem dX10_reached_28 : decode mX10_reached.2.1 28 = .ok (.aload_n 0, 1) := by decide +kernel
theorem dX10_reached_29 : decode mX10_reached.2.1 29 = .ok (.aload_n 0, 1) := by decide +kernel
theorem dX10_reached_30 : decode mX10_reached.2.1 30 = .ok (.getfield 40, 3) := by decide +kernel
theorem dX10_reached_33 : decode mX10_reached.2.1 33 = .ok (.iconst 4, 1) := by decide +kernel
theorem dX10_reached_34 : decode mX10_reached.2.1 34 = .ok (.iload_n 1, 1) := by decide +kernel
theorem dX10_reached_35 : decode mX10_reached.2.1 35 = .ok (.imul, 1) := by decide +kernel
theorem dX10_reached_36 : decode mX10_reached.2.1 36 = .ok (.iload_n 2, 1) := by decide +kernel
theorem dX10_reached_37 : decode mX10_reached.2.1 37 = .ok (.iadd, 1) := by decide +kernel
theorem dX10_reached_38 : decode mX10_reached.2.1 38 = .ok (.iaload, 1) := by decide +kernel
theorem dX10_reached_39 : decode mX10_reached.2.1 39 = .ok (.invokevirtual 202, 3) := by decide +kernel
theorem dX10_reached_42 : decode mX10_reached.2.1 42 = .ok (.ireturn, 1) := by decide +kernel
theorem dX10_fates_0 : decode mX10_fates.2.1 0 = .ok (.iload_n 1, 1) := by decide +kernel
theorem dX10_fates_1 : decode mX10_fates.2.1 1 = .ok (.iconst 0, 1) := by decide +kernel
theorem dX10_fates_2 : decode mX10_fates.2.1 2 = .ok (.iconst 2, 1) := by decide +kernel
theorem dX10_fates_3 : decode mX10_fates.2.1 3 = .ok (.invokestatic 99, 3) := by decide +kernel
theorem dX10_fates_6 : decode mX10_fates.2.1 6 = .ok (.ifCond .ne 10, 3) := by decide +kernel
theorem dX10_fates_9 : decode mX10_fates.2.1 9 = .ok (.aload_n 0, 1) := by decide +kernel
theorem dX10_fates_10 : decode mX10_fates.2.1 10 = .ok (.bipush (-2), 2) := by decide +kernel
theorem dX10_fates_12 : decode mX10_fates.2.1 12 = .ok (.invokevirtual 156, 3) := by decide +kernel
theorem dX10_fates_15 : decode mX10_fates.2.1 15 = .ok (.ireturn, 1) := by decide +kernel
theorem dX10_fates_16 : decode mX10_fates.2.1 16 = .ok (.aload_n 0, 1) := by decide +kernel
theorem dX10_fates_17 : decode mX10_fates.2.1 17 = .ok (.invokevirtual 214, 3) := by decide +kernel
theorem dX10_fates_20 : decode mX10_fates.2.1 20 = .ok (.aload_n 0, 1) := by decide +kernel
theorem dX10_fates_21 : decode mX10_fates.2.1 21 = .ok (.iload_n 1, 1) := by decide +kernel
theorem dX10_fates_22 : decode mX10_fates.2.1 22 = .ok (.invokevirtual 208, 3) := by decide +kernel
theorem dX10_fates_25 : decode mX10_fates.2.1 25 = .ok (.invokestatic 227, 3) := by decide +kernel
theorem dX10_fates_28 : decode mX10_fates.2.1 28 = .ok (.ireturn, 1) := by decide +kernel
theorem dX10_call_0 : decode mX10_call.2.1 0 = .ok (.iconst 0, 1) := by decide +kernel
theorem dX10_call_1 : decode mX10_call.2.1 1 = .ok (.istore_n 3, 1) := by decide +kernel
theorem dX10_call_2 : decode mX10_call.2.1 2 = .ok (.iload_n 3, 1) := by decide +kernel
theorem dX10_call_3 : decode mX10_call.2.1 3 = .ok (.iconst 4, 1) := by decide +kernel
theorem dX10_call_4 : decode mX10_call.2.1 4 = .ok (.if_icmp .ge 31, 3) := by decide +kernel
theorem dX10_call_7 : decode mX10_call.2.1 7 = .ok (.aload_n 0, 1) := by decide +kernel
theorem dX10_call_8 : decode mX10_call.2.1 8 = .ok (.getfield 55, 3) := by decide +kernel
theorem dX10_call_11 : decode mX10_call.2.1 11 = .ok (.iconst 4, 1) := by decide +kernel
theorem dX10_call_12 : decode mX10_call.2.1 12 = .ok (.aload_n 0, 1) := by decide +kernel
theorem dX10_call_13 : decode mX10_call.2.1 13 = .ok (.getfield 230, 3) := by decide +kernel
theorem dX10_call_16 : decode mX10_call.2.1 16 = .ok (.imul, 1) := by decide +kernel
theorem dX10_call_17 : decode mX10_call.2.1 17 = .ok (.iload_n 3, 1) := by decide +kernel
theorem dX10_call_18 : decode mX10_call.2.1 18 = .ok (.iadd, 1) := by decide +kernel
theorem dX10_call_19 : decode mX10_call.2.1 19 = .ok (.iload_n 3, 1) := by decide +kernel
theorem dX10_call_20 : decode mX10_call.2.1 20 = .ok (.ifCond .ne 7, 3) := by decide +kernel
theorem dX10_call_23 : decode mX10_call.2.1 23 = .ok (.iload_n 2, 1) := by decide +kernel
theorem dX10_call_24 : decode mX10_call.2.1 24 = .ok (.goto 4, 3) := by decide +kernel
theorem dX10_call_27 : decode mX10_call.2.1 27 = .ok (.iconst (-1), 1) := by decide +kernel
theorem dX10_call_28 : decode mX10_call.2.1 28 = .ok (.iastore, 1) := by decide +kernel
theorem dX10_call_29 : decode mX10_call.2.1 29 = .ok (.iinc 3 1, 3) := by decide +kernel
theorem dX10_call_32 : decode mX10_call.2.1 32 = .ok (.goto (-30), 3) := by decide +kernel
theorem dX10_call_35 : decode mX10_call.2.1 35 = .ok (.aload_n 0, 1) := by decide +kernel
theorem dX10_call_36 : decode mX10_call.2.1 36 = .ok (.getfield 58, 3) := by decide +kernel
theorem dX10_call_39 : decode mX10_call.2.1 39 = .ok (.aload_n 0, 1) := by decide +kernel
theorem dX10_call_40 : decode mX10_call.2.1 40 = .ok (.getfield 230, 3) := by decide +kernel
theorem dX10_call_43 : decode mX10_call.2.1 43 = .ok (.iload_n 1, 1) := by decide +kernel
theorem dX10_call_44 : decode mX10_call.2.1 44 = .ok (.iastore, 1) := by decide +kernel
theorem dX10_call_45 : decode mX10_call.2.1 45 = .ok (.aload_n 0, 1) := by decide +kernel
theorem dX10_call_46 : decode mX10_call.2.1 46 = .ok (.getfield 61, 3) := by decide +kernel
theorem dX10_call_49 : decode mX10_call.2.1 49 = .ok (.aload_n 0, 1) := by decide +kernel
theorem dX10_call_50 : decode mX10_call.2.1 50 = .ok (.getfield 230, 3) := by decide +kernel
theorem dX10_call_53 : decode mX10_call.2.1 53 = .ok (.iconst 0, 1) := by decide +kernel
theorem dX10_call_54 : decode mX10_call.2.1 54 = .ok (.iastore, 1) := by decide +kernel
theorem dX10_call_55 : decode mX10_call.2.1 55 = .ok (.aload_n 0, 1) := by decide +kernel
theorem dX10_call_56 : decode mX10_call.2.1 56 = .ok (.getfield 64, 3) := by decide +kernel
theorem dX10_call_59 : decode mX10_call.2.1 59 = .ok (.aload_n 0, 1) := by decide +kernel
theorem dX10_call_60 : decode mX10_call.2.1 60 = .ok (.getfield 230, 3) := by decide +kernel
theorem dX10_call_63 : decode mX10_call.2.1 63 = .ok (.aload_n 0, 1) := by decide +kernel
theorem dX10_call_64 : decode mX10_call.2.1 64 = .ok (.getfield 233, 3) := by decide +kernel
theorem dX10_call_67 : decode mX10_call.2.1 67 = .ok (.iastore, 1) := by decide +kernel
theorem dX10_call_68 : decode mX10_call.2.1 68 = .ok (.aload_n 0, 1) := by decide +kernel
theorem dX10_call_69 : decode mX10_call.2.1 69 = .ok (.getfield 67, 3) := by decide +kernel
theorem dX10_call_72 : decode mX10_call.2.1 72 = .ok (.aload_n 0, 1) := by decide +kernel
theorem dX10_call_73 : decode mX10_call.2.1 73 = .ok (.getfield 230, 3) := by decide +kernel
theorem dX10_call_76 : decode mX10_call.2.1 76 = .ok (.iload_n 2, 1) := by decide +kernel
theorem dX10_call_77 : decode mX10_call.2.1 77 = .ok (.iastore, 1) := by decide +kernel
theorem dX10_call_78 : decode mX10_call.2.1 78 = .ok (.aload_n 0, 1) := by decide +kernel
theorem dX10_call_79 : decode mX10_call.2.1 79 = .ok (.getfield 70, 3) := by decide +kernel
theorem dX10_call_82 : decode mX10_call.2.1 82 = .ok (.aload_n 0, 1) := by decide +kernel
theorem dX10_call_83 : decode mX10_call.2.1 83 = .ok (.getfield 230, 3) := by decide +kernel
theorem dX10_call_86 : decode mX10_call.2.1 86 = .ok (.aload_n 0, 1) := by decide +kernel
theorem dX10_call_87 : decode mX10_call.2.1 87 = .ok (.getfield 236, 3) := by decide +kernel
theorem dX10_call_90 : decode mX10_call.2.1 90 = .ok (.iastore, 1) := by decide +kernel
theorem dX10_call_91 : decode mX10_call.2.1 91 = .ok (.aload_n 0, 1) := by decide +kernel
theorem dX10_call_92 : decode mX10_call.2.1 92 = .ok (.dup, 1) := by decide +kernel
theorem dX10_call_93 : decode mX10_call.2.1 93 = .ok (.getfield 233, 3) := by decide +kernel
theorem dX10_call_96 : decode mX10_call.2.1 96 = .ok (.iconst 1, 1) := by decide +kernel
theorem dX10_call_97 : decode mX10_call.2.1 97 = .ok (.iadd, 1) := by decide +kernel
theorem dX10_call_98 : decode mX10_call.2.1 98 = .ok (.putfield 233, 3) := by decide +kernel
theorem dX10_call_101 : decode mX10_call.2.1 101 = .ok (.aload_n 0, 1) := by decide +kernel
theorem dX10_call_102 : decode mX10_call.2.1 102 = .ok (.dup, 1) := by decide +kernel
theorem dX10_call_103 : decode mX10_call.2.1 103 = .ok (.getfield 230, 3) := by decide +kernel
theorem dX10_call_106 : decode mX10_call.2.1 106 = .ok (.iconst 1, 1) := by decide +kernel
theorem dX10_call_107 : decode mX10_call.2.1 107 = .ok (.iadd, 1) := by decide +kernel
theorem dX10_call_108 : decode mX10_call.2.1 108 = .ok (.putfield 230, 3) := by decide +kernel
theorem dX10_call_111 : decode mX10_call.2.1 111 = .ok (.return_, 1) := by decide +kernel
theorem dX10_follow_0 : decode mX10_follow.2.1 0 = .ok (.iload_n 1, 1) := by decide +kernel
theorem dX10_follow_1 : decode mX10_follow.2.1 1 = .ok (.istore_n 3, 1) := by decide +kernel
theorem dX10_follow_2 : decode mX10_follow.2.1 2 = .ok (.iload_n 3, 1) := by decide +kernel
theorem dX10_follow_3 : decode mX10_follow.2.1 3 = .ok (.iconst (-1), 1) := by decide +kernel
theorem dX10_follow_4 : decode mX10_follow.2.1 4 = .ok (.if_icmp .eq 30, 3) := by decide +kernel
theorem dX10_follow_7 : decode mX10_follow.2.1 7 = .ok (.aload_n 0, 1) := by decide +kernel
theorem dX10_follow_8 : decode mX10_follow.2.1 8 = .ok (.getfield 52, 3) := by decide +kernel
theorem dX10_follow_11 : decode mX10_follow.2.1 11 = .ok (.iload_n 3, 1) := by decide +kernel
theorem dX10_follow_12 : decode mX10_follow.2.1 12 = .ok (.iaload, 1) := by decide +kernel
theorem dX10_follow_13 : decode mX10_follow.2.1 13 = .ok (.iload_n 2, 1) := by decide +kernel
theorem dX10_follow_14 : decode mX10_follow.2.1 14 = .ok (.if_icmp .eq 20, 3) := by decide +kernel
theorem dX10_follow_17 : decode mX10_follow.2.1 17 = .ok (.aload_n 0, 1) := by decide +kernel
theorem dX10_follow_18 : decode mX10_follow.2.1 18 = .ok (.getfield 52, 3) := by decide +kernel
theorem dX10_follow_21 : decode mX10_follow.2.1 21 = .ok (.iload_n 3, 1) := by decide +kernel
theorem dX10_follow_22 : decode mX10_follow.2.1 22 = .ok (.iload_n 2, 1) := by decide +kernel
theorem dX10_follow_23 : decode mX10_follow.2.1 23 = .ok (.iastore, 1) := by decide +kernel
theorem dX10_follow_24 : decode mX10_follow.2.1 24 = .ok (.aload_n 0, 1) := by decide +kernel
theorem dX10_follow_25 : decode mX10_follow.2.1 25 = .ok (.getfield 46, 3) := by decide +kernel
theorem dX10_follow_28 : decode mX10_follow.2.1 28 = .ok (.iload_n 3, 1) := by decide +kernel
theorem dX10_follow_29 : decode mX10_follow.2.1 29 = .ok (.iaload, 1) := by decide +kernel
theorem dX10_follow_30 : decode mX10_follow.2.1 30 = .ok (.istore_n 3, 1) := by decide +kernel
theorem dX10_follow_31 : decode mX10_follow.2.1 31 = .ok (.goto (-29), 3) := by decide +kernel
theorem dX10_follow_34 : decode mX10_follow.2.1 34 = .ok (.return_, 1) := by decide +kernel
theorem dX10_end_0 : decode mX10_end.2.1 0 = .ok (.aload_n 0, 1) := by decide +kernel
theorem dX10_end_1 : decode mX10_end.2.1 1 = .ok (.dup, 1) := by decide +kernel
theorem dX10_end_2 : decode mX10_end.2.1 2 = .ok (.getfield 230, 3) := by decide +kernel
theorem dX10_end_5 : decode mX10_end.2.1 5 = .ok (.iconst 1, 1) := by decide +kernel
theorem dX10_end_6 : decode mX10_end.2.1 6 = .ok (.isub, 1) := by decide +kernel
theorem dX10_end_7 : decode mX10_end.2.1 7 = .ok (.putfield 230, 3) := by decide +kernel
theorem dX10_end_10 : decode mX10_end.2.1 10 = .ok (.aload_n 0, 1) := by decide +kernel
theorem dX10_end_11 : decode mX10_end.2.1 11 = .ok (.getfield 64, 3) := by decide +kernel
theorem dX10_end_14 : decode mX10_end.2.1 14 = .ok (.aload_n 0, 1) := by decide +kernel
theorem dX10_end_15 : decode mX10_end.2.1 15 = .ok (.getfield 230, 3) := by decide +kernel
theorem dX10_end_18 : decode mX10_end.2.1 18 = .ok (.iaload, 1) := by decide +kernel
theorem dX10_end_19 : decode mX10_end.2.1 19 = .ok (.istore_n 1, 1) := by decide +kernel
theorem dX10_end_20 : decode mX10_end.2.1 20 = .ok (.aload_n 0, 1) := by decide +kernel
theorem dX10_end_21 : decode mX10_end.2.1 21 = .ok (.getfield 55, 3) := by decide +kernel
theorem dX10_end_24 : decode mX10_end.2.1 24 = .ok (.iconst 4, 1) := by decide +kernel
theorem dX10_end_25 : decode mX10_end.2.1 25 = .ok (.aload_n 0, 1) := by decide +kernel
theorem dX10_end_26 : decode mX10_end.2.1 26 = .ok (.getfield 230, 3) := by decide +kernel
theorem dX10_end_29 : decode mX10_end.2.1 29 = .ok (.imul, 1) := by decide +kernel
theorem dX10_end_30 : decode mX10_end.2.1 30 = .ok (.iconst 3, 1) := by decide +kernel
theorem dX10_end_31 : decode mX10_end.2.1 31 = .ok (.iadd, 1) := by decide +kernel
theorem dX10_end_32 : decode mX10_end.2.1 32 = .ok (.iaload, 1) := by decide +kernel
theorem dX10_end_33 : decode mX10_end.2.1 33 = .ok (.istore_n 2, 1) := by decide +kernel
theorem dX10_end_34 : decode mX10_end.2.1 34 = .ok (.aload_n 0, 1) := by decide +kernel
theorem dX10_end_35 : decode mX10_end.2.1 35 = .ok (.aload_n 0, 1) := by decide +kernel
theorem dX10_end_36 : decode mX10_end.2.1 36 = .ok (.getfield 239, 3) := by decide +kernel
theorem dX10_end_39 : decode mX10_end.2.1 39 = .ok (.iload_n 1, 1) := by decide +kernel
theorem dX10_end_40 : decode mX10_end.2.1 40 = .ok (.invokevirtual 242, 3) := by decide +kernel
theorem dX10_end_43 : decode mX10_end.2.1 43 = .ok (.aload_n 0, 1) := by decide +kernel
theorem dX10_end_44 : decode mX10_end.2.1 44 = .ok (.aload_n 0, 1) := by decide +kernel
theorem dX10_end_45 : decode mX10_end.2.1 45 = .ok (.getfield 67, 3) := by decide +kernel
theorem dX10_end_48 : decode mX10_end.2.1 48 = .ok (.aload_n 0, 1) := by decide +kernel
theorem dX10_end_49 : decode mX10_end.2.1 49 = .ok (.getfield 230, 3) := by decide +kernel
theorem dX10_end_52 : decode mX10_end.2.1 52 = .ok (.iaload, 1) := by decide +kernel
theorem dX10_end_53 : decode mX10_end.2.1 53 = .ok (.iload_n 1, 1) := by decide +kernel
theorem dX10_end_54 : decode mX10_end.2.1 54 = .ok (.invokevirtual 242, 3) := by decide +kernel
theorem dX10_end_57 : decode mX10_end.2.1 57 = .ok (.aload_n 0, 1) := by decide +kernel
theorem dX10_end_58 : decode mX10_end.2.1 58 = .ok (.iload_n 2, 1) := by decide +kernel
theorem dX10_end_59 : decode mX10_end.2.1 59 = .ok (.iload_n 1, 1) := by decide +kernel
theorem dX10_end_60 : decode mX10_end.2.1 60 = .ok (.invokevirtual 242, 3) := by decide +kernel
theorem dX10_end_63 : decode mX10_end.2.1 63 = .ok (.aload_n 0, 1) := by decide +kernel
theorem dX10_end_64 : decode mX10_end.2.1 64 = .ok (.getfield 70, 3) := by decide +kernel
theorem dX10_end_67 : decode mX10_end.2.1 67 = .ok (.aload_n 0, 1) := by decide +kernel
theorem dX10_end_68 : decode mX10_end.2.1 68 = .ok (.getfield 230, 3) := by decide +kernel
theorem dX10_end_71 : decode mX10_end.2.1 71 = .ok (.iaload, 1) := by decide +kernel
theorem dX10_end_72 : decode mX10_end.2.1 72 = .ok (.istore_n 3, 1) := by decide +kernel
theorem dX10_end_73 : decode mX10_end.2.1 73 = .ok (.iload_n 3, 1) := by decide +kernel
theorem dX10_end_74 : decode mX10_end.2.1 74 = .ok (.aload_n 0, 1) := by decide +kernel
theorem dX10_end_75 : decode mX10_end.2.1 75 = .ok (.getfield 236, 3) := by decide +kernel
theorem dX10_end_78 : decode mX10_end.2.1 78 = .ok (.if_icmp .ge 54, 3) := by decide +kernel
theorem dX10_end_81 : decode mX10_end.2.1 81 = .ok (.aload_n 0, 1) := by decide +kernel
theorem dX10_end_82 : decode mX10_end.2.1 82 = .ok (.getfield 49, 3) := by decide +kernel
theorem dX10_end_85 : decode mX10_end.2.1 85 = .ok (.iload_n 3, 1) := by decide +kernel
theorem dX10_end_86 : decode mX10_end.2.1 86 = .ok (.iaload, 1) := by decide +kernel
theorem dX10_end_87 : decode mX10_end.2.1 87 = .ok (.iload_n 1, 1) := by decide +kernel
theorem dX10_end_88 : decode mX10_end.2.1 88 = .ok (.if_icmp .ne 38, 3) := by decide +kernel
theorem dX10_end_91 : decode mX10_end.2.1 91 = .ok (.aload_n 0, 1) := by decide +kernel
theorem dX10_end_92 : decode mX10_end.2.1 92 = .ok (.getfield 52, 3) := by decide +kernel
theorem dX10_end_95 : decode mX10_end.2.1 95 = .ok (.iload_n 3, 1) := by decide +kernel
theorem dX10_end_96 : decode mX10_end.2.1 96 = .ok (.iaload, 1) := by decide +kernel
theorem dX10_end_97 : decode mX10_end.2.1 97 = .ok (.iload_n 1, 1) := by decide +kernel
theorem dX10_end_98 : decode mX10_end.2.1 98 = .ok (.if_icmp .ne 28, 3) := by decide +kernel
theorem dX10_end_101 : decode mX10_end.2.1 101 = .ok (.aload_n 0, 1) := by decide +kernel
theorem dX10_end_102 : decode mX10_end.2.1 102 = .ok (.dup, 1) := by decide +kernel
theorem dX10_end_103 : decode mX10_end.2.1 103 = .ok (.getfield 245, 3) := by decide +kernel
theorem dX10_end_106 : decode mX10_end.2.1 106 = .ok (.iconst 1, 1) := by decide +kernel
theorem dX10_end_107 : decode mX10_end.2.1 107 = .ok (.iadd, 1) := by decide +kernel
theorem dX10_end_108 : decode mX10_end.2.1 108 = .ok (.putfield 245, 3) := by decide +kernel
theorem dX10_end_111 : decode mX10_end.2.1 111 = .ok (.aload_n 0, 1) := by decide +kernel
theorem dX10_end_112 : decode mX10_end.2.1 112 = .ok (.getfield 79, 3) := by decide +kernel
theorem dX10_end_115 : decode mX10_end.2.1 115 = .ok (.aload_n 0, 1) := by decide +kernel
theorem dX10_end_116 : decode mX10_end.2.1 116 = .ok (.getfield 43, 3) := by decide +kernel
theorem dX10_end_119 : decode mX10_end.2.1 119 = .ok (.iload_n 3, 1) := by decide +kernel
theorem dX10_end_120 : decode mX10_end.2.1 120 = .ok (.iaload, 1) := by decide +kernel
theorem dX10_end_121 : decode mX10_end.2.1 121 = .ok (.dup2, 1) := by decide +kernel
theorem dX10_end_122 : decode mX10_end.2.1 122 = .ok (.iaload, 1) := by decide +kernel
theorem dX10_end_123 : decode mX10_end.2.1 123 = .ok (.iconst 1, 1) := by decide +kernel
theorem dX10_end_124 : decode mX10_end.2.1 124 = .ok (.iadd, 1) := by decide +kernel
theorem dX10_end_125 : decode mX10_end.2.1 125 = .ok (.iastore, 1) := by decide +kernel
theorem dX10_end_126 : decode mX10_end.2.1 126 = .ok (.iinc 3 1, 3) := by decide +kernel
theorem dX10_end_129 : decode mX10_end.2.1 129 = .ok (.goto (-56), 3) := by decide +kernel
theorem dX10_end_132 : decode mX10_end.2.1 132 = .ok (.aload_n 0, 1) := by decide +kernel
theorem dX10_end_133 : decode mX10_end.2.1 133 = .ok (.getfield 230, 3) := by decide +kernel
theorem dX10_end_136 : decode mX10_end.2.1 136 = .ok (.ifCond .le 53, 3) := by decide +kernel
theorem dX10_end_139 : decode mX10_end.2.1 139 = .ok (.aload_n 0, 1) := by decide +kernel
theorem dX10_end_140 : decode mX10_end.2.1 140 = .ok (.getfield 58, 3) := by decide +kernel
theorem dX10_end_143 : decode mX10_end.2.1 143 = .ok (.aload_n 0, 1) := by decide +kernel
theorem dX10_end_144 : decode mX10_end.2.1 144 = .ok (.getfield 230, 3) := by decide +kernel
theorem dX10_end_147 : decode mX10_end.2.1 147 = .ok (.iconst 1, 1) := by decide +kernel
theorem dX10_end_148 : decode mX10_end.2.1 148 = .ok (.isub, 1) := by decide +kernel
theorem dX10_end_149 : decode mX10_end.2.1 149 = .ok (.iaload, 1) := by decide +kernel
theorem dX10_end_150 : decode mX10_end.2.1 150 = .ok (.istore_n 3, 1) := by decide +kernel
theorem dX10_end_151 : decode mX10_end.2.1 151 = .ok (.aload_n 0, 1) := by decide +kernel
theorem dX10_end_152 : decode mX10_end.2.1 152 = .ok (.getfield 61, 3) := by decide +kernel
theorem dX10_end_155 : decode mX10_end.2.1 155 = .ok (.aload_n 0, 1) := by decide +kernel
theorem dX10_end_156 : decode mX10_end.2.1 156 = .ok (.getfield 230, 3) := by decide +kernel
theorem dX10_end_159 : decode mX10_end.2.1 159 = .ok (.iconst 1, 1) := by decide +kernel
theorem dX10_end_160 : decode mX10_end.2.1 160 = .ok (.isub, 1) := by decide +kernel
theorem dX10_end_161 : decode mX10_end.2.1 161 = .ok (.iaload, 1) := by decide +kernel
theorem dX10_end_162 : decode mX10_end.2.1 162 = .ok (.iconst 1, 1) := by decide +kernel
theorem dX10_end_163 : decode mX10_end.2.1 163 = .ok (.isub, 1) := by decide +kernel
theorem dX10_end_164 : decode mX10_end.2.1 164 = .ok (.istore 4, 2) := by decide +kernel
theorem dX10_end_166 : decode mX10_end.2.1 166 = .ok (.aload_n 0, 1) := by decide +kernel
theorem dX10_end_167 : decode mX10_end.2.1 167 = .ok (.getfield 55, 3) := by decide +kernel
theorem dX10_end_170 : decode mX10_end.2.1 170 = .ok (.iconst 4, 1) := by decide +kernel
theorem dX10_end_171 : decode mX10_end.2.1 171 = .ok (.aload_n 0, 1) := by decide +kernel
theorem dX10_end_172 : decode mX10_end.2.1 172 = .ok (.getfield 230, 3) := by decide +kernel
theorem dX10_end_175 : decode mX10_end.2.1 175 = .ok (.imul, 1) := by decide +kernel
theorem dX10_end_176 : decode mX10_end.2.1 176 = .ok (.iconst 4, 1) := by decide +kernel
theorem dX10_end_177 : decode mX10_end.2.1 177 = .ok (.isub, 1) := by decide +kernel
theorem dX10_end_178 : decode mX10_end.2.1 178 = .ok (.aload_n 0, 1) := by decide +kernel
theorem dX10_end_179 : decode mX10_end.2.1 179 = .ok (.iload_n 3, 1) := by decide +kernel
theorem dX10_end_180 : decode mX10_end.2.1 180 = .ok (.iload 4, 2) := by decide +kernel
theorem dX10_end_182 : decode mX10_end.2.1 182 = .ok (.iconst 1, 1) := by decide +kernel
theorem dX10_end_183 : decode mX10_end.2.1 183 = .ok (.invokevirtual 178, 3) := by decide +kernel
theorem dX10_end_186 : decode mX10_end.2.1 186 = .ok (.iadd, 1) := by decide +kernel
theorem dX10_end_187 : decode mX10_end.2.1 187 = .ok (.iload_n 2, 1) := by decide +kernel
theorem dX10_end_188 : decode mX10_end.2.1 188 = .ok (.iastore, 1) := by decide +kernel
theorem dX10_end_189 : decode mX10_end.2.1 189 = .ok (.return_, 1) := by decide +kernel
theorem dX10_make_0 : decode mX10_make.2.1 0 = .ok (.aload_n 0, 1) := by decide +kernel
theorem dX10_make_1 : decode mX10_make.2.1 1 = .ok (.getfield 43, 3) := by decide +kernel
theorem dX10_make_4 : decode mX10_make.2.1 4 = .ok (.aload_n 0, 1) := by decide +kernel
theorem dX10_make_5 : decode mX10_make.2.1 5 = .ok (.getfield 236, 3) := by decide +kernel
theorem dX10_make_8 : decode mX10_make.2.1 8 = .ok (.iload_n 1, 1) := by decide +kernel
theorem dX10_make_9 : decode mX10_make.2.1 9 = .ok (.iastore, 1) := by decide +kernel
theorem dX10_make_10 : decode mX10_make.2.1 10 = .ok (.aload_n 0, 1) := by decide +kernel
theorem dX10_make_11 : decode mX10_make.2.1 11 = .ok (.getfield 46, 3) := by decide +kernel
theorem dX10_make_14 : decode mX10_make.2.1 14 = .ok (.aload_n 0, 1) := by decide +kernel
theorem dX10_make_15 : decode mX10_make.2.1 15 = .ok (.getfield 236, 3) := by decide +kernel
theorem dX10_make_18 : decode mX10_make.2.1 18 = .ok (.iconst (-1), 1) := by decide +kernel
theorem dX10_make_19 : decode mX10_make.2.1 19 = .ok (.iastore, 1) := by decide +kernel
theorem dX10_make_20 : decode mX10_make.2.1 20 = .ok (.aload_n 0, 1) := by decide +kernel
theorem dX10_make_21 : decode mX10_make.2.1 21 = .ok (.getfield 49, 3) := by decide +kernel
theorem dX10_make_24 : decode mX10_make.2.1 24 = .ok (.aload_n 0, 1) := by decide +kernel
theorem dX10_make_25 : decode mX10_make.2.1 25 = .ok (.getfield 236, 3) := by decide +kernel
theorem dX10_make_28 : decode mX10_make.2.1 28 = .ok (.aload_n 0, 1) := by decide +kernel
theorem dX10_make_29 : decode mX10_make.2.1 29 = .ok (.getfield 64, 3) := by decide +kernel
theorem dX10_make_32 : decode mX10_make.2.1 32 = .ok (.aload_n 0, 1) := by decide +kernel
theorem dX10_make_33 : decode mX10_make.2.1 33 = .ok (.getfield 230, 3) := by decide +kernel
theorem dX10_make_36 : decode mX10_make.2.1 36 = .ok (.iconst 1, 1) := by decide +kernel
theorem dX10_make_37 : decode mX10_make.2.1 37 = .ok (.isub, 1) := by decide +kernel
theorem dX10_make_38 : decode mX10_make.2.1 38 = .ok (.iaload, 1) := by decide +kernel
theorem dX10_make_39 : decode mX10_make.2.1 39 = .ok (.iastore, 1) := by decide +kernel
theorem dX10_make_40 : decode mX10_make.2.1 40 = .ok (.aload_n 0, 1) := by decide +kernel
theorem dX10_make_41 : decode mX10_make.2.1 41 = .ok (.getfield 52, 3) := by decide +kernel
theorem dX10_make_44 : decode mX10_make.2.1 44 = .ok (.aload_n 0, 1) := by decide +kernel
theorem dX10_make_45 : decode mX10_make.2.1 45 = .ok (.getfield 236, 3) := by decide +kernel
theorem dX10_make_48 : decode mX10_make.2.1 48 = .ok (.iconst (-1), 1) := by decide +kernel
theorem dX10_make_49 : decode mX10_make.2.1 49 = .ok (.iastore, 1) := by decide +kernel
theorem dX10_make_50 : decode mX10_make.2.1 50 = .ok (.aload_n 0, 1) := by decide +kernel
theorem dX10_make_51 : decode mX10_make.2.1 51 = .ok (.getfield 76, 3) := by decide +kernel
theorem dX10_make_54 : decode mX10_make.2.1 54 = .ok (.iload_n 1, 1) := by decide +kernel
theorem dX10_make_55 : decode mX10_make.2.1 55 = .ok (.dup2, 1) := by decide +kernel
theorem dX10_make_56 : decode mX10_make.2.1 56 = .ok (.iaload, 1) := by decide +kernel
theorem dX10_make_57 : decode mX10_make.2.1 57 = .ok (.iconst 1, 1) := by decide +kernel
theorem dX10_make_58 : decode mX10_make.2.1 58 = .ok (.iadd, 1) := by decide +kernel
theorem dX10_make_59 : decode mX10_make.2.1 59 = .ok (.iastore, 1) := by decide +kernel
theorem dX10_make_60 : decode mX10_make.2.1 60 = .ok (.aload_n 0, 1) := by decide +kernel
theorem dX10_make_61 : decode mX10_make.2.1 61 = .ok (.dup, 1) := by decide +kernel
theorem dX10_make_62 : decode mX10_make.2.1 62 = .ok (.getfield 236, 3) := by decide +kernel
theorem dX10_make_65 : decode mX10_make.2.1 65 = .ok (.iconst 1, 1) := by decide +kernel
theorem dX10_make_66 : decode mX10_make.2.1 66 = .ok (.iadd, 1) := by decide +kernel
theorem dX10_make_67 : decode mX10_make.2.1 67 = .ok (.putfield 236, 3) := by decide +kernel
theorem dX10_make_70 : decode mX10_make.2.1 70 = .ok (.aload_n 0, 1) := by decide +kernel
theorem dX10_make_71 : decode mX10_make.2.1 71 = .ok (.getfield 236, 3) := by decide +kernel
theorem dX10_make_74 : decode mX10_make.2.1 74 = .ok (.iconst 1, 1) := by decide +kernel
theorem dX10_make_75 : decode mX10_make.2.1 75 = .ok (.isub, 1) := by decide +kernel
theorem dX10_make_76 : decode mX10_make.2.1 76 = .ok (.ireturn, 1) := by decide +kernel
theorem dX10_lock_0 : decode mX10_lock.2.1 0 = .ok (.aload_n 0, 1) := by decide +kernel
theorem dX10_lock_1 : decode mX10_lock.2.1 1 = .ok (.dup, 1) := by decide +kernel
theorem dX10_lock_2 : decode mX10_lock.2.1 2 = .ok (.getfield 248, 3) := by decide +kernel
theorem dX10_lock_5 : decode mX10_lock.2.1 5 = .ok (.iconst 1, 1) := by decide +kernel
theorem dX10_lock_6 : decode mX10_lock.2.1 6 = .ok (.iadd, 1) := by decide +kernel
theorem dX10_lock_7 : decode mX10_lock.2.1 7 = .ok (.putfield 248, 3) := by decide +kernel
theorem dX10_lock_10 : decode mX10_lock.2.1 10 = .ok (.aload_n 0, 1) := by decide +kernel
theorem dX10_lock_11 : decode mX10_lock.2.1 11 = .ok (.getfield 82, 3) := by decide +kernel
theorem dX10_lock_14 : decode mX10_lock.2.1 14 = .ok (.aload_n 0, 1) := by decide +kernel
theorem dX10_lock_15 : decode mX10_lock.2.1 15 = .ok (.getfield 43, 3) := by decide +kernel
theorem dX10_lock_18 : decode mX10_lock.2.1 18 = .ok (.iload_n 3, 1) := by decide +kernel
theorem dX10_lock_19 : decode mX10_lock.2.1 19 = .ok (.iaload, 1) := by decide +kernel
theorem dX10_lock_20 : decode mX10_lock.2.1 20 = .ok (.dup2, 1) := by decide +kernel
theorem dX10_lock_21 : decode mX10_lock.2.1 21 = .ok (.iaload, 1) := by decide +kernel
theorem dX10_lock_22 : decode mX10_lock.2.1 22 = .ok (.iconst 1, 1) := by decide +kernel
theorem dX10_lock_23 : decode mX10_lock.2.1 23 = .ok (.iadd, 1) := by decide +kernel
theorem dX10_lock_24 : decode mX10_lock.2.1 24 = .ok (.iastore, 1) := by decide +kernel
theorem dX10_lock_25 : decode mX10_lock.2.1 25 = .ok (.aload_n 0, 1) := by decide +kernel
theorem dX10_lock_26 : decode mX10_lock.2.1 26 = .ok (.dup, 1) := by decide +kernel
theorem dX10_lock_27 : decode mX10_lock.2.1 27 = .ok (.getfield 251, 3) := by decide +kernel
theorem dX10_lock_30 : decode mX10_lock.2.1 30 = .ok (.aload_n 0, 1) := by decide +kernel
theorem dX10_lock_31 : decode mX10_lock.2.1 31 = .ok (.getfield 73, 3) := by decide +kernel
theorem dX10_lock_34 : decode mX10_lock.2.1 34 = .ok (.iload_n 1, 1) := by decide +kernel
theorem dX10_lock_35 : decode mX10_lock.2.1 35 = .ok (.iaload, 1) := by decide +kernel
theorem dX10_lock_36 : decode mX10_lock.2.1 36 = .ok (.iload_n 2, 1) := by decide +kernel
theorem dX10_lock_37 : decode mX10_lock.2.1 37 = .ok (.invokestatic 186, 3) := by decide +kernel
theorem dX10_lock_40 : decode mX10_lock.2.1 40 = .ok (.ifCond .eq 7, 3) := by decide +kernel
theorem dX10_lock_43 : decode mX10_lock.2.1 43 = .ok (.iconst 1, 1) := by decide +kernel
theorem dX10_lock_44 : decode mX10_lock.2.1 44 = .ok (.goto 4, 3) := by decide +kernel
theorem dX10_lock_47 : decode mX10_lock.2.1 47 = .ok (.iconst 0, 1) := by decide +kernel
theorem dX10_lock_48 : decode mX10_lock.2.1 48 = .ok (.iadd, 1) := by decide +kernel
theorem dX10_lock_49 : decode mX10_lock.2.1 49 = .ok (.putfield 251, 3) := by decide +kernel
theorem dX10_lock_52 : decode mX10_lock.2.1 52 = .ok (.return_, 1) := by decide +kernel
theorem dX10_step_0 : decode mX10_step.2.1 0 = .ok (.aload_n 0, 1) := by decide +kernel
theorem dX10_step_1 : decode mX10_step.2.1 1 = .ok (.getfield 230, 3) := by decide +kernel
theorem dX10_step_4 : decode mX10_step.2.1 4 = .ok (.iconst 1, 1) := by decide +kernel
theorem dX10_step_5 : decode mX10_step.2.1 5 = .ok (.isub, 1) := by decide +kernel
theorem dX10_step_6 : decode mX10_step.2.1 6 = .ok (.istore_n 1, 1) := by decide +kernel
theorem dX10_step_7 : decode mX10_step.2.1 7 = .ok (.aload_n 0, 1) := by decide +kernel
theorem dX10_step_8 : decode mX10_step.2.1 8 = .ok (.getfield 58, 3) := by decide +kernel
theorem dX10_step_11 : decode mX10_step.2.1 11 = .ok (.iload_n 1, 1) := by decide +kernel
theorem dX10_step_12 : decode mX10_step.2.1 12 = .ok (.iaload, 1) := by decide +kernel
theorem dX10_step_13 : decode mX10_step.2.1 13 = .ok (.istore_n 2, 1) := by decide +kernel
theorem dX10_step_14 : decode mX10_step.2.1 14 = .ok (.aload_n 0, 1) := by decide +kernel
theorem dX10_step_15 : decode mX10_step.2.1 15 = .ok (.getfield 61, 3) := by decide +kernel
theorem dX10_step_18 : decode mX10_step.2.1 18 = .ok (.iload_n 1, 1) := by decide +kernel
theorem dX10_step_19 : decode mX10_step.2.1 19 = .ok (.iaload, 1) := by decide +kernel
theorem dX10_step_20 : decode mX10_step.2.1 20 = .ok (.istore_n 3, 1) := by decide +kernel
theorem dX10_step_21 : decode mX10_step.2.1 21 = .ok (.iload_n 3, 1) := by decide +kernel
theorem dX10_step_22 : decode mX10_step.2.1 22 = .ok (.aload_n 0, 1) := by decide +kernel
theorem dX10_step_23 : decode mX10_step.2.1 23 = .ok (.iload_n 2, 1) := by decide +kernel
theorem dX10_step_24 : decode mX10_step.2.1 24 = .ok (.invokevirtual 168, 3) := by decide +kernel
theorem dX10_step_27 : decode mX10_step.2.1 27 = .ok (.if_icmp .ne 8, 3) := by decide +kernel
theorem dX10_step_30 : decode mX10_step.2.1 30 = .ok (.aload_n 0, 1) := by decide +kernel
theorem dX10_step_31 : decode mX10_step.2.1 31 = .ok (.invokevirtual 254, 3) := by decide +kernel
theorem dX10_step_34 : decode mX10_step.2.1 34 = .ok (.return_, 1) := by decide +kernel
theorem dX10_step_35 : decode mX10_step.2.1 35 = .ok (.aload_n 0, 1) := by decide +kernel
theorem dX10_step_36 : decode mX10_step.2.1 36 = .ok (.getfield 61, 3) := by decide +kernel
theorem dX10_step_39 : decode mX10_step.2.1 39 = .ok (.iload_n 1, 1) := by decide +kernel
theorem dX10_step_40 : decode mX10_step.2.1 40 = .ok (.dup2, 1) := by decide +kernel
theorem dX10_step_41 : decode mX10_step.2.1 41 = .ok (.iaload, 1) := by decide +kernel
theorem dX10_step_42 : decode mX10_step.2.1 42 = .ok (.iconst 1, 1) := by decide +kernel
theorem dX10_step_43 : decode mX10_step.2.1 43 = .ok (.iadd, 1) := by decide +kernel
theorem dX10_step_44 : decode mX10_step.2.1 44 = .ok (.iastore, 1) := by decide +kernel
theorem dX10_step_45 : decode mX10_step.2.1 45 = .ok (.aload_n 0, 1) := by decide +kernel
theorem dX10_step_46 : decode mX10_step.2.1 46 = .ok (.iload_n 2, 1) := by decide +kernel
theorem dX10_step_47 : decode mX10_step.2.1 47 = .ok (.iload_n 3, 1) := by decide +kernel
theorem dX10_step_48 : decode mX10_step.2.1 48 = .ok (.iconst 0, 1) := by decide +kernel
theorem dX10_step_49 : decode mX10_step.2.1 49 = .ok (.invokevirtual 178, 3) := by decide +kernel
theorem dX10_step_52 : decode mX10_step.2.1 52 = .ok (.istore 4, 2) := by decide +kernel
theorem dX10_step_54 : decode mX10_step.2.1 54 = .ok (.iconst 4, 1) := by decide +kernel
theorem dX10_step_55 : decode mX10_step.2.1 55 = .ok (.iload_n 1, 1) := by decide +kernel
theorem dX10_step_56 : decode mX10_step.2.1 56 = .ok (.imul, 1) := by decide +kernel
theorem dX10_step_57 : decode mX10_step.2.1 57 = .ok (.aload_n 0, 1) := by decide +kernel
theorem dX10_step_58 : decode mX10_step.2.1 58 = .ok (.iload_n 2, 1) := by decide +kernel
theorem dX10_step_59 : decode mX10_step.2.1 59 = .ok (.iload_n 3, 1) := by decide +kernel
theorem dX10_step_60 : decode mX10_step.2.1 60 = .ok (.iconst 1, 1) := by decide +kernel
theorem dX10_step_61 : decode mX10_step.2.1 61 = .ok (.invokevirtual 178, 3) := by decide +kernel
theorem dX10_step_64 : decode mX10_step.2.1 64 = .ok (.iadd, 1) := by decide +kernel
theorem dX10_step_65 : decode mX10_step.2.1 65 = .ok (.istore 5, 2) := by decide +kernel
theorem dX10_step_67 : decode mX10_step.2.1 67 = .ok (.iload 4, 2) := by decide +kernel
theorem dX10_step_69 : decode mX10_step.2.1 69 = .ok (.iconst 1, 1) := by decide +kernel
theorem dX10_step_70 : decode mX10_step.2.1 70 = .ok (.if_icmp .eq 22, 3) := by decide +kernel
theorem dX10_step_73 : decode mX10_step.2.1 73 = .ok (.iload 4, 2) := by decide +kernel
theorem dX10_step_75 : decode mX10_step.2.1 75 = .ok (.iconst 2, 1) := by decide +kernel
theorem dX10_step_76 : decode mX10_step.2.1 76 = .ok (.if_icmp .eq 16, 3) := by decide +kernel
theorem dX10_step_79 : decode mX10_step.2.1 79 = .ok (.iload 4, 2) := by decide +kernel
theorem dX10_step_81 : decode mX10_step.2.1 81 = .ok (.iconst 3, 1) := by decide +kernel
theorem dX10_step_82 : decode mX10_step.2.1 82 = .ok (.if_icmp .eq 10, 3) := by decide +kernel
theorem dX10_step_85 : decode mX10_step.2.1 85 = .ok (.iload 4, 2) := by decide +kernel
theorem dX10_step_87 : decode mX10_step.2.1 87 = .ok (.bipush 7, 2) := by decide +kernel
theorem dX10_step_89 : decode mX10_step.2.1 89 = .ok (.if_icmp .ne 22, 3) := by decide +kernel
theorem dX10_step_92 : decode mX10_step.2.1 92 = .ok (.aload_n 0, 1) := by decide +kernel
theorem dX10_step_93 : decode mX10_step.2.1 93 = .ok (.getfield 55, 3) := by decide +kernel
theorem dX10_step_96 : decode mX10_step.2.1 96 = .ok (.iconst 4, 1) := by decide +kernel
theorem dX10_step_97 : decode mX10_step.2.1 97 = .ok (.iload_n 1, 1) := by decide +kernel
theorem dX10_step_98 : decode mX10_step.2.1 98 = .ok (.imul, 1) := by decide +kernel
theorem dX10_step_99 : decode mX10_step.2.1 99 = .ok (.aload_n 0, 1) := by decide +kernel
theorem dX10_step_100 : decode mX10_step.2.1 100 = .ok (.iload_n 2, 1) := by decide +kernel
theorem dX10_step_101 : decode mX10_step.2.1 101 = .ok (.iload_n 3, 1) := by decide +kernel
theorem dX10_step_102 : decode mX10_step.2.1 102 = .ok (.iconst 2, 1) := by decide +kernel
theorem dX10_step_103 : decode mX10_step.2.1 103 = .ok (.invokevirtual 178, 3) := by decide +kernel
theorem dX10_step_106 : decode mX10_step.2.1 106 = .ok (.iadd, 1) := by decide +kernel
theorem dX10_step_107 : decode mX10_step.2.1 107 = .ok (.iaload, 1) := by decide +kernel
theorem dX10_step_108 : decode mX10_step.2.1 108 = .ok (.goto 4, 3) := by decide +kernel
theorem dX10_step_111 : decode mX10_step.2.1 111 = .ok (.iconst (-1), 1) := by decide +kernel
theorem dX10_step_112 : decode mX10_step.2.1 112 = .ok (.istore 6, 2) := by decide +kernel
theorem dX10_step_114 : decode mX10_step.2.1 114 = .ok (.aload_n 0, 1) := by decide +kernel
theorem dX10_step_115 : decode mX10_step.2.1 115 = .ok (.iload 4, 2) := by decide +kernel
theorem dX10_step_117 : decode mX10_step.2.1 117 = .ok (.iconst 2, 1) := by decide +kernel
theorem dX10_step_118 : decode mX10_step.2.1 118 = .ok (.if_icmp .eq 10, 3) := by decide +kernel
theorem dX10_step_121 : decode mX10_step.2.1 121 = .ok (.iload 4, 2) := by decide +kernel
theorem dX10_step_123 : decode mX10_step.2.1 123 = .ok (.bipush 6, 2) := by decide +kernel
theorem dX10_step_125 : decode mX10_step.2.1 125 = .ok (.if_icmp .ne 14, 3) := by decide +kernel
theorem dX10_step_128 : decode mX10_step.2.1 128 = .ok (.aload_n 0, 1) := by decide +kernel
theorem dX10_step_129 : decode mX10_step.2.1 129 = .ok (.getfield 55, 3) := by decide +kernel
theorem dX10_step_132 : decode mX10_step.2.1 132 = .ok (.iload 5, 2) := by decide +kernel
theorem dX10_step_134 : decode mX10_step.2.1 134 = .ok (.iaload, 1) := by decide +kernel
theorem dX10_step_135 : decode mX10_step.2.1 135 = .ok (.iconst (-1), 1) := by decide +kernel
theorem dX10_step_136 : decode mX10_step.2.1 136 = .ok (.if_icmp .eq 15, 3) := by decide +kernel
theorem dX10_step_139 : decode mX10_step.2.1 139 = .ok (.iload 4, 2) := by decide +kernel
theorem dX10_step_141 : decode mX10_step.2.1 141 = .ok (.iconst 3, 1) := by decide +kernel
theorem dX10_step_142 : decode mX10_step.2.1 142 = .ok (.if_icmp .ne 13, 3) := by decide +kernel
theorem dX10_step_145 : decode mX10_step.2.1 145 = .ok (.iload 6, 2) := by decide +kernel
theorem dX10_step_147 : decode mX10_step.2.1 147 = .ok (.iconst (-1), 1) := by decide +kernel
theorem dX10_step_148 : decode mX10_step.2.1 148 = .ok (.if_icmp .ne 7, 3) := by decide +kernel
theorem dX10_step_151 : decode mX10_step.2.1 151 = .ok (.iconst 1, 1) := by decide +kernel
theorem dX10_step_152 : decode mX10_step.2.1 152 = .ok (.goto 4, 3) := by decide +kernel
theorem dX10_step_155 : decode mX10_step.2.1 155 = .ok (.iconst 0, 1) := by decide +kernel
theorem dX10_step_156 : decode mX10_step.2.1 156 = .ok (.putfield 257, 3) := by decide +kernel
theorem dX10_step_159 : decode mX10_step.2.1 159 = .ok (.aload_n 0, 1) := by decide +kernel
theorem dX10_step_160 : decode mX10_step.2.1 160 = .ok (.getfield 257, 3) := by decide +kernel
theorem dX10_step_163 : decode mX10_step.2.1 163 = .ok (.ifCond .eq 4, 3) := by decide +kernel
theorem dX10_step_166 : decode mX10_step.2.1 166 = .ok (.return_, 1) := by decide +kernel
theorem dX10_step_167 : decode mX10_step.2.1 167 = .ok (.iload 4, 2) := by decide +kernel
theorem dX10_step_169 : decode mX10_step.2.1 169 = .ok (.tableswitch 158 0 6 #[43, 68, 80, 97, 114, 128, 142], 43) := by decide +kernel
theorem dX10_step_212 : decode mX10_step.2.1 212 = .ok (.aload_n 0, 1) := by decide +kernel
theorem dX10_step_213 : decode mX10_step.2.1 213 = .ok (.getfield 55, 3) := by decide +kernel
theorem dX10_step_216 : decode mX10_step.2.1 216 = .ok (.iload 5, 2) := by decide +kernel
theorem dX10_step_218 : decode mX10_step.2.1 218 = .ok (.aload_n 0, 1) := by decide +kernel
theorem dX10_step_219 : decode mX10_step.2.1 219 = .ok (.aload_n 0, 1) := by decide +kernel
theorem dX10_step_220 : decode mX10_step.2.1 220 = .ok (.getfield 37, 3) := by decide +kernel
theorem dX10_step_223 : decode mX10_step.2.1 223 = .ok (.bipush 8, 2) := by decide +kernel
theorem dX10_step_225 : decode mX10_step.2.1 225 = .ok (.iload_n 2, 1) := by decide +kernel
theorem dX10_step_226 : decode mX10_step.2.1 226 = .ok (.imul, 1) := by decide +kernel
theorem dX10_step_227 : decode mX10_step.2.1 227 = .ok (.iload_n 3, 1) := by decide +kernel
theorem dX10_step_228 : decode mX10_step.2.1 228 = .ok (.iadd, 1) := by decide +kernel
theorem dX10_step_229 : decode mX10_step.2.1 229 = .ok (.iaload, 1) := by decide +kernel
theorem dX10_step_230 : decode mX10_step.2.1 230 = .ok (.invokevirtual 260, 3) := by decide +kernel
theorem dX10_step_233 : decode mX10_step.2.1 233 = .ok (.iastore, 1) := by decide +kernel
theorem dX10_step_234 : decode mX10_step.2.1 234 = .ok (.goto 106, 3) := by decide +kernel
theorem dX10_step_237 : decode mX10_step.2.1 237 = .ok (.aload_n 0, 1) := by decide +kernel
theorem dX10_step_238 : decode mX10_step.2.1 238 = .ok (.getfield 55, 3) := by decide +kernel
theorem dX10_step_241 : decode mX10_step.2.1 241 = .ok (.iload 5, 2) := by decide +kernel
theorem dX10_step_243 : decode mX10_step.2.1 243 = .ok (.iload 6, 2) := by decide +kernel
theorem dX10_step_245 : decode mX10_step.2.1 245 = .ok (.iastore, 1) := by decide +kernel
theorem dX10_step_246 : decode mX10_step.2.1 246 = .ok (.goto 94, 3) := by decide +kernel
theorem dX10_step_249 : decode mX10_step.2.1 249 = .ok (.aload_n 0, 1) := by decide +kernel
theorem dX10_step_250 : decode mX10_step.2.1 250 = .ok (.getfield 46, 3) := by decide +kernel
theorem dX10_step_253 : decode mX10_step.2.1 253 = .ok (.aload_n 0, 1) := by decide +kernel
theorem dX10_step_254 : decode mX10_step.2.1 254 = .ok (.getfield 55, 3) := by decide +kernel
theorem dX10_step_257 : decode mX10_step.2.1 257 = .ok (.iload 5, 2) := by decide +kernel
theorem dX10_step_259 : decode mX10_step.2.1 259 = .ok (.iaload, 1) := by decide +kernel
theorem dX10_step_260 : decode mX10_step.2.1 260 = .ok (.iload 6, 2) := by decide +kernel
theorem dX10_step_262 : decode mX10_step.2.1 262 = .ok (.iastore, 1) := by decide +kernel
theorem dX10_step_263 : decode mX10_step.2.1 263 = .ok (.goto 77, 3) := by decide +kernel
theorem dX10_step_266 : decode mX10_step.2.1 266 = .ok (.aload_n 0, 1) := by decide +kernel
theorem dX10_step_267 : decode mX10_step.2.1 267 = .ok (.getfield 55, 3) := by decide +kernel
theorem dX10_step_270 : decode mX10_step.2.1 270 = .ok (.iload 5, 2) := by decide +kernel
theorem dX10_step_272 : decode mX10_step.2.1 272 = .ok (.aload_n 0, 1) := by decide +kernel
theorem dX10_step_273 : decode mX10_step.2.1 273 = .ok (.getfield 46, 3) := by decide +kernel
theorem dX10_step_276 : decode mX10_step.2.1 276 = .ok (.iload 6, 2) := by decide +kernel
theorem dX10_step_278 : decode mX10_step.2.1 278 = .ok (.iaload, 1) := by decide +kernel
theorem dX10_step_279 : decode mX10_step.2.1 279 = .ok (.iastore, 1) := by decide +kernel
theorem dX10_step_280 : decode mX10_step.2.1 280 = .ok (.goto 60, 3) := by decide +kernel
theorem dX10_step_283 : decode mX10_step.2.1 283 = .ok (.aload_n 0, 1) := by decide +kernel
theorem dX10_step_284 : decode mX10_step.2.1 284 = .ok (.aload_n 0, 1) := by decide +kernel
theorem dX10_step_285 : decode mX10_step.2.1 285 = .ok (.getfield 55, 3) := by decide +kernel
theorem dX10_step_288 : decode mX10_step.2.1 288 = .ok (.iload 5, 2) := by decide +kernel
theorem dX10_step_290 : decode mX10_step.2.1 290 = .ok (.iaload, 1) := by decide +kernel
theorem dX10_step_291 : decode mX10_step.2.1 291 = .ok (.putfield 239, 3) := by decide +kernel
theorem dX10_step_294 : decode mX10_step.2.1 294 = .ok (.goto 46, 3) := by decide +kernel
theorem dX10_step_297 : decode mX10_step.2.1 297 = .ok (.aload_n 0, 1) := by decide +kernel
theorem dX10_step_298 : decode mX10_step.2.1 298 = .ok (.getfield 55, 3) := by decide +kernel
theorem dX10_step_301 : decode mX10_step.2.1 301 = .ok (.iload 5, 2) := by decide +kernel
theorem dX10_step_303 : decode mX10_step.2.1 303 = .ok (.aload_n 0, 1) := by decide +kernel
theorem dX10_step_304 : decode mX10_step.2.1 304 = .ok (.getfield 239, 3) := by decide +kernel
theorem dX10_step_307 : decode mX10_step.2.1 307 = .ok (.iastore, 1) := by decide +kernel
theorem dX10_step_308 : decode mX10_step.2.1 308 = .ok (.goto 32, 3) := by decide +kernel
theorem dX10_step_311 : decode mX10_step.2.1 311 = .ok (.aload_n 0, 1) := by decide +kernel
theorem dX10_step_312 : decode mX10_step.2.1 312 = .ok (.iload_n 2, 1) := by decide +kernel
theorem dX10_step_313 : decode mX10_step.2.1 313 = .ok (.iload_n 3, 1) := by decide +kernel
theorem dX10_step_314 : decode mX10_step.2.1 314 = .ok (.aload_n 0, 1) := by decide +kernel
theorem dX10_step_315 : decode mX10_step.2.1 315 = .ok (.getfield 55, 3) := by decide +kernel
theorem dX10_step_318 : decode mX10_step.2.1 318 = .ok (.iload 5, 2) := by decide +kernel
theorem dX10_step_320 : decode mX10_step.2.1 320 = .ok (.iaload, 1) := by decide +kernel
theorem dX10_step_321 : decode mX10_step.2.1 321 = .ok (.invokevirtual 263, 3) := by decide +kernel
theorem dX10_step_324 : decode mX10_step.2.1 324 = .ok (.goto 16, 3) := by decide +kernel
theorem dX10_step_327 : decode mX10_step.2.1 327 = .ok (.aload_n 0, 1) := by decide +kernel
theorem dX10_step_328 : decode mX10_step.2.1 328 = .ok (.aload_n 0, 1) := by decide +kernel
theorem dX10_step_329 : decode mX10_step.2.1 329 = .ok (.iload_n 2, 1) := by decide +kernel
theorem dX10_step_330 : decode mX10_step.2.1 330 = .ok (.iload_n 3, 1) := by decide +kernel
theorem dX10_step_331 : decode mX10_step.2.1 331 = .ok (.iconst 3, 1) := by decide +kernel
theorem dX10_step_332 : decode mX10_step.2.1 332 = .ok (.invokevirtual 178, 3) := by decide +kernel
theorem dX10_step_335 : decode mX10_step.2.1 335 = .ok (.iload 6, 2) := by decide +kernel
theorem dX10_step_337 : decode mX10_step.2.1 337 = .ok (.invokevirtual 267, 3) := by decide +kernel
theorem dX10_step_340 : decode mX10_step.2.1 340 = .ok (.return_, 1) := by decide +kernel
theorem dX10_goRun_0 : decode mX10_goRun.2.1 0 = .ok (.aload_n 0, 1) := by decide +kernel
theorem dX10_goRun_1 : decode mX10_goRun.2.1 1 = .ok (.invokevirtual 214, 3) := by decide +kernel
theorem dX10_goRun_4 : decode mX10_goRun.2.1 4 = .ok (.aload_n 0, 1) := by decide +kernel
theorem dX10_goRun_5 : decode mX10_goRun.2.1 5 = .ok (.iconst 0, 1) := by decide +kernel
theorem dX10_goRun_6 : decode mX10_goRun.2.1 6 = .ok (.putfield 236, 3) := by decide +kernel
theorem dX10_goRun_9 : decode mX10_goRun.2.1 9 = .ok (.aload_n 0, 1) := by decide +kernel
theorem dX10_goRun_10 : decode mX10_goRun.2.1 10 = .ok (.iconst (-1), 1) := by decide +kernel
theorem dX10_goRun_11 : decode mX10_goRun.2.1 11 = .ok (.putfield 239, 3) := by decide +kernel
theorem dX10_goRun_14 : decode mX10_goRun.2.1 14 = .ok (.aload_n 0, 1) := by decide +kernel
theorem dX10_goRun_15 : decode mX10_goRun.2.1 15 = .ok (.iconst 0, 1) := by decide +kernel
theorem dX10_goRun_16 : decode mX10_goRun.2.1 16 = .ok (.putfield 230, 3) := by decide +kernel
theorem dX10_goRun_19 : decode mX10_goRun.2.1 19 = .ok (.aload_n 0, 1) := by decide +kernel
theorem dX10_goRun_20 : decode mX10_goRun.2.1 20 = .ok (.iconst 0, 1) := by decide +kernel
theorem dX10_goRun_21 : decode mX10_goRun.2.1 21 = .ok (.putfield 257, 3) := by decide +kernel
theorem dX10_goRun_24 : decode mX10_goRun.2.1 24 = .ok (.aload_n 0, 1) := by decide +kernel
theorem dX10_goRun_25 : decode mX10_goRun.2.1 25 = .ok (.iconst 0, 1) := by decide +kernel
theorem dX10_goRun_26 : decode mX10_goRun.2.1 26 = .ok (.putfield 248, 3) := by decide +kernel
theorem dX10_goRun_29 : decode mX10_goRun.2.1 29 = .ok (.aload_n 0, 1) := by decide +kernel
theorem dX10_goRun_30 : decode mX10_goRun.2.1 30 = .ok (.iconst 0, 1) := by decide +kernel
theorem dX10_goRun_31 : decode mX10_goRun.2.1 31 = .ok (.putfield 251, 3) := by decide +kernel
theorem dX10_goRun_34 : decode mX10_goRun.2.1 34 = .ok (.aload_n 0, 1) := by decide +kernel
theorem dX10_goRun_35 : decode mX10_goRun.2.1 35 = .ok (.iconst 0, 1) := by decide +kernel
theorem dX10_goRun_36 : decode mX10_goRun.2.1 36 = .ok (.putfield 233, 3) := by decide +kernel
theorem dX10_goRun_39 : decode mX10_goRun.2.1 39 = .ok (.aload_n 0, 1) := by decide +kernel
theorem dX10_goRun_40 : decode mX10_goRun.2.1 40 = .ok (.iconst 0, 1) := by decide +kernel
theorem dX10_goRun_41 : decode mX10_goRun.2.1 41 = .ok (.putfield 245, 3) := by decide +kernel
theorem dX10_goRun_44 : decode mX10_goRun.2.1 44 = .ok (.iconst 0, 1) := by decide +kernel
theorem dX10_goRun_45 : decode mX10_goRun.2.1 45 = .ok (.istore_n 1, 1) := by decide +kernel
theorem dX10_goRun_46 : decode mX10_goRun.2.1 46 = .ok (.iload_n 1, 1) := by decide +kernel
theorem dX10_goRun_47 : decode mX10_goRun.2.1 47 = .ok (.bipush 32, 2) := by decide +kernel
theorem dX10_goRun_49 : decode mX10_goRun.2.1 49 = .ok (.if_icmp .ge 30, 3) := by decide +kernel
theorem dX10_goRun_52 : decode mX10_goRun.2.1 52 = .ok (.aload_n 0, 1) := by decide +kernel
theorem dX10_goRun_53 : decode mX10_goRun.2.1 53 = .ok (.getfield 76, 3) := by decide +kernel
theorem dX10_goRun_56 : decode mX10_goRun.2.1 56 = .ok (.iload_n 1, 1) := by decide +kernel
theorem dX10_goRun_57 : decode mX10_goRun.2.1 57 = .ok (.iconst 0, 1) := by decide +kernel
theorem dX10_goRun_58 : decode mX10_goRun.2.1 58 = .ok (.iastore, 1) := by decide +kernel
theorem dX10_goRun_59 : decode mX10_goRun.2.1 59 = .ok (.aload_n 0, 1) := by decide +kernel
theorem dX10_goRun_60 : decode mX10_goRun.2.1 60 = .ok (.getfield 79, 3) := by decide +kernel
theorem dX10_goRun_63 : decode mX10_goRun.2.1 63 = .ok (.iload_n 1, 1) := by decide +kernel
theorem dX10_goRun_64 : decode mX10_goRun.2.1 64 = .ok (.iconst 0, 1) := by decide +kernel
theorem dX10_goRun_65 : decode mX10_goRun.2.1 65 = .ok (.iastore, 1) := by decide +kernel
theorem dX10_goRun_66 : decode mX10_goRun.2.1 66 = .ok (.aload_n 0, 1) := by decide +kernel
theorem dX10_goRun_67 : decode mX10_goRun.2.1 67 = .ok (.getfield 82, 3) := by decide +kernel
theorem dX10_goRun_70 : decode mX10_goRun.2.1 70 = .ok (.iload_n 1, 1) := by decide +kernel
theorem dX10_goRun_71 : decode mX10_goRun.2.1 71 = .ok (.iconst 0, 1) := by decide +kernel
theorem dX10_goRun_72 : decode mX10_goRun.2.1 72 = .ok (.iastore, 1) := by decide +kernel
theorem dX10_goRun_73 : decode mX10_goRun.2.1 73 = .ok (.iinc 1 1, 3) := by decide +kernel
theorem dX10_goRun_76 : decode mX10_goRun.2.1 76 = .ok (.goto (-30), 3) := by decide +kernel
theorem dX10_goRun_79 : decode mX10_goRun.2.1 79 = .ok (.iconst 0, 1) := by decide +kernel
theorem dX10_goRun_80 : decode mX10_goRun.2.1 80 = .ok (.istore_n 1, 1) := by decide +kernel
theorem dX10_goRun_81 : decode mX10_goRun.2.1 81 = .ok (.iload_n 1, 1) := by decide +kernel
theorem dX10_goRun_82 : decode mX10_goRun.2.1 82 = .ok (.aload_n 0, 1) := by decide +kernel
theorem dX10_goRun_83 : decode mX10_goRun.2.1 83 = .ok (.getfield 7, 3) := by decide +kernel
theorem dX10_goRun_86 : decode mX10_goRun.2.1 86 = .ok (.iconst 0, 1) := by decide +kernel
theorem dX10_goRun_87 : decode mX10_goRun.2.1 87 = .ok (.iaload, 1) := by decide +kernel
theorem dX10_goRun_88 : decode mX10_goRun.2.1 88 = .ok (.if_icmp .ge 20, 3) := by decide +kernel
theorem dX10_goRun_91 : decode mX10_goRun.2.1 91 = .ok (.aload_n 0, 1) := by decide +kernel
theorem dX10_goRun_92 : decode mX10_goRun.2.1 92 = .ok (.getfield 73, 3) := by decide +kernel
theorem dX10_goRun_95 : decode mX10_goRun.2.1 95 = .ok (.iload_n 1, 1) := by decide +kernel
theorem dX10_goRun_96 : decode mX10_goRun.2.1 96 = .ok (.aload_n 0, 1) := by decide +kernel
theorem dX10_goRun_97 : decode mX10_goRun.2.1 97 = .ok (.iload_n 1, 1) := by decide +kernel
theorem dX10_goRun_98 : decode mX10_goRun.2.1 98 = .ok (.invokevirtual 211, 3) := by decide +kernel
theorem dX10_goRun_101 : decode mX10_goRun.2.1 101 = .ok (.iastore, 1) := by decide +kernel
theorem dX10_goRun_102 : decode mX10_goRun.2.1 102 = .ok (.iinc 1 1, 3) := by decide +kernel
theorem dX10_goRun_105 : decode mX10_goRun.2.1 105 = .ok (.goto (-24), 3) := by decide +kernel
theorem dX10_goRun_108 : decode mX10_goRun.2.1 108 = .ok (.aload_n 0, 1) := by decide +kernel
theorem dX10_goRun_109 : decode mX10_goRun.2.1 109 = .ok (.getfield 7, 3) := by decide +kernel
theorem dX10_goRun_112 : decode mX10_goRun.2.1 112 = .ok (.iconst 0, 1) := by decide +kernel
theorem dX10_goRun_113 : decode mX10_goRun.2.1 113 = .ok (.iaload, 1) := by decide +kernel
theorem dX10_goRun_114 : decode mX10_goRun.2.1 114 = .ok (.ifCond .le 9, 3) := by decide +kernel
theorem dX10_goRun_117 : decode mX10_goRun.2.1 117 = .ok (.aload_n 0, 1) := by decide +kernel
theorem dX10_goRun_118 : decode mX10_goRun.2.1 118 = .ok (.iconst 0, 1) := by decide +kernel
theorem dX10_goRun_119 : decode mX10_goRun.2.1 119 = .ok (.iconst (-1), 1) := by decide +kernel
theorem dX10_goRun_120 : decode mX10_goRun.2.1 120 = .ok (.invokevirtual 267, 3) := by decide +kernel
theorem dX10_goRun_123 : decode mX10_goRun.2.1 123 = .ok (.aload_n 0, 1) := by decide +kernel
theorem dX10_goRun_124 : decode mX10_goRun.2.1 124 = .ok (.getfield 230, 3) := by decide +kernel
theorem dX10_goRun_127 : decode mX10_goRun.2.1 127 = .ok (.ifCond .le 17, 3) := by decide +kernel
theorem dX10_goRun_130 : decode mX10_goRun.2.1 130 = .ok (.aload_n 0, 1) := by decide +kernel
theorem dX10_goRun_131 : decode mX10_goRun.2.1 131 = .ok (.getfield 257, 3) := by decide +kernel
theorem dX10_goRun_134 : decode mX10_goRun.2.1 134 = .ok (.ifCond .ne 10, 3) := by decide +kernel
theorem dX10_goRun_137 : decode mX10_goRun.2.1 137 = .ok (.aload_n 0, 1) := by decide +kernel
theorem dX10_goRun_138 : decode mX10_goRun.2.1 138 = .ok (.invokevirtual 270, 3) := by decide +kernel
theorem dX10_goRun_141 : decode mX10_goRun.2.1 141 = .ok (.goto (-18), 3) := by decide +kernel
theorem dX10_goRun_144 : decode mX10_goRun.2.1 144 = .ok (.return_, 1) := by decide +kernel
theorem dX10_ofRun_0 : decode mX10_ofRun.2.1 0 = .ok (.iload_n 1, 1) := by decide +kernel
theorem dX10_ofRun_1 : decode mX10_ofRun.2.1 1 = .ok (.ifCond .ne 18, 3) := by decide +kernel
theorem dX10_ofRun_4 : decode mX10_ofRun.2.1 4 = .ok (.aload_n 0, 1) := by decide +kernel
theorem dX10_ofRun_5 : decode mX10_ofRun.2.1 5 = .ok (.getfield 257, 3) := by decide +kernel
theorem dX10_ofRun_8 : decode mX10_ofRun.2.1 8 = .ok (.ifCond .eq 7, 3) := by decide +kernel
theorem dX10_ofRun_11 : decode mX10_ofRun.2.1 11 = .ok (.iconst 1, 1) := by decide +kernel
theorem dX10_ofRun_12 : decode mX10_ofRun.2.1 12 = .ok (.goto 59, 3) := by decide +kernel
theorem dX10_ofRun_15 : decode mX10_ofRun.2.1 15 = .ok (.iconst 0, 1) := by decide +kernel
theorem dX10_ofRun_16 : decode mX10_ofRun.2.1 16 = .ok (.goto 55, 3) := by decide +kernel
theorem dX10_ofRun_19 : decode mX10_ofRun.2.1 19 = .ok (.iload_n 1, 1) := by decide +kernel
theorem dX10_ofRun_20 : decode mX10_ofRun.2.1 20 = .ok (.iconst 1, 1) := by decide +kernel
theorem dX10_ofRun_21 : decode mX10_ofRun.2.1 21 = .ok (.if_icmp .ne 10, 3) := by decide +kernel
theorem dX10_ofRun_24 : decode mX10_ofRun.2.1 24 = .ok (.aload_n 0, 1) := by decide +kernel
theorem dX10_ofRun_25 : decode mX10_ofRun.2.1 25 = .ok (.getfield 236, 3) := by decide +kernel
theorem dX10_ofRun_28 : decode mX10_ofRun.2.1 28 = .ok (.goto 43, 3) := by decide +kernel
theorem dX10_ofRun_31 : decode mX10_ofRun.2.1 31 = .ok (.iload_n 1, 1) := by decide +kernel
theorem dX10_ofRun_32 : decode mX10_ofRun.2.1 32 = .ok (.iconst 2, 1) := by decide +kernel
theorem dX10_ofRun_33 : decode mX10_ofRun.2.1 33 = .ok (.if_icmp .ne 10, 3) := by decide +kernel
theorem dX10_ofRun_36 : decode mX10_ofRun.2.1 36 = .ok (.aload_n 0, 1) := by decide +kernel
theorem dX10_ofRun_37 : decode mX10_ofRun.2.1 37 = .ok (.getfield 248, 3) := by decide +kernel
theorem dX10_ofRun_40 : decode mX10_ofRun.2.1 40 = .ok (.goto 31, 3) := by decide +kernel
theorem dX10_ofRun_43 : decode mX10_ofRun.2.1 43 = .ok (.iload_n 1, 1) := by decide +kernel
theorem dX10_ofRun_44 : decode mX10_ofRun.2.1 44 = .ok (.iconst 3, 1) := by decide +kernel
theorem dX10_ofRun_45 : decode mX10_ofRun.2.1 45 = .ok (.if_icmp .ne 10, 3) := by decide +kernel
theorem dX10_ofRun_48 : decode mX10_ofRun.2.1 48 = .ok (.aload_n 0, 1) := by decide +kernel
theorem dX10_ofRun_49 : decode mX10_ofRun.2.1 49 = .ok (.getfield 251, 3) := by decide +kernel
theorem dX10_ofRun_52 : decode mX10_ofRun.2.1 52 = .ok (.goto 19, 3) := by decide +kernel
theorem dX10_ofRun_55 : decode mX10_ofRun.2.1 55 = .ok (.iload_n 1, 1) := by decide +kernel
theorem dX10_ofRun_56 : decode mX10_ofRun.2.1 56 = .ok (.iconst 4, 1) := by decide +kernel
theorem dX10_ofRun_57 : decode mX10_ofRun.2.1 57 = .ok (.if_icmp .ne 10, 3) := by decide +kernel
theorem dX10_ofRun_60 : decode mX10_ofRun.2.1 60 = .ok (.aload_n 0, 1) := by decide +kernel
theorem dX10_ofRun_61 : decode mX10_ofRun.2.1 61 = .ok (.getfield 233, 3) := by decide +kernel
theorem dX10_ofRun_64 : decode mX10_ofRun.2.1 64 = .ok (.goto 7, 3) := by decide +kernel
theorem dX10_ofRun_67 : decode mX10_ofRun.2.1 67 = .ok (.aload_n 0, 1) := by decide +kernel
theorem dX10_ofRun_68 : decode mX10_ofRun.2.1 68 = .ok (.getfield 245, 3) := by decide +kernel
theorem dX10_ofRun_71 : decode mX10_ofRun.2.1 71 = .ok (.ireturn, 1) := by decide +kernel
theorem dX10_run_0 : decode mX10_run.2.1 0 = .ok (.iload_n 1, 1) := by decide +kernel
theorem dX10_run_1 : decode mX10_run.2.1 1 = .ok (.iconst 0, 1) := by decide +kernel
theorem dX10_run_2 : decode mX10_run.2.1 2 = .ok (.iconst 5, 1) := by decide +kernel
theorem dX10_run_3 : decode mX10_run.2.1 3 = .ok (.invokestatic 99, 3) := by decide +kernel
theorem dX10_run_6 : decode mX10_run.2.1 6 = .ok (.ifCond .ne 10, 3) := by decide +kernel
theorem dX10_run_9 : decode mX10_run.2.1 9 = .ok (.aload_n 0, 1) := by decide +kernel
theorem dX10_run_10 : decode mX10_run.2.1 10 = .ok (.bipush (-2), 2) := by decide +kernel
theorem dX10_run_12 : decode mX10_run.2.1 12 = .ok (.invokevirtual 156, 3) := by decide +kernel
theorem dX10_run_15 : decode mX10_run.2.1 15 = .ok (.ireturn, 1) := by decide +kernel
theorem dX10_run_16 : decode mX10_run.2.1 16 = .ok (.aload_n 0, 1) := by decide +kernel
theorem dX10_run_17 : decode mX10_run.2.1 17 = .ok (.invokevirtual 273, 3) := by decide +kernel
theorem dX10_run_20 : decode mX10_run.2.1 20 = .ok (.aload_n 0, 1) := by decide +kernel
theorem dX10_run_21 : decode mX10_run.2.1 21 = .ok (.iload_n 1, 1) := by decide +kernel
theorem dX10_run_22 : decode mX10_run.2.1 22 = .ok (.invokevirtual 276, 3) := by decide +kernel
theorem dX10_run_25 : decode mX10_run.2.1 25 = .ok (.ireturn, 1) := by decide +kernel
theorem dX10_ranOf_0 : decode mX10_ranOf.2.1 0 = .ok (.iload_n 2, 1) := by decide +kernel
theorem dX10_ranOf_1 : decode mX10_ranOf.2.1 1 = .ok (.ifCond .ne 12, 3) := by decide +kernel
theorem dX10_ranOf_4 : decode mX10_ranOf.2.1 4 = .ok (.aload_n 0, 1) := by decide +kernel
theorem dX10_ranOf_5 : decode mX10_ranOf.2.1 5 = .ok (.getfield 76, 3) := by decide +kernel
theorem dX10_ranOf_8 : decode mX10_ranOf.2.1 8 = .ok (.iload_n 1, 1) := by decide +kernel
theorem dX10_ranOf_9 : decode mX10_ranOf.2.1 9 = .ok (.iaload, 1) := by decide +kernel
theorem dX10_ranOf_10 : decode mX10_ranOf.2.1 10 = .ok (.goto 23, 3) := by decide +kernel
theorem dX10_ranOf_13 : decode mX10_ranOf.2.1 13 = .ok (.iload_n 2, 1) := by decide +kernel
theorem dX10_ranOf_14 : decode mX10_ranOf.2.1 14 = .ok (.iconst 1, 1) := by decide +kernel
theorem dX10_ranOf_15 : decode mX10_ranOf.2.1 15 = .ok (.if_icmp .ne 12, 3) := by decide +kernel
theorem dX10_ranOf_18 : decode mX10_ranOf.2.1 18 = .ok (.aload_n 0, 1) := by decide +kernel
theorem dX10_ranOf_19 : decode mX10_ranOf.2.1 19 = .ok (.getfield 79, 3) := by decide +kernel
theorem dX10_ranOf_22 : decode mX10_ranOf.2.1 22 = .ok (.iload_n 1, 1) := by decide +kernel
theorem dX10_ranOf_23 : decode mX10_ranOf.2.1 23 = .ok (.iaload, 1) := by decide +kernel
theorem dX10_ranOf_24 : decode mX10_ranOf.2.1 24 = .ok (.goto 9, 3) := by decide +kernel
theorem dX10_ranOf_27 : decode mX10_ranOf.2.1 27 = .ok (.aload_n 0, 1) := by decide +kernel
theorem dX10_ranOf_28 : decode mX10_ranOf.2.1 28 = .ok (.getfield 82, 3) := by decide +kernel
theorem dX10_ranOf_31 : decode mX10_ranOf.2.1 31 = .ok (.iload_n 1, 1) := by decide +kernel
theorem dX10_ranOf_32 : decode mX10_ranOf.2.1 32 = .ok (.iaload, 1) := by decide +kernel
theorem dX10_ranOf_33 : decode mX10_ranOf.2.1 33 = .ok (.ireturn, 1) := by decide +kernel
theorem dX10_ran_0 : decode mX10_ran.2.1 0 = .ok (.aload_n 0, 1) := by decide +kernel
theorem dX10_ran_1 : decode mX10_ran.2.1 1 = .ok (.invokevirtual 196, 3) := by decide +kernel
theorem dX10_ran_4 : decode mX10_ran.2.1 4 = .ok (.iload_n 1, 1) := by decide +kernel
theorem dX10_ran_5 : decode mX10_ran.2.1 5 = .ok (.iconst 0, 1) := by decide +kernel
theorem dX10_ran_6 : decode mX10_ran.2.1 6 = .ok (.aload_n 0, 1) := by decide +kernel
theorem dX10_ran_7 : decode mX10_ran.2.1 7 = .ok (.getfield 175, 3) := by decide +kernel
theorem dX10_ran_10 : decode mX10_ran.2.1 10 = .ok (.iconst 1, 1) := by decide +kernel
theorem dX10_ran_11 : decode mX10_ran.2.1 11 = .ok (.isub, 1) := by decide +kernel
theorem dX10_ran_12 : decode mX10_ran.2.1 12 = .ok (.invokestatic 99, 3) := by decide +kernel
theorem dX10_ran_15 : decode mX10_ran.2.1 15 = .ok (.ifCond .eq 12, 3) := by decide +kernel
theorem dX10_ran_18 : decode mX10_ran.2.1 18 = .ok (.iload_n 2, 1) := by decide +kernel
theorem dX10_ran_19 : decode mX10_ran.2.1 19 = .ok (.iconst 0, 1) := by decide +kernel
theorem dX10_ran_20 : decode mX10_ran.2.1 20 = .ok (.iconst 2, 1) := by decide +kernel
theorem dX10_ran_21 : decode mX10_ran.2.1 21 = .ok (.invokestatic 99, 3) := by decide +kernel
theorem dX10_ran_24 : decode mX10_ran.2.1 24 = .ok (.ifCond .ne 10, 3) := by decide +kernel
theorem dX10_ran_27 : decode mX10_ran.2.1 27 = .ok (.aload_n 0, 1) := by decide +kernel
theorem dX10_ran_28 : decode mX10_ran.2.1 28 = .ok (.bipush (-2), 2) := by decide +kernel
theorem dX10_ran_30 : decode mX10_ran.2.1 30 = .ok (.invokevirtual 156, 3) := by decide +kernel
theorem dX10_ran_33 : decode mX10_ran.2.1 33 = .ok (.ireturn, 1) := by decide +kernel
theorem dX10_ran_34 : decode mX10_ran.2.1 34 = .ok (.aload_n 0, 1) := by decide +kernel
theorem dX10_ran_35 : decode mX10_ran.2.1 35 = .ok (.invokevirtual 273, 3) := by decide +kernel
theorem dX10_ran_38 : decode mX10_ran.2.1 38 = .ok (.aload_n 0, 1) := by decide +kernel
theorem dX10_ran_39 : decode mX10_ran.2.1 39 = .ok (.iload_n 1, 1) := by decide +kernel
theorem dX10_ran_40 : decode mX10_ran.2.1 40 = .ok (.iload_n 2, 1) := by decide +kernel
theorem dX10_ran_41 : decode mX10_ran.2.1 41 = .ok (.invokevirtual 279, 3) := by decide +kernel
theorem dX10_ran_44 : decode mX10_ran.2.1 44 = .ok (.ireturn, 1) := by decide +kernel
theorem dX10_heldNow_0 : decode mX10_heldNow.2.1 0 = .ok (.aload_n 0, 1) := by decide +kernel
theorem dX10_heldNow_1 : decode mX10_heldNow.2.1 1 = .ok (.getfield 239, 3) := by decide +kernel
theorem dX10_heldNow_4 : decode mX10_heldNow.2.1 4 = .ok (.iconst (-1), 1) := by decide +kernel
theorem dX10_heldNow_5 : decode mX10_heldNow.2.1 5 = .ok (.if_icmp .ne 7, 3) := by decide +kernel
theorem dX10_heldNow_8 : decode mX10_heldNow.2.1 8 = .ok (.iconst (-1), 1) := by decide +kernel
theorem dX10_heldNow_9 : decode mX10_heldNow.2.1 9 = .ok (.goto 12, 3) := by decide +kernel
theorem dX10_heldNow_12 : decode mX10_heldNow.2.1 12 = .ok (.aload_n 0, 1) := by decide +kernel
theorem dX10_heldNow_13 : decode mX10_heldNow.2.1 13 = .ok (.getfield 43, 3) := by decide +kernel
theorem dX10_heldNow_16 : decode mX10_heldNow.2.1 16 = .ok (.aload_n 0, 1) := by decide +kernel
theorem dX10_heldNow_17 : decode mX10_heldNow.2.1 17 = .ok (.getfield 239, 3) := by decide +kernel
theorem dX10_heldNow_20 : decode mX10_heldNow.2.1 20 = .ok (.iaload, 1) := by decide +kernel
theorem dX10_heldNow_21 : decode mX10_heldNow.2.1 21 = .ok (.ireturn, 1) := by decide +kernel
theorem dX10_held_0 : decode mX10_held.2.1 0 = .ok (.aload_n 0, 1) := by decide +kernel
theorem dX10_held_1 : decode mX10_held.2.1 1 = .ok (.invokevirtual 273, 3) := by decide +kernel
theorem dX10_held_4 : decode mX10_held.2.1 4 = .ok (.aload_n 0, 1) := by decide +kernel
theorem dX10_held_5 : decode mX10_held.2.1 5 = .ok (.invokevirtual 282, 3) := by decide +kernel
theorem dX10_held_8 : decode mX10_held.2.1 8 = .ok (.ireturn, 1) := by decide +kernel
theorem dX10_back_0 : decode mX10_back.2.1 0 = .ok (.aload_n 0, 1) := by decide +kernel
theorem dX10_back_1 : decode mX10_back.2.1 1 = .ok (.getfield 85, 3) := by decide +kernel
theorem dX10_back_4 : decode mX10_back.2.1 4 = .ok (.ifCond .ne 10, 3) := by decide +kernel
theorem dX10_back_7 : decode mX10_back.2.1 7 = .ok (.aload_n 0, 1) := by decide +kernel
theorem dX10_back_8 : decode mX10_back.2.1 8 = .ok (.bipush (-3), 2) := by decide +kernel
theorem dX10_back_10 : decode mX10_back.2.1 10 = .ok (.invokevirtual 156, 3) := by decide +kernel
theorem dX10_back_13 : decode mX10_back.2.1 13 = .ok (.ireturn, 1) := by decide +kernel
theorem dX10_back_14 : decode mX10_back.2.1 14 = .ok (.aload_n 0, 1) := by decide +kernel
theorem dX10_back_15 : decode mX10_back.2.1 15 = .ok (.dup, 1) := by decide +kernel
theorem dX10_back_16 : decode mX10_back.2.1 16 = .ok (.getfield 85, 3) := by decide +kernel
theorem dX10_back_19 : decode mX10_back.2.1 19 = .ok (.iconst 1, 1) := by decide +kernel
theorem dX10_back_20 : decode mX10_back.2.1 20 = .ok (.isub, 1) := by decide +kernel
theorem dX10_back_21 : decode mX10_back.2.1 21 = .ok (.putfield 85, 3) := by decide +kernel
theorem dX10_back_24 : decode mX10_back.2.1 24 = .ok (.aload_n 0, 1) := by decide +kernel
theorem dX10_back_25 : decode mX10_back.2.1 25 = .ok (.getfield 16, 3) := by decide +kernel
theorem dX10_back_28 : decode mX10_back.2.1 28 = .ok (.sipush 133, 3) := by decide +kernel
theorem dX10_back_31 : decode mX10_back.2.1 31 = .ok (.aload_n 0, 1) := by decide +kernel
theorem dX10_back_32 : decode mX10_back.2.1 32 = .ok (.getfield 85, 3) := by decide +kernel
theorem dX10_back_35 : decode mX10_back.2.1 35 = .ok (.imul, 1) := by decide +kernel
theorem dX10_back_36 : decode mX10_back.2.1 36 = .ok (.aload_n 0, 1) := by decide +kernel
theorem dX10_back_37 : decode mX10_back.2.1 37 = .ok (.getfield 7, 3) := by decide +kernel
theorem dX10_back_40 : decode mX10_back.2.1 40 = .ok (.iconst 0, 1) := by decide +kernel
theorem dX10_back_41 : decode mX10_back.2.1 41 = .ok (.invokestatic 89, 3) := by decide +kernel
theorem dX10_back_44 : decode mX10_back.2.1 44 = .ok (.aload_n 0, 1) := by decide +kernel
theorem dX10_back_45 : decode mX10_back.2.1 45 = .ok (.getfield 85, 3) := by decide +kernel
theorem dX10_back_48 : decode mX10_back.2.1 48 = .ok (.ireturn, 1) := by decide +kernel
theorem dX10_toldOf_0 : decode mX10_toldOf.2.1 0 = .ok (.iload_n 1, 1) := by decide +kernel
theorem dX10_toldOf_1 : decode mX10_toldOf.2.1 1 = .ok (.iconst 3, 1) := by decide +kernel
theorem dX10_toldOf_2 : decode mX10_toldOf.2.1 2 = .ok (.if_icmp .ge 12, 3) := by decide +kernel
theorem dX10_toldOf_5 : decode mX10_toldOf.2.1 5 = .ok (.aload_n 0, 1) := by decide +kernel
theorem dX10_toldOf_6 : decode mX10_toldOf.2.1 6 = .ok (.getfield 19, 3) := by decide +kernel
theorem dX10_toldOf_9 : decode mX10_toldOf.2.1 9 = .ok (.iload_n 1, 1) := by decide +kernel
theorem dX10_toldOf_10 : decode mX10_toldOf.2.1 10 = .ok (.iaload, 1) := by decide +kernel
theorem dX10_toldOf_11 : decode mX10_toldOf.2.1 11 = .ok (.goto 45, 3) := by decide +kernel
theorem dX10_toldOf_14 : decode mX10_toldOf.2.1 14 = .ok (.iload_n 1, 1) := by decide +kernel
theorem dX10_toldOf_15 : decode mX10_toldOf.2.1 15 = .ok (.iconst 3, 1) := by decide +kernel
theorem dX10_toldOf_16 : decode mX10_toldOf.2.1 16 = .ok (.if_icmp .ne 10, 3) := by decide +kernel
theorem dX10_toldOf_19 : decode mX10_toldOf.2.1 19 = .ok (.aload_n 0, 1) := by decide +kernel
theorem dX10_toldOf_20 : decode mX10_toldOf.2.1 20 = .ok (.getfield 96, 3) := by decide +kernel
theorem dX10_toldOf_23 : decode mX10_toldOf.2.1 23 = .ok (.goto 33, 3) := by decide +kernel
theorem dX10_toldOf_26 : decode mX10_toldOf.2.1 26 = .ok (.iload_n 1, 1) := by decide +kernel
theorem dX10_toldOf_27 : decode mX10_toldOf.2.1 27 = .ok (.iconst 4, 1) := by decide +kernel
theorem dX10_toldOf_28 : decode mX10_toldOf.2.1 28 = .ok (.if_icmp .ne 12, 3) := by decide +kernel
theorem dX10_toldOf_31 : decode mX10_toldOf.2.1 31 = .ok (.aload_n 0, 1) := by decide +kernel
theorem dX10_toldOf_32 : decode mX10_toldOf.2.1 32 = .ok (.getfield 7, 3) := by decide +kernel
theorem dX10_toldOf_35 : decode mX10_toldOf.2.1 35 = .ok (.iconst 0, 1) := by decide +kernel
theorem dX10_toldOf_36 : decode mX10_toldOf.2.1 36 = .ok (.iaload, 1) := by decide +kernel
theorem dX10_toldOf_37 : decode mX10_toldOf.2.1 37 = .ok (.goto 19, 3) := by decide +kernel
theorem dX10_toldOf_40 : decode mX10_toldOf.2.1 40 = .ok (.iload_n 1, 1) := by decide +kernel
theorem dX10_toldOf_41 : decode mX10_toldOf.2.1 41 = .ok (.iconst 5, 1) := by decide +kernel
theorem dX10_toldOf_42 : decode mX10_toldOf.2.1 42 = .ok (.if_icmp .ne 10, 3) := by decide +kernel
theorem dX10_toldOf_45 : decode mX10_toldOf.2.1 45 = .ok (.aload_n 0, 1) := by decide +kernel
theorem dX10_toldOf_46 : decode mX10_toldOf.2.1 46 = .ok (.getfield 175, 3) := by decide +kernel
theorem dX10_toldOf_49 : decode mX10_toldOf.2.1 49 = .ok (.goto 7, 3) := by decide +kernel
theorem dX10_toldOf_52 : decode mX10_toldOf.2.1 52 = .ok (.aload_n 0, 1) := by decide +kernel
theorem dX10_toldOf_53 : decode mX10_toldOf.2.1 53 = .ok (.getfield 85, 3) := by decide +kernel
theorem dX10_toldOf_56 : decode mX10_toldOf.2.1 56 = .ok (.ireturn, 1) := by decide +kernel
theorem dX10_told_0 : decode mX10_told.2.1 0 = .ok (.aload_n 0, 1) := by decide +kernel
theorem dX10_told_1 : decode mX10_told.2.1 1 = .ok (.invokevirtual 196, 3) := by decide +kernel
theorem dX10_told_4 : decode mX10_told.2.1 4 = .ok (.iload_n 1, 1) := by decide +kernel
theorem dX10_told_5 : decode mX10_told.2.1 5 = .ok (.iconst 0, 1) := by decide +kernel
theorem dX10_told_6 : decode mX10_told.2.1 6 = .ok (.bipush 6, 2) := by decide +kernel
theorem dX10_told_8 : decode mX10_told.2.1 8 = .ok (.invokestatic 99, 3) := by decide +kernel
theorem dX10_told_11 : decode mX10_told.2.1 11 = .ok (.ifCond .eq 11, 3) := by decide +kernel
theorem dX10_told_14 : decode mX10_told.2.1 14 = .ok (.aload_n 0, 1) := by decide +kernel
theorem dX10_told_15 : decode mX10_told.2.1 15 = .ok (.iload_n 1, 1) := by decide +kernel
theorem dX10_told_16 : decode mX10_told.2.1 16 = .ok (.invokevirtual 285, 3) := by decide +kernel
theorem dX10_told_19 : decode mX10_told.2.1 19 = .ok (.goto 9, 3) := by decide +kernel
theorem dX10_told_22 : decode mX10_told.2.1 22 = .ok (.aload_n 0, 1) := by decide +kernel
theorem dX10_told_23 : decode mX10_told.2.1 23 = .ok (.bipush (-2), 2) := by decide +kernel
theorem dX10_told_25 : decode mX10_told.2.1 25 = .ok (.invokevirtual 156, 3) := by decide +kernel
theorem dX10_told_28 : decode mX10_told.2.1 28 = .ok (.ireturn, 1) := by decide +kernel
theorem dX10_digest_0 : decode mX10_digest.2.1 0 = .ok (.aload_n 0, 1) := by decide +kernel
theorem dX10_digest_1 : decode mX10_digest.2.1 1 = .ok (.invokevirtual 273, 3) := by decide +kernel
theorem dX10_digest_4 : decode mX10_digest.2.1 4 = .ok (.ldc2_w 288, 3) := by decide +kernel
theorem dX10_digest_7 : decode mX10_digest.2.1 7 = .ok (.lstore_n 1, 1) := by decide +kernel
theorem dX10_digest_8 : decode mX10_digest.2.1 8 = .ok (.iconst 0, 1) := by decide +kernel
theorem dX10_digest_9 : decode mX10_digest.2.1 9 = .ok (.istore_n 3, 1) := by decide +kernel
theorem dX10_digest_10 : decode mX10_digest.2.1 10 = .ok (.iload_n 3, 1) := by decide +kernel
theorem dX10_digest_11 : decode mX10_digest.2.1 11 = .ok (.bipush 7, 2) := by decide +kernel
theorem dX10_digest_13 : decode mX10_digest.2.1 13 = .ok (.if_icmp .ge 22, 3) := by decide +kernel
theorem dX10_digest_16 : decode mX10_digest.2.1 16 = .ok (.ldc2_w 290, 3) := by decide +kernel
theorem dX10_digest_19 : decode mX10_digest.2.1 19 = .ok (.lload_n 1, 1) := by decide +kernel
theorem dX10_digest_20 : decode mX10_digest.2.1 20 = .ok (.lmul, 1) := by decide +kernel
theorem dX10_digest_21 : decode mX10_digest.2.1 21 = .ok (.aload_n 0, 1) := by decide +kernel
theorem dX10_digest_22 : decode mX10_digest.2.1 22 = .ok (.iload_n 3, 1) := by decide +kernel
theorem dX10_digest_23 : decode mX10_digest.2.1 23 = .ok (.invokevirtual 285, 3) := by decide +kernel
theorem dX10_digest_26 : decode mX10_digest.2.1 26 = .ok (.i2l, 1) := by decide +kernel
theorem dX10_digest_27 : decode mX10_digest.2.1 27 = .ok (.ladd, 1) := by decide +kernel
theorem dX10_digest_28 : decode mX10_digest.2.1 28 = .ok (.lstore_n 1, 1) := by decide +kernel
theorem dX10_digest_29 : decode mX10_digest.2.1 29 = .ok (.iinc 3 1, 3) := by decide +kernel
theorem dX10_digest_32 : decode mX10_digest.2.1 32 = .ok (.goto (-22), 3) := by decide +kernel
theorem dX10_digest_35 : decode mX10_digest.2.1 35 = .ok (.iconst 0, 1) := by decide +kernel
theorem dX10_digest_36 : decode mX10_digest.2.1 36 = .ok (.istore_n 3, 1) := by decide +kernel
theorem dX10_digest_37 : decode mX10_digest.2.1 37 = .ok (.iload_n 3, 1) := by decide +kernel
theorem dX10_digest_38 : decode mX10_digest.2.1 38 = .ok (.aload_n 0, 1) := by decide +kernel
theorem dX10_digest_39 : decode mX10_digest.2.1 39 = .ok (.getfield 7, 3) := by decide +kernel
theorem dX10_digest_42 : decode mX10_digest.2.1 42 = .ok (.iconst 0, 1) := by decide +kernel
theorem dX10_digest_43 : decode mX10_digest.2.1 43 = .ok (.iaload, 1) := by decide +kernel
theorem dX10_digest_44 : decode mX10_digest.2.1 44 = .ok (.if_icmp .ge 115, 3) := by decide +kernel
theorem dX10_digest_47 : decode mX10_digest.2.1 47 = .ok (.iconst 0, 1) := by decide +kernel
theorem dX10_digest_48 : decode mX10_digest.2.1 48 = .ok (.istore 4, 2) := by decide +kernel
theorem dX10_digest_50 : decode mX10_digest.2.1 50 = .ok (.iload 4, 2) := by decide +kernel
theorem dX10_digest_52 : decode mX10_digest.2.1 52 = .ok (.iconst 5, 1) := by decide +kernel
theorem dX10_digest_53 : decode mX10_digest.2.1 53 = .ok (.if_icmp .ge 24, 3) := by decide +kernel
theorem dX10_digest_56 : decode mX10_digest.2.1 56 = .ok (.ldc2_w 290, 3) := by decide +kernel
theorem dX10_digest_59 : decode mX10_digest.2.1 59 = .ok (.lload_n 1, 1) := by decide +kernel
theorem dX10_digest_60 : decode mX10_digest.2.1 60 = .ok (.lmul, 1) := by decide +kernel
theorem dX10_digest_61 : decode mX10_digest.2.1 61 = .ok (.aload_n 0, 1) := by decide +kernel
theorem dX10_digest_62 : decode mX10_digest.2.1 62 = .ok (.iload_n 3, 1) := by decide +kernel
theorem dX10_digest_63 : decode mX10_digest.2.1 63 = .ok (.iload 4, 2) := by decide +kernel
theorem dX10_digest_65 : decode mX10_digest.2.1 65 = .ok (.invokevirtual 217, 3) := by decide +kernel
theorem dX10_digest_68 : decode mX10_digest.2.1 68 = .ok (.i2l, 1) := by decide +kernel
theorem dX10_digest_69 : decode mX10_digest.2.1 69 = .ok (.ladd, 1) := by decide +kernel
theorem dX10_digest_70 : decode mX10_digest.2.1 70 = .ok (.lstore_n 1, 1) := by decide +kernel
theorem dX10_digest_71 : decode mX10_digest.2.1 71 = .ok (.iinc 4 1, 3) := by decide +kernel
theorem dX10_digest_74 : decode mX10_digest.2.1 74 = .ok (.goto (-24), 3) := by decide +kernel
theorem dX10_digest_77 : decode mX10_digest.2.1 77 = .ok (.iconst 0, 1) := by decide +kernel
theorem dX10_digest_78 : decode mX10_digest.2.1 78 = .ok (.istore 4, 2) := by decide +kernel
theorem dX10_digest_80 : decode mX10_digest.2.1 80 = .ok (.iload 4, 2) := by decide +kernel
theorem dX10_digest_82 : decode mX10_digest.2.1 82 = .ok (.iconst 4, 1) := by decide +kernel
theorem dX10_digest_83 : decode mX10_digest.2.1 83 = .ok (.if_icmp .ge 28, 3) := by decide +kernel
theorem dX10_digest_86 : decode mX10_digest.2.1 86 = .ok (.ldc2_w 290, 3) := by decide +kernel
theorem dX10_digest_89 : decode mX10_digest.2.1 89 = .ok (.lload_n 1, 1) := by decide +kernel
theorem dX10_digest_90 : decode mX10_digest.2.1 90 = .ok (.lmul, 1) := by decide +kernel
theorem dX10_digest_91 : decode mX10_digest.2.1 91 = .ok (.aload_n 0, 1) := by decide +kernel
theorem dX10_digest_92 : decode mX10_digest.2.1 92 = .ok (.getfield 40, 3) := by decide +kernel
theorem dX10_digest_95 : decode mX10_digest.2.1 95 = .ok (.iconst 4, 1) := by decide +kernel
theorem dX10_digest_96 : decode mX10_digest.2.1 96 = .ok (.iload_n 3, 1) := by decide +kernel
theorem dX10_digest_97 : decode mX10_digest.2.1 97 = .ok (.imul, 1) := by decide +kernel
theorem dX10_digest_98 : decode mX10_digest.2.1 98 = .ok (.iload 4, 2) := by decide +kernel
theorem dX10_digest_100 : decode mX10_digest.2.1 100 = .ok (.iadd, 1) := by decide +kernel
theorem dX10_digest_101 : decode mX10_digest.2.1 101 = .ok (.iaload, 1) := by decide +kernel
theorem dX10_digest_102 : decode mX10_digest.2.1 102 = .ok (.i2l, 1) := by decide +kernel
theorem dX10_digest_103 : decode mX10_digest.2.1 103 = .ok (.ladd, 1) := by decide +kernel
theorem dX10_digest_104 : decode mX10_digest.2.1 104 = .ok (.lstore_n 1, 1) := by decide +kernel
theorem dX10_digest_105 : decode mX10_digest.2.1 105 = .ok (.iinc 4 1, 3) := by decide +kernel
theorem dX10_digest_108 : decode mX10_digest.2.1 108 = .ok (.goto (-28), 3) := by decide +kernel
theorem dX10_digest_111 : decode mX10_digest.2.1 111 = .ok (.iconst 0, 1) := by decide +kernel
theorem dX10_digest_112 : decode mX10_digest.2.1 112 = .ok (.istore 4, 2) := by decide +kernel
theorem dX10_digest_114 : decode mX10_digest.2.1 114 = .ok (.iload 4, 2) := by decide +kernel
theorem dX10_digest_116 : decode mX10_digest.2.1 116 = .ok (.iconst 5, 1) := by decide +kernel
theorem dX10_digest_117 : decode mX10_digest.2.1 117 = .ok (.aload_n 0, 1) := by decide +kernel
theorem dX10_digest_118 : decode mX10_digest.2.1 118 = .ok (.iload_n 3, 1) := by decide +kernel
theorem dX10_digest_119 : decode mX10_digest.2.1 119 = .ok (.invokevirtual 168, 3) := by decide +kernel
theorem dX10_digest_122 : decode mX10_digest.2.1 122 = .ok (.imul, 1) := by decide +kernel
theorem dX10_digest_123 : decode mX10_digest.2.1 123 = .ok (.if_icmp .ge 30, 3) := by decide +kernel
theorem dX10_digest_126 : decode mX10_digest.2.1 126 = .ok (.ldc2_w 290, 3) := by decide +kernel
theorem dX10_digest_129 : decode mX10_digest.2.1 129 = .ok (.lload_n 1, 1) := by decide +kernel
theorem dX10_digest_130 : decode mX10_digest.2.1 130 = .ok (.lmul, 1) := by decide +kernel
theorem dX10_digest_131 : decode mX10_digest.2.1 131 = .ok (.aload_n 0, 1) := by decide +kernel
theorem dX10_digest_132 : decode mX10_digest.2.1 132 = .ok (.iload_n 3, 1) := by decide +kernel
theorem dX10_digest_133 : decode mX10_digest.2.1 133 = .ok (.iload 4, 2) := by decide +kernel
theorem dX10_digest_135 : decode mX10_digest.2.1 135 = .ok (.iconst 5, 1) := by decide +kernel
theorem dX10_digest_136 : decode mX10_digest.2.1 136 = .ok (.idiv, 1) := by decide +kernel
theorem dX10_digest_137 : decode mX10_digest.2.1 137 = .ok (.iload 4, 2) := by decide +kernel
theorem dX10_digest_139 : decode mX10_digest.2.1 139 = .ok (.iconst 5, 1) := by decide +kernel
theorem dX10_digest_140 : decode mX10_digest.2.1 140 = .ok (.irem, 1) := by decide +kernel
theorem dX10_digest_141 : decode mX10_digest.2.1 141 = .ok (.invokevirtual 221, 3) := by decide +kernel
theorem dX10_digest_144 : decode mX10_digest.2.1 144 = .ok (.i2l, 1) := by decide +kernel
theorem dX10_digest_145 : decode mX10_digest.2.1 145 = .ok (.ladd, 1) := by decide +kernel
theorem dX10_digest_146 : decode mX10_digest.2.1 146 = .ok (.lstore_n 1, 1) := by decide +kernel
theorem dX10_digest_147 : decode mX10_digest.2.1 147 = .ok (.iinc 4 1, 3) := by decide +kernel
theorem dX10_digest_150 : decode mX10_digest.2.1 150 = .ok (.goto (-36), 3) := by decide +kernel
theorem dX10_digest_153 : decode mX10_digest.2.1 153 = .ok (.iinc 3 1, 3) := by decide +kernel
theorem dX10_digest_156 : decode mX10_digest.2.1 156 = .ok (.goto (-119), 3) := by decide +kernel
theorem dX10_digest_159 : decode mX10_digest.2.1 159 = .ok (.iconst 0, 1) := by decide +kernel
theorem dX10_digest_160 : decode mX10_digest.2.1 160 = .ok (.istore_n 3, 1) := by decide +kernel
theorem dX10_digest_161 : decode mX10_digest.2.1 161 = .ok (.iload_n 3, 1) := by decide +kernel
theorem dX10_digest_162 : decode mX10_digest.2.1 162 = .ok (.aload_n 0, 1) := by decide +kernel
theorem dX10_digest_163 : decode mX10_digest.2.1 163 = .ok (.getfield 175, 3) := by decide +kernel
theorem dX10_digest_166 : decode mX10_digest.2.1 166 = .ok (.if_icmp .ge 69, 3) := by decide +kernel
theorem dX10_digest_169 : decode mX10_digest.2.1 169 = .ok (.iconst 0, 1) := by decide +kernel
theorem dX10_digest_170 : decode mX10_digest.2.1 170 = .ok (.istore 4, 2) := by decide +kernel
theorem dX10_digest_172 : decode mX10_digest.2.1 172 = .ok (.iload 4, 2) := by decide +kernel
theorem dX10_digest_174 : decode mX10_digest.2.1 174 = .ok (.iconst 4, 1) := by decide +kernel
theorem dX10_digest_175 : decode mX10_digest.2.1 175 = .ok (.if_icmp .ge 24, 3) := by decide +kernel
theorem dX10_digest_178 : decode mX10_digest.2.1 178 = .ok (.ldc2_w 290, 3) := by decide +kernel
theorem dX10_digest_181 : decode mX10_digest.2.1 181 = .ok (.lload_n 1, 1) := by decide +kernel
theorem dX10_digest_182 : decode mX10_digest.2.1 182 = .ok (.lmul, 1) := by decide +kernel
theorem dX10_digest_183 : decode mX10_digest.2.1 183 = .ok (.aload_n 0, 1) := by decide +kernel
theorem dX10_digest_184 : decode mX10_digest.2.1 184 = .ok (.iload_n 3, 1) := by decide +kernel
theorem dX10_digest_185 : decode mX10_digest.2.1 185 = .ok (.iload 4, 2) := by decide +kernel
theorem dX10_digest_187 : decode mX10_digest.2.1 187 = .ok (.invokevirtual 224, 3) := by decide +kernel
theorem dX10_digest_190 : decode mX10_digest.2.1 190 = .ok (.i2l, 1) := by decide +kernel
theorem dX10_digest_191 : decode mX10_digest.2.1 191 = .ok (.ladd, 1) := by decide +kernel
theorem dX10_digest_192 : decode mX10_digest.2.1 192 = .ok (.lstore_n 1, 1) := by decide +kernel
theorem dX10_digest_193 : decode mX10_digest.2.1 193 = .ok (.iinc 4 1, 3) := by decide +kernel
theorem dX10_digest_196 : decode mX10_digest.2.1 196 = .ok (.goto (-24), 3) := by decide +kernel
theorem dX10_digest_199 : decode mX10_digest.2.1 199 = .ok (.iconst 0, 1) := by decide +kernel
theorem dX10_digest_200 : decode mX10_digest.2.1 200 = .ok (.istore 4, 2) := by decide +kernel
theorem dX10_digest_202 : decode mX10_digest.2.1 202 = .ok (.iload 4, 2) := by decide +kernel
theorem dX10_digest_204 : decode mX10_digest.2.1 204 = .ok (.iconst 3, 1) := by decide +kernel
theorem dX10_digest_205 : decode mX10_digest.2.1 205 = .ok (.if_icmp .ge 24, 3) := by decide +kernel
theorem dX10_digest_208 : decode mX10_digest.2.1 208 = .ok (.ldc2_w 290, 3) := by decide +kernel
theorem dX10_digest_211 : decode mX10_digest.2.1 211 = .ok (.lload_n 1, 1) := by decide +kernel
theorem dX10_digest_212 : decode mX10_digest.2.1 212 = .ok (.lmul, 1) := by decide +kernel
theorem dX10_digest_213 : decode mX10_digest.2.1 213 = .ok (.aload_n 0, 1) := by decide +kernel
theorem dX10_digest_214 : decode mX10_digest.2.1 214 = .ok (.iload_n 3, 1) := by decide +kernel
theorem dX10_digest_215 : decode mX10_digest.2.1 215 = .ok (.iload 4, 2) := by decide +kernel
theorem dX10_digest_217 : decode mX10_digest.2.1 217 = .ok (.invokevirtual 279, 3) := by decide +kernel
theorem dX10_digest_220 : decode mX10_digest.2.1 220 = .ok (.i2l, 1) := by decide +kernel
theorem dX10_digest_221 : decode mX10_digest.2.1 221 = .ok (.ladd, 1) := by decide +kernel
theorem dX10_digest_222 : decode mX10_digest.2.1 222 = .ok (.lstore_n 1, 1) := by decide +kernel
theorem dX10_digest_223 : decode mX10_digest.2.1 223 = .ok (.iinc 4 1, 3) := by decide +kernel
theorem dX10_digest_226 : decode mX10_digest.2.1 226 = .ok (.goto (-24), 3) := by decide +kernel
theorem dX10_digest_229 : decode mX10_digest.2.1 229 = .ok (.iinc 3 1, 3) := by decide +kernel
theorem dX10_digest_232 : decode mX10_digest.2.1 232 = .ok (.goto (-71), 3) := by decide +kernel
theorem dX10_digest_235 : decode mX10_digest.2.1 235 = .ok (.ldc2_w 290, 3) := by decide +kernel
theorem dX10_digest_238 : decode mX10_digest.2.1 238 = .ok (.lload_n 1, 1) := by decide +kernel
theorem dX10_digest_239 : decode mX10_digest.2.1 239 = .ok (.lmul, 1) := by decide +kernel
theorem dX10_digest_240 : decode mX10_digest.2.1 240 = .ok (.aload_n 0, 1) := by decide +kernel
theorem dX10_digest_241 : decode mX10_digest.2.1 241 = .ok (.getfield 40, 3) := by decide +kernel
theorem dX10_digest_244 : decode mX10_digest.2.1 244 = .ok (.bipush 16, 2) := by decide +kernel
theorem dX10_digest_246 : decode mX10_digest.2.1 246 = .ok (.iaload, 1) := by decide +kernel
theorem dX10_digest_247 : decode mX10_digest.2.1 247 = .ok (.i2l, 1) := by decide +kernel
theorem dX10_digest_248 : decode mX10_digest.2.1 248 = .ok (.ladd, 1) := by decide +kernel
theorem dX10_digest_249 : decode mX10_digest.2.1 249 = .ok (.lstore_n 1, 1) := by decide +kernel
theorem dX10_digest_250 : decode mX10_digest.2.1 250 = .ok (.iconst 0, 1) := by decide +kernel
theorem dX10_digest_251 : decode mX10_digest.2.1 251 = .ok (.istore_n 3, 1) := by decide +kernel
theorem dX10_digest_252 : decode mX10_digest.2.1 252 = .ok (.iload_n 3, 1) := by decide +kernel
theorem dX10_digest_253 : decode mX10_digest.2.1 253 = .ok (.bipush 6, 2) := by decide +kernel
theorem dX10_digest_255 : decode mX10_digest.2.1 255 = .ok (.if_icmp .ge 22, 3) := by decide +kernel
theorem dX10_digest_258 : decode mX10_digest.2.1 258 = .ok (.ldc2_w 290, 3) := by decide +kernel
theorem dX10_digest_261 : decode mX10_digest.2.1 261 = .ok (.lload_n 1, 1) := by decide +kernel
theorem dX10_digest_262 : decode mX10_digest.2.1 262 = .ok (.lmul, 1) := by decide +kernel
theorem dX10_digest_263 : decode mX10_digest.2.1 263 = .ok (.aload_n 0, 1) := by decide +kernel
theorem dX10_digest_264 : decode mX10_digest.2.1 264 = .ok (.iload_n 3, 1) := by decide +kernel
theorem dX10_digest_265 : decode mX10_digest.2.1 265 = .ok (.invokevirtual 276, 3) := by decide +kernel
theorem dX10_digest_268 : decode mX10_digest.2.1 268 = .ok (.i2l, 1) := by decide +kernel
theorem dX10_digest_269 : decode mX10_digest.2.1 269 = .ok (.ladd, 1) := by decide +kernel
theorem dX10_digest_270 : decode mX10_digest.2.1 270 = .ok (.lstore_n 1, 1) := by decide +kernel
theorem dX10_digest_271 : decode mX10_digest.2.1 271 = .ok (.iinc 3 1, 3) := by decide +kernel
theorem dX10_digest_274 : decode mX10_digest.2.1 274 = .ok (.goto (-22), 3) := by decide +kernel
theorem dX10_digest_277 : decode mX10_digest.2.1 277 = .ok (.ldc2_w 290, 3) := by decide +kernel
theorem dX10_digest_280 : decode mX10_digest.2.1 280 = .ok (.lload_n 1, 1) := by decide +kernel
theorem dX10_digest_281 : decode mX10_digest.2.1 281 = .ok (.lmul, 1) := by decide +kernel
theorem dX10_digest_282 : decode mX10_digest.2.1 282 = .ok (.aload_n 0, 1) := by decide +kernel
theorem dX10_digest_283 : decode mX10_digest.2.1 283 = .ok (.invokevirtual 282, 3) := by decide +kernel
theorem dX10_digest_286 : decode mX10_digest.2.1 286 = .ok (.i2l, 1) := by decide +kernel
theorem dX10_digest_287 : decode mX10_digest.2.1 287 = .ok (.ladd, 1) := by decide +kernel
theorem dX10_digest_288 : decode mX10_digest.2.1 288 = .ok (.lreturn, 1) := by decide +kernel
