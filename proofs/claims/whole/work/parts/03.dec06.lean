theorem dX8_seenSlot_32 : decode cX8_seenSlot 32 = .ok (.getfield 45, 3) := by decide +kernel
theorem dX8_seenSlot_35 : decode cX8_seenSlot 35 = .ok (.iload 4, 2) := by decide +kernel
theorem dX8_seenSlot_37 : decode cX8_seenSlot 37 = .ok (.iaload, 1) := by decide +kernel
theorem dX8_seenSlot_38 : decode cX8_seenSlot 38 = .ok (.bipush 24, 2) := by decide +kernel
theorem dX8_seenSlot_40 : decode cX8_seenSlot 40 = .ok (.ishl, 1) := by decide +kernel
theorem dX8_seenSlot_41 : decode cX8_seenSlot 41 = .ok (.aload_n 0, 1) := by decide +kernel
theorem dX8_seenSlot_42 : decode cX8_seenSlot 42 = .ok (.getfield 45, 3) := by decide +kernel
theorem dX8_seenSlot_45 : decode cX8_seenSlot 45 = .ok (.iload 4, 2) := by decide +kernel
theorem dX8_seenSlot_47 : decode cX8_seenSlot 47 = .ok (.iconst 1, 1) := by decide +kernel
theorem dX8_seenSlot_48 : decode cX8_seenSlot 48 = .ok (.iadd, 1) := by decide +kernel
theorem dX8_seenSlot_49 : decode cX8_seenSlot 49 = .ok (.iaload, 1) := by decide +kernel
theorem dX8_seenSlot_50 : decode cX8_seenSlot 50 = .ok (.bipush 16, 2) := by decide +kernel
theorem dX8_seenSlot_52 : decode cX8_seenSlot 52 = .ok (.ishl, 1) := by decide +kernel
theorem dX8_seenSlot_53 : decode cX8_seenSlot 53 = .ok (.ior, 1) := by decide +kernel
theorem dX8_seenSlot_54 : decode cX8_seenSlot 54 = .ok (.aload_n 0, 1) := by decide +kernel
theorem dX8_seenSlot_55 : decode cX8_seenSlot 55 = .ok (.getfield 45, 3) := by decide +kernel
theorem dX8_seenSlot_58 : decode cX8_seenSlot 58 = .ok (.iload 4, 2) := by decide +kernel
theorem dX8_seenSlot_60 : decode cX8_seenSlot 60 = .ok (.iconst 2, 1) := by decide +kernel
theorem dX8_seenSlot_61 : decode cX8_seenSlot 61 = .ok (.iadd, 1) := by decide +kernel
theorem dX8_seenSlot_62 : decode cX8_seenSlot 62 = .ok (.iaload, 1) := by decide +kernel
theorem dX8_seenSlot_63 : decode cX8_seenSlot 63 = .ok (.bipush 8, 2) := by decide +kernel
theorem dX8_seenSlot_65 : decode cX8_seenSlot 65 = .ok (.ishl, 1) := by decide +kernel
theorem dX8_seenSlot_66 : decode cX8_seenSlot 66 = .ok (.ior, 1) := by decide +kernel
theorem dX8_seenSlot_67 : decode cX8_seenSlot 67 = .ok (.aload_n 0, 1) := by decide +kernel
theorem dX8_seenSlot_68 : decode cX8_seenSlot 68 = .ok (.getfield 45, 3) := by decide +kernel
theorem dX8_seenSlot_71 : decode cX8_seenSlot 71 = .ok (.iload 4, 2) := by decide +kernel
theorem dX8_seenSlot_73 : decode cX8_seenSlot 73 = .ok (.iconst 3, 1) := by decide +kernel
theorem dX8_seenSlot_74 : decode cX8_seenSlot 74 = .ok (.iadd, 1) := by decide +kernel
theorem dX8_seenSlot_75 : decode cX8_seenSlot 75 = .ok (.iaload, 1) := by decide +kernel
theorem dX8_seenSlot_76 : decode cX8_seenSlot 76 = .ok (.ior, 1) := by decide +kernel
theorem dX8_seenSlot_77 : decode cX8_seenSlot 77 = .ok (.iastore, 1) := by decide +kernel
theorem dX8_seenSlot_78 : decode cX8_seenSlot 78 = .ok (.iinc 3 1, 3) := by decide +kernel
theorem dX8_seenSlot_81 : decode cX8_seenSlot 81 = .ok (.goto (-79), 3) := by decide +kernel
theorem dX8_seenSlot_84 : decode cX8_seenSlot 84 = .ok (.return_, 1) := by decide +kernel
theorem dX8_keep_0 : decode cX8_keep 0 = .ok (.iconst 0, 1) := by decide +kernel
theorem dX8_keep_1 : decode cX8_keep 1 = .ok (.istore_n 2, 1) := by decide +kernel
theorem dX8_keep_2 : decode cX8_keep 2 = .ok (.iload_n 2, 1) := by decide +kernel
theorem dX8_keep_3 : decode cX8_keep 3 = .ok (.bipush 80, 2) := by decide +kernel
theorem dX8_keep_5 : decode cX8_keep 5 = .ok (.if_icmp .ge 26, 3) := by decide +kernel
theorem dX8_keep_8 : decode cX8_keep 8 = .ok (.aload_n 0, 1) := by decide +kernel
theorem dX8_keep_9 : decode cX8_keep 9 = .ok (.getfield 45, 3) := by decide +kernel
theorem dX8_keep_12 : decode cX8_keep 12 = .ok (.bipush 80, 2) := by decide +kernel
theorem dX8_keep_14 : decode cX8_keep 14 = .ok (.iload_n 1, 1) := by decide +kernel
theorem dX8_keep_15 : decode cX8_keep 15 = .ok (.imul, 1) := by decide +kernel
theorem dX8_keep_16 : decode cX8_keep 16 = .ok (.iload_n 2, 1) := by decide +kernel
theorem dX8_keep_17 : decode cX8_keep 17 = .ok (.iadd, 1) := by decide +kernel
theorem dX8_keep_18 : decode cX8_keep 18 = .ok (.aload_n 0, 1) := by decide +kernel
theorem dX8_keep_19 : decode cX8_keep 19 = .ok (.getfield 7, 3) := by decide +kernel
theorem dX8_keep_22 : decode cX8_keep 22 = .ok (.iload_n 2, 1) := by decide +kernel
theorem dX8_keep_23 : decode cX8_keep 23 = .ok (.iaload, 1) := by decide +kernel
theorem dX8_keep_24 : decode cX8_keep 24 = .ok (.iastore, 1) := by decide +kernel
theorem dX8_keep_25 : decode cX8_keep 25 = .ok (.iinc 2 1, 3) := by decide +kernel
theorem dX8_keep_28 : decode cX8_keep 28 = .ok (.goto (-26), 3) := by decide +kernel
theorem dX8_keep_31 : decode cX8_keep 31 = .ok (.aload_n 0, 1) := by decide +kernel
theorem dX8_keep_32 : decode cX8_keep 32 = .ok (.getfield 48, 3) := by decide +kernel
theorem dX8_keep_35 : decode cX8_keep 35 = .ok (.iload_n 1, 1) := by decide +kernel
theorem dX8_keep_36 : decode cX8_keep 36 = .ok (.iconst 1, 1) := by decide +kernel
theorem dX8_keep_37 : decode cX8_keep 37 = .ok (.bastore, 1) := by decide +kernel
theorem dX8_keep_38 : decode cX8_keep 38 = .ok (.return_, 1) := by decide +kernel
theorem dX8_copySeen_0 : decode cX8_copySeen 0 = .ok (.iconst 0, 1) := by decide +kernel
theorem dX8_copySeen_1 : decode cX8_copySeen 1 = .ok (.istore_n 3, 1) := by decide +kernel
theorem dX8_copySeen_2 : decode cX8_copySeen 2 = .ok (.iload_n 3, 1) := by decide +kernel
theorem dX8_copySeen_3 : decode cX8_copySeen 3 = .ok (.bipush 80, 2) := by decide +kernel
theorem dX8_copySeen_5 : decode cX8_copySeen 5 = .ok (.if_icmp .ge 31, 3) := by decide +kernel
theorem dX8_copySeen_8 : decode cX8_copySeen 8 = .ok (.aload_n 0, 1) := by decide +kernel
theorem dX8_copySeen_9 : decode cX8_copySeen 9 = .ok (.getfield 45, 3) := by decide +kernel
theorem dX8_copySeen_12 : decode cX8_copySeen 12 = .ok (.bipush 80, 2) := by decide +kernel
theorem dX8_copySeen_14 : decode cX8_copySeen 14 = .ok (.iload_n 2, 1) := by decide +kernel
theorem dX8_copySeen_15 : decode cX8_copySeen 15 = .ok (.imul, 1) := by decide +kernel
theorem dX8_copySeen_16 : decode cX8_copySeen 16 = .ok (.iload_n 3, 1) := by decide +kernel
theorem dX8_copySeen_17 : decode cX8_copySeen 17 = .ok (.iadd, 1) := by decide +kernel
theorem dX8_copySeen_18 : decode cX8_copySeen 18 = .ok (.aload_n 0, 1) := by decide +kernel
theorem dX8_copySeen_19 : decode cX8_copySeen 19 = .ok (.getfield 45, 3) := by decide +kernel
theorem dX8_copySeen_22 : decode cX8_copySeen 22 = .ok (.bipush 80, 2) := by decide +kernel
theorem dX8_copySeen_24 : decode cX8_copySeen 24 = .ok (.iload_n 1, 1) := by decide +kernel
theorem dX8_copySeen_25 : decode cX8_copySeen 25 = .ok (.imul, 1) := by decide +kernel
theorem dX8_copySeen_26 : decode cX8_copySeen 26 = .ok (.iload_n 3, 1) := by decide +kernel
theorem dX8_copySeen_27 : decode cX8_copySeen 27 = .ok (.iadd, 1) := by decide +kernel
theorem dX8_copySeen_28 : decode cX8_copySeen 28 = .ok (.iaload, 1) := by decide +kernel
theorem dX8_copySeen_29 : decode cX8_copySeen 29 = .ok (.iastore, 1) := by decide +kernel
theorem dX8_copySeen_30 : decode cX8_copySeen 30 = .ok (.iinc 3 1, 3) := by decide +kernel
theorem dX8_copySeen_33 : decode cX8_copySeen 33 = .ok (.goto (-31), 3) := by decide +kernel
theorem dX8_copySeen_36 : decode cX8_copySeen 36 = .ok (.aload_n 0, 1) := by decide +kernel
theorem dX8_copySeen_37 : decode cX8_copySeen 37 = .ok (.getfield 48, 3) := by decide +kernel
theorem dX8_copySeen_40 : decode cX8_copySeen 40 = .ok (.iload_n 2, 1) := by decide +kernel
theorem dX8_copySeen_41 : decode cX8_copySeen 41 = .ok (.iconst 1, 1) := by decide +kernel
theorem dX8_copySeen_42 : decode cX8_copySeen 42 = .ok (.bastore, 1) := by decide +kernel
theorem dX8_copySeen_43 : decode cX8_copySeen 43 = .ok (.return_, 1) := by decide +kernel
theorem dX8_follow_0 : decode cX8_follow 0 = .ok (.aload_n 0, 1) := by decide +kernel
theorem dX8_follow_1 : decode cX8_follow 1 = .ok (.invokevirtual 200, 3) := by decide +kernel
theorem dX8_follow_4 : decode cX8_follow 4 = .ok (.istore_n 3, 1) := by decide +kernel
theorem dX8_follow_5 : decode cX8_follow 5 = .ok (.aload_n 0, 1) := by decide +kernel
theorem dX8_follow_6 : decode cX8_follow 6 = .ok (.iload_n 1, 1) := by decide +kernel
theorem dX8_follow_7 : decode cX8_follow 7 = .ok (.invokestatic 271, 3) := by decide +kernel
theorem dX8_follow_10 : decode cX8_follow 10 = .ok (.ifCond .eq 10, 3) := by decide +kernel
theorem dX8_follow_13 : decode cX8_follow 13 = .ok (.iload_n 2, 1) := by decide +kernel
theorem dX8_follow_14 : decode cX8_follow 14 = .ok (.invokestatic 204, 3) := by decide +kernel
theorem dX8_follow_17 : decode cX8_follow 17 = .ok (.ifCond .ne 7, 3) := by decide +kernel
theorem dX8_follow_20 : decode cX8_follow 20 = .ok (.iconst 1, 1) := by decide +kernel
theorem dX8_follow_21 : decode cX8_follow 21 = .ok (.goto 23, 3) := by decide +kernel
theorem dX8_follow_24 : decode cX8_follow 24 = .ok (.iload_n 3, 1) := by decide +kernel
theorem dX8_follow_25 : decode cX8_follow 25 = .ok (.bipush 80, 2) := by decide +kernel
theorem dX8_follow_27 : decode cX8_follow 27 = .ok (.if_icmp .lt 12, 3) := by decide +kernel
theorem dX8_follow_30 : decode cX8_follow 30 = .ok (.iload_n 3, 1) := by decide +kernel
theorem dX8_follow_31 : decode cX8_follow 31 = .ok (.bipush 32, 2) := by decide +kernel
theorem dX8_follow_33 : decode cX8_follow 33 = .ok (.irem, 1) := by decide +kernel
theorem dX8_follow_34 : decode cX8_follow 34 = .ok (.bipush 16, 2) := by decide +kernel
theorem dX8_follow_36 : decode cX8_follow 36 = .ok (.if_icmp .eq 7, 3) := by decide +kernel
theorem dX8_follow_39 : decode cX8_follow 39 = .ok (.iconst 2, 1) := by decide +kernel
theorem dX8_follow_40 : decode cX8_follow 40 = .ok (.goto 4, 3) := by decide +kernel
theorem dX8_follow_43 : decode cX8_follow 43 = .ok (.iconst 0, 1) := by decide +kernel
theorem dX8_follow_44 : decode cX8_follow 44 = .ok (.putfield 134, 3) := by decide +kernel
theorem dX8_follow_47 : decode cX8_follow 47 = .ok (.aload_n 0, 1) := by decide +kernel
theorem dX8_follow_48 : decode cX8_follow 48 = .ok (.getfield 134, 3) := by decide +kernel
theorem dX8_follow_51 : decode cX8_follow 51 = .ok (.ifCond .le 5, 3) := by decide +kernel
theorem dX8_follow_54 : decode cX8_follow 54 = .ok (.iconst 0, 1) := by decide +kernel
theorem dX8_follow_55 : decode cX8_follow 55 = .ok (.ireturn, 1) := by decide +kernel
theorem dX8_follow_56 : decode cX8_follow 56 = .ok (.aload_n 0, 1) := by decide +kernel
theorem dX8_follow_57 : decode cX8_follow 57 = .ok (.iconst 0, 1) := by decide +kernel
theorem dX8_follow_58 : decode cX8_follow 58 = .ok (.invokevirtual 264, 3) := by decide +kernel
theorem dX8_follow_61 : decode cX8_follow 61 = .ok (.lstore 4, 2) := by decide +kernel
theorem dX8_follow_63 : decode cX8_follow 63 = .ok (.aload_n 0, 1) := by decide +kernel
theorem dX8_follow_64 : decode cX8_follow 64 = .ok (.bipush 8, 2) := by decide +kernel
theorem dX8_follow_66 : decode cX8_follow 66 = .ok (.invokevirtual 264, 3) := by decide +kernel
theorem dX8_follow_69 : decode cX8_follow 69 = .ok (.lstore 6, 2) := by decide +kernel
theorem dX8_follow_71 : decode cX8_follow 71 = .ok (.aload_n 0, 1) := by decide +kernel
theorem dX8_follow_72 : decode cX8_follow 72 = .ok (.iload_n 2, 1) := by decide +kernel
theorem dX8_follow_73 : decode cX8_follow 73 = .ok (.invokevirtual 268, 3) := by decide +kernel
theorem dX8_follow_76 : decode cX8_follow 76 = .ok (.ifCond .eq 17, 3) := by decide +kernel
theorem dX8_follow_79 : decode cX8_follow 79 = .ok (.lload 4, 2) := by decide +kernel
theorem dX8_follow_81 : decode cX8_follow 81 = .ok (.lconst 0, 1) := by decide +kernel
theorem dX8_follow_82 : decode cX8_follow 82 = .ok (.lcmp, 1) := by decide +kernel
theorem dX8_follow_83 : decode cX8_follow 83 = .ok (.ifCond .lt 10, 3) := by decide +kernel
theorem dX8_follow_86 : decode cX8_follow 86 = .ok (.lload 6, 2) := by decide +kernel
theorem dX8_follow_88 : decode cX8_follow 88 = .ok (.lconst 0, 1) := by decide +kernel
theorem dX8_follow_89 : decode cX8_follow 89 = .ok (.lcmp, 1) := by decide +kernel
theorem dX8_follow_90 : decode cX8_follow 90 = .ok (.ifCond .ge 5, 3) := by decide +kernel
theorem dX8_follow_93 : decode cX8_follow 93 = .ok (.iconst 1, 1) := by decide +kernel
theorem dX8_follow_94 : decode cX8_follow 94 = .ok (.ireturn, 1) := by decide +kernel
theorem dX8_follow_95 : decode cX8_follow 95 = .ok (.iload_n 1, 1) := by decide +kernel
theorem dX8_follow_96 : decode cX8_follow 96 = .ok (.iload_n 2, 1) := by decide +kernel
theorem dX8_follow_97 : decode cX8_follow 97 = .ok (.iconst 0, 1) := by decide +kernel
theorem dX8_follow_98 : decode cX8_follow 98 = .ok (.invokestatic 274, 3) := by decide +kernel
theorem dX8_follow_101 : decode cX8_follow 101 = .ok (.istore 8, 2) := by decide +kernel
theorem dX8_follow_103 : decode cX8_follow 103 = .ok (.aload_n 0, 1) := by decide +kernel
theorem dX8_follow_104 : decode cX8_follow 104 = .ok (.getfield 48, 3) := by decide +kernel
theorem dX8_follow_107 : decode cX8_follow 107 = .ok (.iload 8, 2) := by decide +kernel
theorem dX8_follow_109 : decode cX8_follow 109 = .ok (.baload, 1) := by decide +kernel
theorem dX8_follow_110 : decode cX8_follow 110 = .ok (.istore 9, 2) := by decide +kernel
theorem dX8_follow_112 : decode cX8_follow 112 = .ok (.iload 9, 2) := by decide +kernel
theorem dX8_follow_114 : decode cX8_follow 114 = .ok (.ifCond .eq 14, 3) := by decide +kernel
theorem dX8_follow_117 : decode cX8_follow 117 = .ok (.aload_n 0, 1) := by decide +kernel
theorem dX8_follow_118 : decode cX8_follow 118 = .ok (.iload 8, 2) := by decide +kernel
theorem dX8_follow_120 : decode cX8_follow 120 = .ok (.bipush 8, 2) := by decide +kernel
theorem dX8_follow_122 : decode cX8_follow 122 = .ok (.invokevirtual 278, 3) := by decide +kernel
theorem dX8_follow_125 : decode cX8_follow 125 = .ok (.goto 4, 3) := by decide +kernel
theorem dX8_follow_128 : decode cX8_follow 128 = .ok (.lconst 0, 1) := by decide +kernel
theorem dX8_follow_129 : decode cX8_follow 129 = .ok (.lstore 10, 2) := by decide +kernel
theorem dX8_follow_131 : decode cX8_follow 131 = .ok (.iload 9, 2) := by decide +kernel
theorem dX8_follow_133 : decode cX8_follow 133 = .ok (.ifCond .eq 13, 3) := by decide +kernel
theorem dX8_follow_136 : decode cX8_follow 136 = .ok (.lload 6, 2) := by decide +kernel
theorem dX8_follow_138 : decode cX8_follow 138 = .ok (.lload 10, 2) := by decide +kernel
theorem dX8_follow_140 : decode cX8_follow 140 = .ok (.lcmp, 1) := by decide +kernel
theorem dX8_follow_141 : decode cX8_follow 141 = .ok (.ifCond .ge 5, 3) := by decide +kernel
theorem dX8_follow_144 : decode cX8_follow 144 = .ok (.iconst 2, 1) := by decide +kernel
theorem dX8_follow_145 : decode cX8_follow 145 = .ok (.ireturn, 1) := by decide +kernel
theorem dX8_follow_146 : decode cX8_follow 146 = .ok (.aload_n 0, 1) := by decide +kernel
theorem dX8_follow_147 : decode cX8_follow 147 = .ok (.iload 8, 2) := by decide +kernel
theorem dX8_follow_149 : decode cX8_follow 149 = .ok (.bipush 10, 2) := by decide +kernel
theorem dX8_follow_151 : decode cX8_follow 151 = .ok (.invokevirtual 282, 3) := by decide +kernel
theorem dX8_follow_154 : decode cX8_follow 154 = .ok (.aload_n 0, 1) := by decide +kernel
theorem dX8_follow_155 : decode cX8_follow 155 = .ok (.bipush 16, 2) := by decide +kernel
theorem dX8_follow_157 : decode cX8_follow 157 = .ok (.bipush 11, 2) := by decide +kernel
theorem dX8_follow_159 : decode cX8_follow 159 = .ok (.invokevirtual 226, 3) := by decide +kernel
theorem dX8_follow_162 : decode cX8_follow 162 = .ok (.iload 9, 2) := by decide +kernel
theorem dX8_follow_164 : decode cX8_follow 164 = .ok (.ifCond .eq 54, 3) := by decide +kernel
theorem dX8_follow_167 : decode cX8_follow 167 = .ok (.lload 6, 2) := by decide +kernel
theorem dX8_follow_169 : decode cX8_follow 169 = .ok (.lload 10, 2) := by decide +kernel
theorem dX8_follow_171 : decode cX8_follow 171 = .ok (.lcmp, 1) := by decide +kernel
theorem dX8_follow_172 : decode cX8_follow 172 = .ok (.ifCond .ne 46, 3) := by decide +kernel
theorem dX8_follow_175 : decode cX8_follow 175 = .ok (.aload_n 0, 1) := by decide +kernel
theorem dX8_follow_176 : decode cX8_follow 176 = .ok (.bipush 10, 2) := by decide +kernel
theorem dX8_follow_178 : decode cX8_follow 178 = .ok (.bipush 11, 2) := by decide +kernel
theorem dX8_follow_180 : decode cX8_follow 180 = .ok (.invokevirtual 229, 3) := by decide +kernel
theorem dX8_follow_183 : decode cX8_follow 183 = .ok (.ifCond .ne 35, 3) := by decide +kernel
theorem dX8_follow_186 : decode cX8_follow 186 = .ok (.aload_n 0, 1) := by decide +kernel
theorem dX8_follow_187 : decode cX8_follow 187 = .ok (.getfield 48, 3) := by decide +kernel
theorem dX8_follow_190 : decode cX8_follow 190 = .ok (.iload 8, 2) := by decide +kernel
theorem dX8_follow_192 : decode cX8_follow 192 = .ok (.iconst 1, 1) := by decide +kernel
theorem dX8_follow_193 : decode cX8_follow 193 = .ok (.iadd, 1) := by decide +kernel
theorem dX8_follow_194 : decode cX8_follow 194 = .ok (.baload, 1) := by decide +kernel
theorem dX8_follow_195 : decode cX8_follow 195 = .ok (.ifCond .ne 21, 3) := by decide +kernel
theorem dX8_follow_198 : decode cX8_follow 198 = .ok (.aload_n 0, 1) := by decide +kernel
theorem dX8_follow_199 : decode cX8_follow 199 = .ok (.iload 8, 2) := by decide +kernel
theorem dX8_follow_201 : decode cX8_follow 201 = .ok (.iload 8, 2) := by decide +kernel
theorem dX8_follow_203 : decode cX8_follow 203 = .ok (.iconst 1, 1) := by decide +kernel
theorem dX8_follow_204 : decode cX8_follow 204 = .ok (.iadd, 1) := by decide +kernel
theorem dX8_follow_205 : decode cX8_follow 205 = .ok (.invokevirtual 285, 3) := by decide +kernel
theorem dX8_follow_208 : decode cX8_follow 208 = .ok (.aload_n 0, 1) := by decide +kernel
theorem dX8_follow_209 : decode cX8_follow 209 = .ok (.iload 8, 2) := by decide +kernel
theorem dX8_follow_211 : decode cX8_follow 211 = .ok (.iconst 2, 1) := by decide +kernel
theorem dX8_follow_212 : decode cX8_follow 212 = .ok (.iadd, 1) := by decide +kernel
theorem dX8_follow_213 : decode cX8_follow 213 = .ok (.invokevirtual 288, 3) := by decide +kernel
theorem dX8_follow_216 : decode cX8_follow 216 = .ok (.iconst 3, 1) := by decide +kernel
theorem dX8_follow_217 : decode cX8_follow 217 = .ok (.ireturn, 1) := by decide +kernel
theorem dX8_follow_218 : decode cX8_follow 218 = .ok (.iload 9, 2) := by decide +kernel
theorem dX8_follow_220 : decode cX8_follow 220 = .ok (.ifCond .eq 18, 3) := by decide +kernel
theorem dX8_follow_223 : decode cX8_follow 223 = .ok (.lload 6, 2) := by decide +kernel
theorem dX8_follow_225 : decode cX8_follow 225 = .ok (.lload 10, 2) := by decide +kernel
theorem dX8_follow_227 : decode cX8_follow 227 = .ok (.lcmp, 1) := by decide +kernel
theorem dX8_follow_228 : decode cX8_follow 228 = .ok (.ifCond .eq 10, 3) := by decide +kernel
theorem dX8_follow_231 : decode cX8_follow 231 = .ok (.lload 10, 2) := by decide +kernel
theorem dX8_follow_233 : decode cX8_follow 233 = .ok (.lconst 0, 1) := by decide +kernel
theorem dX8_follow_234 : decode cX8_follow 234 = .ok (.lcmp, 1) := by decide +kernel
theorem dX8_follow_235 : decode cX8_follow 235 = .ok (.ifCond .ne 7, 3) := by decide +kernel
theorem dX8_follow_238 : decode cX8_follow 238 = .ok (.iconst 1, 1) := by decide +kernel
theorem dX8_follow_239 : decode cX8_follow 239 = .ok (.goto 4, 3) := by decide +kernel
theorem dX8_follow_242 : decode cX8_follow 242 = .ok (.iconst 0, 1) := by decide +kernel
theorem dX8_follow_243 : decode cX8_follow 243 = .ok (.istore 12, 2) := by decide +kernel
theorem dX8_follow_245 : decode cX8_follow 245 = .ok (.iload 12, 2) := by decide +kernel
theorem dX8_follow_247 : decode cX8_follow 247 = .ok (.ifCond .eq 12, 3) := by decide +kernel
theorem dX8_follow_250 : decode cX8_follow 250 = .ok (.iload_n 3, 1) := by decide +kernel
theorem dX8_follow_251 : decode cX8_follow 251 = .ok (.bipush 80, 2) := by decide +kernel
theorem dX8_follow_253 : decode cX8_follow 253 = .ok (.if_icmp .eq 22, 3) := by decide +kernel
theorem dX8_follow_256 : decode cX8_follow 256 = .ok (.goto 17, 3) := by decide +kernel
theorem dX8_follow_259 : decode cX8_follow 259 = .ok (.aload_n 0, 1) := by decide +kernel
theorem dX8_follow_260 : decode cX8_follow 260 = .ok (.lload 10, 2) := by decide +kernel
theorem dX8_follow_262 : decode cX8_follow 262 = .ok (.lload 6, 2) := by decide +kernel
theorem dX8_follow_264 : decode cX8_follow 264 = .ok (.bipush 80, 2) := by decide +kernel
theorem dX8_follow_266 : decode cX8_follow 266 = .ok (.iload_n 3, 1) := by decide +kernel
theorem dX8_follow_267 : decode cX8_follow 267 = .ok (.invokevirtual 260, 3) := by decide +kernel
theorem dX8_follow_270 : decode cX8_follow 270 = .ok (.ifCond .ne 5, 3) := by decide +kernel
theorem dX8_follow_273 : decode cX8_follow 273 = .ok (.iconst 4, 1) := by decide +kernel
theorem dX8_follow_274 : decode cX8_follow 274 = .ok (.ireturn, 1) := by decide +kernel
theorem dX8_follow_275 : decode cX8_follow 275 = .ok (.iload 9, 2) := by decide +kernel
theorem dX8_follow_277 : decode cX8_follow 277 = .ok (.ifCond .eq 18, 3) := by decide +kernel
theorem dX8_follow_280 : decode cX8_follow 280 = .ok (.lload 4, 2) := by decide +kernel
theorem dX8_follow_282 : decode cX8_follow 282 = .ok (.aload_n 0, 1) := by decide +kernel
theorem dX8_follow_283 : decode cX8_follow 283 = .ok (.iload 8, 2) := by decide +kernel
theorem dX8_follow_285 : decode cX8_follow 285 = .ok (.iconst 0, 1) := by decide +kernel
theorem dX8_follow_286 : decode cX8_follow 286 = .ok (.invokevirtual 278, 3) := by decide +kernel
theorem dX8_follow_289 : decode cX8_follow 289 = .ok (.lcmp, 1) := by decide +kernel
theorem dX8_follow_290 : decode cX8_follow 290 = .ok (.ifCond .ge 5, 3) := by decide +kernel
theorem dX8_follow_293 : decode cX8_follow 293 = .ok (.iconst 5, 1) := by decide +kernel
theorem dX8_follow_294 : decode cX8_follow 294 = .ok (.ireturn, 1) := by decide +kernel
theorem dX8_follow_295 : decode cX8_follow 295 = .ok (.aload_n 0, 1) := by decide +kernel
theorem dX8_follow_296 : decode cX8_follow 296 = .ok (.iload 8, 2) := by decide +kernel
theorem dX8_follow_298 : decode cX8_follow 298 = .ok (.invokevirtual 288, 3) := by decide +kernel
theorem dX8_follow_301 : decode cX8_follow 301 = .ok (.iconst 0, 1) := by decide +kernel
theorem dX8_follow_302 : decode cX8_follow 302 = .ok (.ireturn, 1) := by decide +kernel
theorem dX8_gossip_0 : decode cX8_gossip 0 = .ok (.aload_n 0, 1) := by decide +kernel
theorem dX8_gossip_1 : decode cX8_gossip 1 = .ok (.iload_n 1, 1) := by decide +kernel
theorem dX8_gossip_2 : decode cX8_gossip 2 = .ok (.invokestatic 271, 3) := by decide +kernel
theorem dX8_gossip_5 : decode cX8_gossip 5 = .ok (.ifCond .eq 17, 3) := by decide +kernel
theorem dX8_gossip_8 : decode cX8_gossip 8 = .ok (.iload_n 2, 1) := by decide +kernel
theorem dX8_gossip_9 : decode cX8_gossip 9 = .ok (.invokestatic 271, 3) := by decide +kernel
theorem dX8_gossip_12 : decode cX8_gossip 12 = .ok (.ifCond .eq 10, 3) := by decide +kernel
theorem dX8_gossip_15 : decode cX8_gossip 15 = .ok (.iload_n 3, 1) := by decide +kernel
theorem dX8_gossip_16 : decode cX8_gossip 16 = .ok (.invokestatic 204, 3) := by decide +kernel
theorem dX8_gossip_19 : decode cX8_gossip 19 = .ok (.ifCond .ne 7, 3) := by decide +kernel
theorem dX8_gossip_22 : decode cX8_gossip 22 = .ok (.iconst 1, 1) := by decide +kernel
theorem dX8_gossip_23 : decode cX8_gossip 23 = .ok (.goto 4, 3) := by decide +kernel
theorem dX8_gossip_26 : decode cX8_gossip 26 = .ok (.iconst 0, 1) := by decide +kernel
theorem dX8_gossip_27 : decode cX8_gossip 27 = .ok (.putfield 134, 3) := by decide +kernel
theorem dX8_gossip_30 : decode cX8_gossip 30 = .ok (.aload_n 0, 1) := by decide +kernel
theorem dX8_gossip_31 : decode cX8_gossip 31 = .ok (.getfield 134, 3) := by decide +kernel
theorem dX8_gossip_34 : decode cX8_gossip 34 = .ok (.ifCond .le 5, 3) := by decide +kernel
theorem dX8_gossip_37 : decode cX8_gossip 37 = .ok (.iconst 0, 1) := by decide +kernel
theorem dX8_gossip_38 : decode cX8_gossip 38 = .ok (.ireturn, 1) := by decide +kernel
theorem dX8_gossip_39 : decode cX8_gossip 39 = .ok (.iload_n 1, 1) := by decide +kernel
theorem dX8_gossip_40 : decode cX8_gossip 40 = .ok (.iload_n 3, 1) := by decide +kernel
theorem dX8_gossip_41 : decode cX8_gossip 41 = .ok (.iconst 0, 1) := by decide +kernel
theorem dX8_gossip_42 : decode cX8_gossip 42 = .ok (.invokestatic 274, 3) := by decide +kernel
theorem dX8_gossip_45 : decode cX8_gossip 45 = .ok (.istore 4, 2) := by decide +kernel
theorem dX8_gossip_47 : decode cX8_gossip 47 = .ok (.iload_n 2, 1) := by decide +kernel
theorem dX8_gossip_48 : decode cX8_gossip 48 = .ok (.iload_n 3, 1) := by decide +kernel
theorem dX8_gossip_49 : decode cX8_gossip 49 = .ok (.iconst 0, 1) := by decide +kernel
theorem dX8_gossip_50 : decode cX8_gossip 50 = .ok (.invokestatic 274, 3) := by decide +kernel
theorem dX8_gossip_53 : decode cX8_gossip 53 = .ok (.istore 5, 2) := by decide +kernel
theorem dX8_gossip_55 : decode cX8_gossip 55 = .ok (.aload_n 0, 1) := by decide +kernel
theorem dX8_gossip_56 : decode cX8_gossip 56 = .ok (.getfield 48, 3) := by decide +kernel
theorem dX8_gossip_59 : decode cX8_gossip 59 = .ok (.iload 4, 2) := by decide +kernel
theorem dX8_gossip_61 : decode cX8_gossip 61 = .ok (.baload, 1) := by decide +kernel
theorem dX8_gossip_62 : decode cX8_gossip 62 = .ok (.ifCond .eq 13, 3) := by decide +kernel
theorem dX8_gossip_65 : decode cX8_gossip 65 = .ok (.aload_n 0, 1) := by decide +kernel
theorem dX8_gossip_66 : decode cX8_gossip 66 = .ok (.getfield 48, 3) := by decide +kernel
theorem dX8_gossip_69 : decode cX8_gossip 69 = .ok (.iload 5, 2) := by decide +kernel
theorem dX8_gossip_71 : decode cX8_gossip 71 = .ok (.baload, 1) := by decide +kernel
theorem dX8_gossip_72 : decode cX8_gossip 72 = .ok (.ifCond .ne 5, 3) := by decide +kernel
theorem dX8_gossip_75 : decode cX8_gossip 75 = .ok (.iconst 0, 1) := by decide +kernel
theorem dX8_gossip_76 : decode cX8_gossip 76 = .ok (.ireturn, 1) := by decide +kernel
theorem dX8_gossip_77 : decode cX8_gossip 77 = .ok (.aload_n 0, 1) := by decide +kernel
theorem dX8_gossip_78 : decode cX8_gossip 78 = .ok (.iload 4, 2) := by decide +kernel
theorem dX8_gossip_80 : decode cX8_gossip 80 = .ok (.bipush 8, 2) := by decide +kernel
theorem dX8_gossip_82 : decode cX8_gossip 82 = .ok (.invokevirtual 278, 3) := by decide +kernel
theorem dX8_gossip_85 : decode cX8_gossip 85 = .ok (.lstore 6, 2) := by decide +kernel
theorem dX8_gossip_87 : decode cX8_gossip 87 = .ok (.aload_n 0, 1) := by decide +kernel
theorem dX8_gossip_88 : decode cX8_gossip 88 = .ok (.iload 5, 2) := by decide +kernel
theorem dX8_gossip_90 : decode cX8_gossip 90 = .ok (.bipush 8, 2) := by decide +kernel
theorem dX8_gossip_92 : decode cX8_gossip 92 = .ok (.invokevirtual 278, 3) := by decide +kernel
theorem dX8_gossip_95 : decode cX8_gossip 95 = .ok (.lstore 8, 2) := by decide +kernel
theorem dX8_gossip_97 : decode cX8_gossip 97 = .ok (.lload 6, 2) := by decide +kernel
theorem dX8_gossip_99 : decode cX8_gossip 99 = .ok (.lload 8, 2) := by decide +kernel
theorem dX8_gossip_101 : decode cX8_gossip 101 = .ok (.lcmp, 1) := by decide +kernel
theorem dX8_gossip_102 : decode cX8_gossip 102 = .ok (.ifCond .eq 17, 3) := by decide +kernel
theorem dX8_gossip_105 : decode cX8_gossip 105 = .ok (.lload 6, 2) := by decide +kernel
theorem dX8_gossip_107 : decode cX8_gossip 107 = .ok (.lload 8, 2) := by decide +kernel
theorem dX8_gossip_109 : decode cX8_gossip 109 = .ok (.lcmp, 1) := by decide +kernel
theorem dX8_gossip_110 : decode cX8_gossip 110 = .ok (.ifCond .le 7, 3) := by decide +kernel
theorem dX8_gossip_113 : decode cX8_gossip 113 = .ok (.iconst 1, 1) := by decide +kernel
theorem dX8_gossip_114 : decode cX8_gossip 114 = .ok (.goto 4, 3) := by decide +kernel
theorem dX8_gossip_117 : decode cX8_gossip 117 = .ok (.iconst 2, 1) := by decide +kernel
theorem dX8_gossip_118 : decode cX8_gossip 118 = .ok (.ireturn, 1) := by decide +kernel
theorem dX8_gossip_119 : decode cX8_gossip 119 = .ok (.aload_n 0, 1) := by decide +kernel
theorem dX8_gossip_120 : decode cX8_gossip 120 = .ok (.iload 4, 2) := by decide +kernel
theorem dX8_gossip_122 : decode cX8_gossip 122 = .ok (.bipush 10, 2) := by decide +kernel
theorem dX8_gossip_124 : decode cX8_gossip 124 = .ok (.invokevirtual 282, 3) := by decide +kernel
theorem dX8_gossip_127 : decode cX8_gossip 127 = .ok (.aload_n 0, 1) := by decide +kernel
theorem dX8_gossip_128 : decode cX8_gossip 128 = .ok (.iload 5, 2) := by decide +kernel
theorem dX8_gossip_130 : decode cX8_gossip 130 = .ok (.bipush 11, 2) := by decide +kernel
theorem dX8_gossip_132 : decode cX8_gossip 132 = .ok (.invokevirtual 282, 3) := by decide +kernel
theorem dX8_gossip_135 : decode cX8_gossip 135 = .ok (.aload_n 0, 1) := by decide +kernel
theorem dX8_gossip_136 : decode cX8_gossip 136 = .ok (.bipush 10, 2) := by decide +kernel
theorem dX8_gossip_138 : decode cX8_gossip 138 = .ok (.bipush 11, 2) := by decide +kernel
theorem dX8_gossip_140 : decode cX8_gossip 140 = .ok (.invokevirtual 229, 3) := by decide +kernel
theorem dX8_gossip_143 : decode cX8_gossip 143 = .ok (.ifCond .eq 5, 3) := by decide +kernel
theorem dX8_gossip_146 : decode cX8_gossip 146 = .ok (.iconst 0, 1) := by decide +kernel
theorem dX8_gossip_147 : decode cX8_gossip 147 = .ok (.ireturn, 1) := by decide +kernel
theorem dX8_gossip_148 : decode cX8_gossip 148 = .ok (.aload_n 0, 1) := by decide +kernel
theorem dX8_gossip_149 : decode cX8_gossip 149 = .ok (.iload 4, 2) := by decide +kernel
theorem dX8_gossip_151 : decode cX8_gossip 151 = .ok (.iload 4, 2) := by decide +kernel
theorem dX8_gossip_153 : decode cX8_gossip 153 = .ok (.iload 5, 2) := by decide +kernel
theorem dX8_gossip_155 : decode cX8_gossip 155 = .ok (.invokevirtual 291, 3) := by decide +kernel
theorem dX8_gossip_158 : decode cX8_gossip 158 = .ok (.aload_n 0, 1) := by decide +kernel
theorem dX8_gossip_159 : decode cX8_gossip 159 = .ok (.iload 5, 2) := by decide +kernel
theorem dX8_gossip_161 : decode cX8_gossip 161 = .ok (.iload 4, 2) := by decide +kernel
theorem dX8_gossip_163 : decode cX8_gossip 163 = .ok (.iload 5, 2) := by decide +kernel
theorem dX8_gossip_165 : decode cX8_gossip 165 = .ok (.invokevirtual 291, 3) := by decide +kernel
theorem dX8_gossip_168 : decode cX8_gossip 168 = .ok (.iconst 3, 1) := by decide +kernel
theorem dX8_gossip_169 : decode cX8_gossip 169 = .ok (.ireturn, 1) := by decide +kernel
theorem dX8_told_0 : decode cX8_told 0 = .ok (.aload_n 0, 1) := by decide +kernel
theorem dX8_told_1 : decode cX8_told 1 = .ok (.getfield 48, 3) := by decide +kernel
theorem dX8_told_4 : decode cX8_told 4 = .ok (.iload_n 1, 1) := by decide +kernel
theorem dX8_told_5 : decode cX8_told 5 = .ok (.iconst 1, 1) := by decide +kernel
theorem dX8_told_6 : decode cX8_told 6 = .ok (.iadd, 1) := by decide +kernel
theorem dX8_told_7 : decode cX8_told 7 = .ok (.baload, 1) := by decide +kernel
theorem dX8_told_8 : decode cX8_told 8 = .ok (.ifCond .eq 4, 3) := by decide +kernel
theorem dX8_told_11 : decode cX8_told 11 = .ok (.return_, 1) := by decide +kernel
theorem dX8_told_12 : decode cX8_told 12 = .ok (.aload_n 0, 1) := by decide +kernel
theorem dX8_told_13 : decode cX8_told 13 = .ok (.iload_n 2, 1) := by decide +kernel
theorem dX8_told_14 : decode cX8_told 14 = .ok (.iload_n 1, 1) := by decide +kernel
theorem dX8_told_15 : decode cX8_told 15 = .ok (.iconst 1, 1) := by decide +kernel
theorem dX8_told_16 : decode cX8_told 16 = .ok (.iadd, 1) := by decide +kernel
theorem dX8_told_17 : decode cX8_told 17 = .ok (.invokevirtual 285, 3) := by decide +kernel
theorem dX8_told_20 : decode cX8_told 20 = .ok (.aload_n 0, 1) := by decide +kernel
theorem dX8_told_21 : decode cX8_told 21 = .ok (.iload_n 3, 1) := by decide +kernel
theorem dX8_told_22 : decode cX8_told 22 = .ok (.iload_n 1, 1) := by decide +kernel
theorem dX8_told_23 : decode cX8_told 23 = .ok (.iconst 2, 1) := by decide +kernel
theorem dX8_told_24 : decode cX8_told 24 = .ok (.iadd, 1) := by decide +kernel
theorem dX8_told_25 : decode cX8_told 25 = .ok (.invokevirtual 285, 3) := by decide +kernel
theorem dX8_told_28 : decode cX8_told 28 = .ok (.return_, 1) := by decide +kernel
theorem dX8_has_0 : decode cX8_has 0 = .ok (.aload_n 0, 1) := by decide +kernel
theorem dX8_has_1 : decode cX8_has 1 = .ok (.iload_n 1, 1) := by decide +kernel
theorem dX8_has_2 : decode cX8_has 2 = .ok (.invokestatic 271, 3) := by decide +kernel
theorem dX8_has_5 : decode cX8_has 5 = .ok (.ifCond .eq 10, 3) := by decide +kernel
theorem dX8_has_8 : decode cX8_has 8 = .ok (.iload_n 2, 1) := by decide +kernel
theorem dX8_has_9 : decode cX8_has 9 = .ok (.invokestatic 204, 3) := by decide +kernel
theorem dX8_has_12 : decode cX8_has 12 = .ok (.ifCond .ne 7, 3) := by decide +kernel
theorem dX8_has_15 : decode cX8_has 15 = .ok (.iconst 1, 1) := by decide +kernel
theorem dX8_has_16 : decode cX8_has 16 = .ok (.goto 31, 3) := by decide +kernel
theorem dX8_has_19 : decode cX8_has 19 = .ok (.iload_n 3, 1) := by decide +kernel
theorem dX8_has_20 : decode cX8_has 20 = .ok (.ifCond .lt 22, 3) := by decide +kernel
theorem dX8_has_23 : decode cX8_has 23 = .ok (.iload_n 3, 1) := by decide +kernel
theorem dX8_has_24 : decode cX8_has 24 = .ok (.iconst 2, 1) := by decide +kernel
theorem dX8_has_25 : decode cX8_has 25 = .ok (.if_icmp .gt 17, 3) := by decide +kernel
theorem dX8_has_28 : decode cX8_has 28 = .ok (.aload_n 0, 1) := by decide +kernel
theorem dX8_has_29 : decode cX8_has 29 = .ok (.getfield 48, 3) := by decide +kernel
theorem dX8_has_32 : decode cX8_has 32 = .ok (.iload_n 1, 1) := by decide +kernel
theorem dX8_has_33 : decode cX8_has 33 = .ok (.iload_n 2, 1) := by decide +kernel
theorem dX8_has_34 : decode cX8_has 34 = .ok (.iload_n 3, 1) := by decide +kernel
theorem dX8_has_35 : decode cX8_has 35 = .ok (.invokestatic 274, 3) := by decide +kernel
theorem dX8_has_38 : decode cX8_has 38 = .ok (.baload, 1) := by decide +kernel
theorem dX8_has_39 : decode cX8_has 39 = .ok (.ifCond .ne 7, 3) := by decide +kernel
theorem dX8_has_42 : decode cX8_has 42 = .ok (.iconst 2, 1) := by decide +kernel
theorem dX8_has_43 : decode cX8_has 43 = .ok (.goto 4, 3) := by decide +kernel
theorem dX8_has_46 : decode cX8_has 46 = .ok (.iconst 0, 1) := by decide +kernel
theorem dX8_has_47 : decode cX8_has 47 = .ok (.putfield 134, 3) := by decide +kernel
theorem dX8_has_50 : decode cX8_has 50 = .ok (.aload_n 0, 1) := by decide +kernel
theorem dX8_has_51 : decode cX8_has 51 = .ok (.getfield 134, 3) := by decide +kernel
theorem dX8_has_54 : decode cX8_has 54 = .ok (.ifCond .le 5, 3) := by decide +kernel
theorem dX8_has_57 : decode cX8_has 57 = .ok (.iconst 0, 1) := by decide +kernel
theorem dX8_has_58 : decode cX8_has 58 = .ok (.ireturn, 1) := by decide +kernel
theorem dX8_has_59 : decode cX8_has 59 = .ok (.iload_n 1, 1) := by decide +kernel
theorem dX8_has_60 : decode cX8_has 60 = .ok (.iload_n 2, 1) := by decide +kernel
theorem dX8_has_61 : decode cX8_has 61 = .ok (.iload_n 3, 1) := by decide +kernel
theorem dX8_has_62 : decode cX8_has 62 = .ok (.invokestatic 274, 3) := by decide +kernel
theorem dX8_has_65 : decode cX8_has 65 = .ok (.istore 4, 2) := by decide +kernel
theorem dX8_has_67 : decode cX8_has 67 = .ok (.iconst 0, 1) := by decide +kernel
theorem dX8_has_68 : decode cX8_has 68 = .ok (.istore 5, 2) := by decide +kernel
theorem dX8_has_70 : decode cX8_has 70 = .ok (.iload 5, 2) := by decide +kernel
theorem dX8_has_72 : decode cX8_has 72 = .ok (.bipush 80, 2) := by decide +kernel
theorem dX8_has_74 : decode cX8_has 74 = .ok (.if_icmp .ge 29, 3) := by decide +kernel
theorem dX8_has_77 : decode cX8_has 77 = .ok (.aload_n 0, 1) := by decide +kernel
theorem dX8_has_78 : decode cX8_has 78 = .ok (.getfield 13, 3) := by decide +kernel
theorem dX8_has_81 : decode cX8_has 81 = .ok (.iload 5, 2) := by decide +kernel
theorem dX8_has_83 : decode cX8_has 83 = .ok (.aload_n 0, 1) := by decide +kernel
theorem dX8_has_84 : decode cX8_has 84 = .ok (.getfield 45, 3) := by decide +kernel
theorem dX8_has_87 : decode cX8_has 87 = .ok (.bipush 80, 2) := by decide +kernel
theorem dX8_has_89 : decode cX8_has 89 = .ok (.iload 4, 2) := by decide +kernel
theorem dX8_has_91 : decode cX8_has 91 = .ok (.imul, 1) := by decide +kernel
theorem dX8_has_92 : decode cX8_has 92 = .ok (.iload 5, 2) := by decide +kernel
theorem dX8_has_94 : decode cX8_has 94 = .ok (.iadd, 1) := by decide +kernel
theorem dX8_has_95 : decode cX8_has 95 = .ok (.iaload, 1) := by decide +kernel
theorem dX8_has_96 : decode cX8_has 96 = .ok (.iastore, 1) := by decide +kernel
theorem dX8_has_97 : decode cX8_has 97 = .ok (.iinc 5 1, 3) := by decide +kernel
theorem dX8_has_100 : decode cX8_has 100 = .ok (.goto (-30), 3) := by decide +kernel
theorem dX8_has_103 : decode cX8_has 103 = .ok (.aload_n 0, 1) := by decide +kernel
theorem dX8_has_104 : decode cX8_has 104 = .ok (.bipush 80, 2) := by decide +kernel
theorem dX8_has_106 : decode cX8_has 106 = .ok (.putfield 145, 3) := by decide +kernel
theorem dX8_has_109 : decode cX8_has 109 = .ok (.iconst 1, 1) := by decide +kernel
theorem dX8_has_110 : decode cX8_has 110 = .ok (.ireturn, 1) := by decide +kernel
theorem dJ6_highestOneBit_0f7a4_0 : decode cJ6_highestOneBit_0f7a4 0 = .ok (.iload_n 0, 1) := by decide +kernel
theorem dJ6_highestOneBit_0f7a4_1 : decode cJ6_highestOneBit_0f7a4 1 = .ok (.ldc 127, 2) := by decide +kernel
theorem dJ6_highestOneBit_0f7a4_3 : decode cJ6_highestOneBit_0f7a4 3 = .ok (.iload_n 0, 1) := by decide +kernel
theorem dJ6_highestOneBit_0f7a4_4 : decode cJ6_highestOneBit_0f7a4 4 = .ok (.invokestatic 51, 3) := by decide +kernel
theorem dJ6_highestOneBit_0f7a4_7 : decode cJ6_highestOneBit_0f7a4 7 = .ok (.iushr, 1) := by decide +kernel
theorem dJ6_highestOneBit_0f7a4_8 : decode cJ6_highestOneBit_0f7a4 8 = .ok (.iand, 1) := by decide +kernel
theorem dJ6_highestOneBit_0f7a4_9 : decode cJ6_highestOneBit_0f7a4 9 = .ok (.ireturn, 1) := by decide +kernel
theorem dJ6_numberOfLeadingZeros_0f7a4_0 : decode cJ6_numberOfLeadingZeros_0f7a4 0 = .ok (.iload_n 0, 1) := by decide +kernel
theorem dJ6_numberOfLeadingZeros_0f7a4_1 : decode cJ6_numberOfLeadingZeros_0f7a4 1 = .ok (.ifCond .gt 14, 3) := by decide +kernel
theorem dJ6_numberOfLeadingZeros_0f7a4_4 : decode cJ6_numberOfLeadingZeros_0f7a4 4 = .ok (.iload_n 0, 1) := by decide +kernel
theorem dJ6_numberOfLeadingZeros_0f7a4_5 : decode cJ6_numberOfLeadingZeros_0f7a4 5 = .ok (.ifCond .ne 8, 3) := by decide +kernel
theorem dJ6_numberOfLeadingZeros_0f7a4_8 : decode cJ6_numberOfLeadingZeros_0f7a4 8 = .ok (.bipush 32, 2) := by decide +kernel
theorem dJ6_numberOfLeadingZeros_0f7a4_10 : decode cJ6_numberOfLeadingZeros_0f7a4 10 = .ok (.goto 4, 3) := by decide +kernel
theorem dJ6_numberOfLeadingZeros_0f7a4_13 : decode cJ6_numberOfLeadingZeros_0f7a4 13 = .ok (.iconst 0, 1) := by decide +kernel
theorem dJ6_numberOfLeadingZeros_0f7a4_14 : decode cJ6_numberOfLeadingZeros_0f7a4 14 = .ok (.ireturn, 1) := by decide +kernel
theorem dJ6_numberOfLeadingZeros_0f7a4_15 : decode cJ6_numberOfLeadingZeros_0f7a4 15 = .ok (.bipush 31, 2) := by decide +kernel
theorem dJ6_numberOfLeadingZeros_0f7a4_17 : decode cJ6_numberOfLeadingZeros_0f7a4 17 = .ok (.istore_n 1, 1) := by decide +kernel
theorem dJ6_numberOfLeadingZeros_0f7a4_18 : decode cJ6_numberOfLeadingZeros_0f7a4 18 = .ok (.iload_n 0, 1) := by decide +kernel
theorem dJ6_numberOfLeadingZeros_0f7a4_19 : decode cJ6_numberOfLeadingZeros_0f7a4 19 = .ok (.ldc_w 264, 3) := by decide +kernel
theorem dJ6_numberOfLeadingZeros_0f7a4_22 : decode cJ6_numberOfLeadingZeros_0f7a4 22 = .ok (.if_icmp .lt 11, 3) := by decide +kernel
theorem dJ6_numberOfLeadingZeros_0f7a4_25 : decode cJ6_numberOfLeadingZeros_0f7a4 25 = .ok (.iinc 1 (-16), 3) := by decide +kernel
theorem dJ6_numberOfLeadingZeros_0f7a4_28 : decode cJ6_numberOfLeadingZeros_0f7a4 28 = .ok (.iload_n 0, 1) := by decide +kernel
theorem dJ6_numberOfLeadingZeros_0f7a4_29 : decode cJ6_numberOfLeadingZeros_0f7a4 29 = .ok (.bipush 16, 2) := by decide +kernel
theorem dJ6_numberOfLeadingZeros_0f7a4_31 : decode cJ6_numberOfLeadingZeros_0f7a4 31 = .ok (.iushr, 1) := by decide +kernel
theorem dJ6_numberOfLeadingZeros_0f7a4_32 : decode cJ6_numberOfLeadingZeros_0f7a4 32 = .ok (.istore_n 0, 1) := by decide +kernel
theorem dJ6_numberOfLeadingZeros_0f7a4_33 : decode cJ6_numberOfLeadingZeros_0f7a4 33 = .ok (.iload_n 0, 1) := by decide +kernel
theorem dJ6_numberOfLeadingZeros_0f7a4_34 : decode cJ6_numberOfLeadingZeros_0f7a4 34 = .ok (.sipush 256, 3) := by decide +kernel
theorem dJ6_numberOfLeadingZeros_0f7a4_37 : decode cJ6_numberOfLeadingZeros_0f7a4 37 = .ok (.if_icmp .lt 11, 3) := by decide +kernel
theorem dJ6_numberOfLeadingZeros_0f7a4_40 : decode cJ6_numberOfLeadingZeros_0f7a4 40 = .ok (.iinc 1 (-8), 3) := by decide +kernel
theorem dJ6_numberOfLeadingZeros_0f7a4_43 : decode cJ6_numberOfLeadingZeros_0f7a4 43 = .ok (.iload_n 0, 1) := by decide +kernel
theorem dJ6_numberOfLeadingZeros_0f7a4_44 : decode cJ6_numberOfLeadingZeros_0f7a4 44 = .ok (.bipush 8, 2) := by decide +kernel
theorem dJ6_numberOfLeadingZeros_0f7a4_46 : decode cJ6_numberOfLeadingZeros_0f7a4 46 = .ok (.iushr, 1) := by decide +kernel
theorem dJ6_numberOfLeadingZeros_0f7a4_47 : decode cJ6_numberOfLeadingZeros_0f7a4 47 = .ok (.istore_n 0, 1) := by decide +kernel
theorem dJ6_numberOfLeadingZeros_0f7a4_48 : decode cJ6_numberOfLeadingZeros_0f7a4 48 = .ok (.iload_n 0, 1) := by decide +kernel
theorem dJ6_numberOfLeadingZeros_0f7a4_49 : decode cJ6_numberOfLeadingZeros_0f7a4 49 = .ok (.bipush 16, 2) := by decide +kernel
theorem dJ6_numberOfLeadingZeros_0f7a4_51 : decode cJ6_numberOfLeadingZeros_0f7a4 51 = .ok (.if_icmp .lt 10, 3) := by decide +kernel
theorem dJ6_numberOfLeadingZeros_0f7a4_54 : decode cJ6_numberOfLeadingZeros_0f7a4 54 = .ok (.iinc 1 (-4), 3) := by decide +kernel
theorem dJ6_numberOfLeadingZeros_0f7a4_57 : decode cJ6_numberOfLeadingZeros_0f7a4 57 = .ok (.iload_n 0, 1) := by decide +kernel
theorem dJ6_numberOfLeadingZeros_0f7a4_58 : decode cJ6_numberOfLeadingZeros_0f7a4 58 = .ok (.iconst 4, 1) := by decide +kernel
theorem dJ6_numberOfLeadingZeros_0f7a4_59 : decode cJ6_numberOfLeadingZeros_0f7a4 59 = .ok (.iushr, 1) := by decide +kernel
theorem dJ6_numberOfLeadingZeros_0f7a4_60 : decode cJ6_numberOfLeadingZeros_0f7a4 60 = .ok (.istore_n 0, 1) := by decide +kernel
theorem dJ6_numberOfLeadingZeros_0f7a4_61 : decode cJ6_numberOfLeadingZeros_0f7a4 61 = .ok (.iload_n 0, 1) := by decide +kernel
theorem dJ6_numberOfLeadingZeros_0f7a4_62 : decode cJ6_numberOfLeadingZeros_0f7a4 62 = .ok (.iconst 4, 1) := by decide +kernel
theorem dJ6_numberOfLeadingZeros_0f7a4_63 : decode cJ6_numberOfLeadingZeros_0f7a4 63 = .ok (.if_icmp .lt 10, 3) := by decide +kernel
theorem dJ6_numberOfLeadingZeros_0f7a4_66 : decode cJ6_numberOfLeadingZeros_0f7a4 66 = .ok (.iinc 1 (-2), 3) := by decide +kernel
theorem dJ6_numberOfLeadingZeros_0f7a4_69 : decode cJ6_numberOfLeadingZeros_0f7a4 69 = .ok (.iload_n 0, 1) := by decide +kernel
theorem dJ6_numberOfLeadingZeros_0f7a4_70 : decode cJ6_numberOfLeadingZeros_0f7a4 70 = .ok (.iconst 2, 1) := by decide +kernel
theorem dJ6_numberOfLeadingZeros_0f7a4_71 : decode cJ6_numberOfLeadingZeros_0f7a4 71 = .ok (.iushr, 1) := by decide +kernel
theorem dJ6_numberOfLeadingZeros_0f7a4_72 : decode cJ6_numberOfLeadingZeros_0f7a4 72 = .ok (.istore_n 0, 1) := by decide +kernel
theorem dJ6_numberOfLeadingZeros_0f7a4_73 : decode cJ6_numberOfLeadingZeros_0f7a4 73 = .ok (.iload_n 1, 1) := by decide +kernel
theorem dJ6_numberOfLeadingZeros_0f7a4_74 : decode cJ6_numberOfLeadingZeros_0f7a4 74 = .ok (.iload_n 0, 1) := by decide +kernel
theorem dJ6_numberOfLeadingZeros_0f7a4_75 : decode cJ6_numberOfLeadingZeros_0f7a4 75 = .ok (.iconst 1, 1) := by decide +kernel
theorem dJ6_numberOfLeadingZeros_0f7a4_76 : decode cJ6_numberOfLeadingZeros_0f7a4 76 = .ok (.iushr, 1) := by decide +kernel
theorem dJ6_numberOfLeadingZeros_0f7a4_77 : decode cJ6_numberOfLeadingZeros_0f7a4 77 = .ok (.isub, 1) := by decide +kernel
theorem dJ6_numberOfLeadingZeros_0f7a4_78 : decode cJ6_numberOfLeadingZeros_0f7a4 78 = .ok (.ireturn, 1) := by decide +kernel
theorem dJ13_highestOneBit_067f4_0 : decode cJ13_highestOneBit_067f4 0 = .ok (.lload_n 0, 1) := by decide +kernel
theorem dJ13_highestOneBit_067f4_1 : decode cJ13_highestOneBit_067f4 1 = .ok (.ldc2_w 168, 3) := by decide +kernel
theorem dJ13_highestOneBit_067f4_4 : decode cJ13_highestOneBit_067f4 4 = .ok (.lload_n 0, 1) := by decide +kernel
theorem dJ13_highestOneBit_067f4_5 : decode cJ13_highestOneBit_067f4 5 = .ok (.invokestatic 98, 3) := by decide +kernel
theorem dJ13_highestOneBit_067f4_8 : decode cJ13_highestOneBit_067f4 8 = .ok (.lushr, 1) := by decide +kernel
theorem dJ13_highestOneBit_067f4_9 : decode cJ13_highestOneBit_067f4 9 = .ok (.land, 1) := by decide +kernel
theorem dJ13_highestOneBit_067f4_10 : decode cJ13_highestOneBit_067f4 10 = .ok (.lreturn, 1) := by decide +kernel
theorem dJ13_numberOfLeadingZeros_95d88_0 : decode cJ13_numberOfLeadingZeros_95d88 0 = .ok (.lload_n 0, 1) := by decide +kernel
theorem dJ13_numberOfLeadingZeros_95d88_1 : decode cJ13_numberOfLeadingZeros_95d88 1 = .ok (.bipush 32, 2) := by decide +kernel
theorem dJ13_numberOfLeadingZeros_95d88_3 : decode cJ13_numberOfLeadingZeros_95d88 3 = .ok (.lushr, 1) := by decide +kernel
theorem dJ13_numberOfLeadingZeros_95d88_4 : decode cJ13_numberOfLeadingZeros_95d88 4 = .ok (.l2i, 1) := by decide +kernel
theorem dJ13_numberOfLeadingZeros_95d88_5 : decode cJ13_numberOfLeadingZeros_95d88 5 = .ok (.istore_n 2, 1) := by decide +kernel
theorem dJ13_numberOfLeadingZeros_95d88_6 : decode cJ13_numberOfLeadingZeros_95d88 6 = .ok (.iload_n 2, 1) := by decide +kernel
theorem dJ13_numberOfLeadingZeros_95d88_7 : decode cJ13_numberOfLeadingZeros_95d88 7 = .ok (.ifCond .ne 14, 3) := by decide +kernel
theorem dJ13_numberOfLeadingZeros_95d88_10 : decode cJ13_numberOfLeadingZeros_95d88 10 = .ok (.bipush 32, 2) := by decide +kernel
theorem dJ13_numberOfLeadingZeros_95d88_12 : decode cJ13_numberOfLeadingZeros_95d88 12 = .ok (.lload_n 0, 1) := by decide +kernel
theorem dJ13_numberOfLeadingZeros_95d88_13 : decode cJ13_numberOfLeadingZeros_95d88 13 = .ok (.l2i, 1) := by decide +kernel
theorem dJ13_numberOfLeadingZeros_95d88_14 : decode cJ13_numberOfLeadingZeros_95d88 14 = .ok (.invokestatic 308, 3) := by decide +kernel
theorem dJ13_numberOfLeadingZeros_95d88_17 : decode cJ13_numberOfLeadingZeros_95d88 17 = .ok (.iadd, 1) := by decide +kernel
theorem dJ13_numberOfLeadingZeros_95d88_18 : decode cJ13_numberOfLeadingZeros_95d88 18 = .ok (.goto 7, 3) := by decide +kernel
theorem dJ13_numberOfLeadingZeros_95d88_21 : decode cJ13_numberOfLeadingZeros_95d88 21 = .ok (.iload_n 2, 1) := by decide +kernel
theorem dJ13_numberOfLeadingZeros_95d88_22 : decode cJ13_numberOfLeadingZeros_95d88 22 = .ok (.invokestatic 308, 3) := by decide +kernel
theorem dJ13_numberOfLeadingZeros_95d88_25 : decode cJ13_numberOfLeadingZeros_95d88 25 = .ok (.ireturn, 1) := by decide +kernel
theorem dJ7_fill_031fb_0 : decode cJ7_fill_031fb 0 = .ok (.iconst 0, 1) := by decide +kernel
theorem dJ7_fill_031fb_1 : decode cJ7_fill_031fb 1 = .ok (.istore_n 2, 1) := by decide +kernel
theorem dJ7_fill_031fb_2 : decode cJ7_fill_031fb 2 = .ok (.aload_n 0, 1) := by decide +kernel
theorem dJ7_fill_031fb_3 : decode cJ7_fill_031fb 3 = .ok (.arraylength, 1) := by decide +kernel
theorem dJ7_fill_031fb_4 : decode cJ7_fill_031fb 4 = .ok (.istore_n 3, 1) := by decide +kernel
theorem dJ7_fill_031fb_5 : decode cJ7_fill_031fb 5 = .ok (.iload_n 2, 1) := by decide +kernel
theorem dJ7_fill_031fb_6 : decode cJ7_fill_031fb 6 = .ok (.iload_n 3, 1) := by decide +kernel
theorem dJ7_fill_031fb_7 : decode cJ7_fill_031fb 7 = .ok (.if_icmp .ge 13, 3) := by decide +kernel
theorem dJ7_fill_031fb_10 : decode cJ7_fill_031fb 10 = .ok (.aload_n 0, 1) := by decide +kernel
theorem dJ7_fill_031fb_11 : decode cJ7_fill_031fb 11 = .ok (.iload_n 2, 1) := by decide +kernel
theorem dJ7_fill_031fb_12 : decode cJ7_fill_031fb 12 = .ok (.iload_n 1, 1) := by decide +kernel
theorem dJ7_fill_031fb_13 : decode cJ7_fill_031fb 13 = .ok (.bastore, 1) := by decide +kernel
theorem dJ7_fill_031fb_14 : decode cJ7_fill_031fb 14 = .ok (.iinc 2 1, 3) := by decide +kernel
theorem dJ7_fill_031fb_17 : decode cJ7_fill_031fb 17 = .ok (.goto (-12), 3) := by decide +kernel
theorem dJ7_fill_031fb_20 : decode cJ7_fill_031fb 20 = .ok (.return_, 1) := by decide +kernel
theorem dL_key_0 : decode cL_key 0 = .ok (.aload_n 2, 1) := by decide +kernel
theorem dL_key_1 : decode cL_key 1 = .ok (.iconst 0, 1) := by decide +kernel
theorem dL_key_2 : decode cL_key 2 = .ok (.aload_n 0, 1) := by decide +kernel
theorem dL_key_3 : decode cL_key 3 = .ok (.iload_n 1, 1) := by decide +kernel
theorem dL_key_4 : decode cL_key 4 = .ok (.invokevirtual 7, 3) := by decide +kernel
theorem dL_key_7 : decode cL_key 7 = .ok (.i2l, 1) := by decide +kernel
theorem dL_key_8 : decode cL_key 8 = .ok (.lastore, 1) := by decide +kernel
theorem dL_key_9 : decode cL_key 9 = .ok (.goto 12, 3) := by decide +kernel
theorem dL_key_12 : decode cL_key 12 = .ok (.astore_n 3, 1) := by decide +kernel
theorem dL_key_13 : decode cL_key 13 = .ok (.iconst 1, 1) := by decide +kernel
theorem dL_key_14 : decode cL_key 14 = .ok (.ireturn, 1) := by decide +kernel
theorem dL_key_15 : decode cL_key 15 = .ok (.astore_n 3, 1) := by decide +kernel
theorem dL_key_16 : decode cL_key 16 = .ok (.iconst 2, 1) := by decide +kernel
theorem dL_key_17 : decode cL_key 17 = .ok (.ireturn, 1) := by decide +kernel
theorem dL_key_18 : decode cL_key 18 = .ok (.astore_n 3, 1) := by decide +kernel
theorem dL_key_19 : decode cL_key 19 = .ok (.iconst 3, 1) := by decide +kernel
theorem dL_key_20 : decode cL_key 20 = .ok (.ireturn, 1) := by decide +kernel
theorem dL_key_21 : decode cL_key 21 = .ok (.iconst 0, 1) := by decide +kernel
theorem dL_key_22 : decode cL_key 22 = .ok (.ireturn, 1) := by decide +kernel
theorem dL_submit_0 : decode cL_submit 0 = .ok (.aload_n 2, 1) := by decide +kernel
theorem dL_submit_1 : decode cL_submit 1 = .ok (.iconst 0, 1) := by decide +kernel
theorem dL_submit_2 : decode cL_submit 2 = .ok (.aload_n 0, 1) := by decide +kernel
theorem dL_submit_3 : decode cL_submit 3 = .ok (.iload_n 1, 1) := by decide +kernel
theorem dL_submit_4 : decode cL_submit 4 = .ok (.invokevirtual 19, 3) := by decide +kernel
theorem dL_submit_7 : decode cL_submit 7 = .ok (.i2l, 1) := by decide +kernel
theorem dL_submit_8 : decode cL_submit 8 = .ok (.lastore, 1) := by decide +kernel
theorem dL_submit_9 : decode cL_submit 9 = .ok (.goto 12, 3) := by decide +kernel
theorem dL_submit_12 : decode cL_submit 12 = .ok (.astore_n 3, 1) := by decide +kernel
theorem dL_submit_13 : decode cL_submit 13 = .ok (.iconst 1, 1) := by decide +kernel
theorem dL_submit_14 : decode cL_submit 14 = .ok (.ireturn, 1) := by decide +kernel
theorem dL_submit_15 : decode cL_submit 15 = .ok (.astore_n 3, 1) := by decide +kernel
theorem dL_submit_16 : decode cL_submit 16 = .ok (.iconst 2, 1) := by decide +kernel
theorem dL_submit_17 : decode cL_submit 17 = .ok (.ireturn, 1) := by decide +kernel
theorem dL_submit_18 : decode cL_submit 18 = .ok (.astore_n 3, 1) := by decide +kernel
theorem dL_submit_19 : decode cL_submit 19 = .ok (.iconst 3, 1) := by decide +kernel
theorem dL_submit_20 : decode cL_submit 20 = .ok (.ireturn, 1) := by decide +kernel
theorem dL_submit_21 : decode cL_submit 21 = .ok (.iconst 0, 1) := by decide +kernel
theorem dL_submit_22 : decode cL_submit 22 = .ok (.ireturn, 1) := by decide +kernel
theorem dL_cut_0 : decode cL_cut 0 = .ok (.aload 4, 2) := by decide +kernel
theorem dL_cut_2 : decode cL_cut 2 = .ok (.iconst 0, 1) := by decide +kernel
theorem dL_cut_3 : decode cL_cut 3 = .ok (.aload_n 0, 1) := by decide +kernel
theorem dL_cut_4 : decode cL_cut 4 = .ok (.iload_n 1, 1) := by decide +kernel
theorem dL_cut_5 : decode cL_cut 5 = .ok (.lload_n 2, 1) := by decide +kernel
theorem dL_cut_6 : decode cL_cut 6 = .ok (.invokevirtual 22, 3) := by decide +kernel
theorem dL_cut_9 : decode cL_cut 9 = .ok (.i2l, 1) := by decide +kernel
theorem dL_cut_10 : decode cL_cut 10 = .ok (.lastore, 1) := by decide +kernel
theorem dL_cut_11 : decode cL_cut 11 = .ok (.goto 15, 3) := by decide +kernel
theorem dL_cut_14 : decode cL_cut 14 = .ok (.astore 5, 2) := by decide +kernel
theorem dL_cut_16 : decode cL_cut 16 = .ok (.iconst 1, 1) := by decide +kernel
theorem dL_cut_17 : decode cL_cut 17 = .ok (.ireturn, 1) := by decide +kernel
theorem dL_cut_18 : decode cL_cut 18 = .ok (.astore 5, 2) := by decide +kernel
theorem dL_cut_20 : decode cL_cut 20 = .ok (.iconst 2, 1) := by decide +kernel
theorem dL_cut_21 : decode cL_cut 21 = .ok (.ireturn, 1) := by decide +kernel
theorem dL_cut_22 : decode cL_cut 22 = .ok (.astore 5, 2) := by decide +kernel
theorem dL_cut_24 : decode cL_cut 24 = .ok (.iconst 3, 1) := by decide +kernel
theorem dL_cut_25 : decode cL_cut 25 = .ok (.ireturn, 1) := by decide +kernel
theorem dL_cut_26 : decode cL_cut 26 = .ok (.iconst 0, 1) := by decide +kernel
theorem dL_cut_27 : decode cL_cut 27 = .ok (.ireturn, 1) := by decide +kernel
theorem dL_size_0 : decode cL_size 0 = .ok (.aload_n 3, 1) := by decide +kernel
theorem dL_size_1 : decode cL_size 1 = .ok (.iconst 0, 1) := by decide +kernel
theorem dL_size_2 : decode cL_size 2 = .ok (.aload_n 0, 1) := by decide +kernel
theorem dL_size_3 : decode cL_size 3 = .ok (.iload_n 1, 1) := by decide +kernel
theorem dL_size_4 : decode cL_size 4 = .ok (.iload_n 2, 1) := by decide +kernel
theorem dL_size_5 : decode cL_size 5 = .ok (.invokevirtual 26, 3) := by decide +kernel
theorem dL_size_8 : decode cL_size 8 = .ok (.i2l, 1) := by decide +kernel
theorem dL_size_9 : decode cL_size 9 = .ok (.lastore, 1) := by decide +kernel
theorem dL_size_10 : decode cL_size 10 = .ok (.goto 11, 3) := by decide +kernel
theorem dL_size_13 : decode cL_size 13 = .ok (.astore 4, 2) := by decide +kernel
theorem dL_size_15 : decode cL_size 15 = .ok (.iconst 1, 1) := by decide +kernel
theorem dL_size_16 : decode cL_size 16 = .ok (.ireturn, 1) := by decide +kernel
theorem dL_size_17 : decode cL_size 17 = .ok (.astore 4, 2) := by decide +kernel
theorem dL_size_19 : decode cL_size 19 = .ok (.iconst 2, 1) := by decide +kernel
theorem dL_size_20 : decode cL_size 20 = .ok (.ireturn, 1) := by decide +kernel
theorem dL_size_21 : decode cL_size 21 = .ok (.iconst 0, 1) := by decide +kernel
theorem dL_size_22 : decode cL_size 22 = .ok (.ireturn, 1) := by decide +kernel
theorem dL_head_0 : decode cL_head 0 = .ok (.aload_n 3, 1) := by decide +kernel
theorem dL_head_1 : decode cL_head 1 = .ok (.iconst 0, 1) := by decide +kernel
theorem dL_head_2 : decode cL_head 2 = .ok (.aload_n 0, 1) := by decide +kernel
theorem dL_head_3 : decode cL_head 3 = .ok (.iload_n 1, 1) := by decide +kernel
theorem dL_head_4 : decode cL_head 4 = .ok (.iload_n 2, 1) := by decide +kernel
theorem dL_head_5 : decode cL_head 5 = .ok (.invokevirtual 32, 3) := by decide +kernel
theorem dL_head_8 : decode cL_head 8 = .ok (.i2l, 1) := by decide +kernel
theorem dL_head_9 : decode cL_head 9 = .ok (.lastore, 1) := by decide +kernel
theorem dL_head_10 : decode cL_head 10 = .ok (.goto 11, 3) := by decide +kernel
theorem dL_head_13 : decode cL_head 13 = .ok (.astore 4, 2) := by decide +kernel
theorem dL_head_15 : decode cL_head 15 = .ok (.iconst 1, 1) := by decide +kernel
theorem dL_head_16 : decode cL_head 16 = .ok (.ireturn, 1) := by decide +kernel
theorem dL_head_17 : decode cL_head 17 = .ok (.astore 4, 2) := by decide +kernel
theorem dL_head_19 : decode cL_head 19 = .ok (.iconst 2, 1) := by decide +kernel
theorem dL_head_20 : decode cL_head 20 = .ok (.ireturn, 1) := by decide +kernel
theorem dL_head_21 : decode cL_head 21 = .ok (.iconst 0, 1) := by decide +kernel
theorem dL_head_22 : decode cL_head 22 = .ok (.ireturn, 1) := by decide +kernel
theorem dL_entry_0 : decode cL_entry 0 = .ok (.aload_n 3, 1) := by decide +kernel
theorem dL_entry_1 : decode cL_entry 1 = .ok (.iconst 0, 1) := by decide +kernel
theorem dL_entry_2 : decode cL_entry 2 = .ok (.aload_n 0, 1) := by decide +kernel
theorem dL_entry_3 : decode cL_entry 3 = .ok (.iload_n 1, 1) := by decide +kernel
theorem dL_entry_4 : decode cL_entry 4 = .ok (.iload_n 2, 1) := by decide +kernel
theorem dL_entry_5 : decode cL_entry 5 = .ok (.invokevirtual 35, 3) := by decide +kernel
theorem dL_entry_8 : decode cL_entry 8 = .ok (.i2l, 1) := by decide +kernel
theorem dL_entry_9 : decode cL_entry 9 = .ok (.lastore, 1) := by decide +kernel
theorem dL_entry_10 : decode cL_entry 10 = .ok (.goto 11, 3) := by decide +kernel
theorem dL_entry_13 : decode cL_entry 13 = .ok (.astore 4, 2) := by decide +kernel
theorem dL_entry_15 : decode cL_entry 15 = .ok (.iconst 1, 1) := by decide +kernel
theorem dL_entry_16 : decode cL_entry 16 = .ok (.ireturn, 1) := by decide +kernel
theorem dL_entry_17 : decode cL_entry 17 = .ok (.astore 4, 2) := by decide +kernel
theorem dL_entry_19 : decode cL_entry 19 = .ok (.iconst 2, 1) := by decide +kernel
theorem dL_entry_20 : decode cL_entry 20 = .ok (.ireturn, 1) := by decide +kernel
theorem dL_entry_21 : decode cL_entry 21 = .ok (.iconst 0, 1) := by decide +kernel
theorem dL_entry_22 : decode cL_entry 22 = .ok (.ireturn, 1) := by decide +kernel
theorem dL_leaf_0 : decode cL_leaf 0 = .ok (.aload_n 3, 1) := by decide +kernel
theorem dL_leaf_1 : decode cL_leaf 1 = .ok (.iconst 0, 1) := by decide +kernel
theorem dL_leaf_2 : decode cL_leaf 2 = .ok (.aload_n 0, 1) := by decide +kernel
theorem dL_leaf_3 : decode cL_leaf 3 = .ok (.iload_n 1, 1) := by decide +kernel
theorem dL_leaf_4 : decode cL_leaf 4 = .ok (.iload_n 2, 1) := by decide +kernel
theorem dL_leaf_5 : decode cL_leaf 5 = .ok (.invokevirtual 38, 3) := by decide +kernel
theorem dL_leaf_8 : decode cL_leaf 8 = .ok (.ifCond .eq 7, 3) := by decide +kernel
theorem dL_leaf_11 : decode cL_leaf 11 = .ok (.lconst 1, 1) := by decide +kernel
theorem dL_leaf_12 : decode cL_leaf 12 = .ok (.goto 4, 3) := by decide +kernel
theorem dL_leaf_15 : decode cL_leaf 15 = .ok (.lconst 0, 1) := by decide +kernel
theorem dL_leaf_16 : decode cL_leaf 16 = .ok (.lastore, 1) := by decide +kernel
theorem dL_leaf_17 : decode cL_leaf 17 = .ok (.goto 11, 3) := by decide +kernel
theorem dL_leaf_20 : decode cL_leaf 20 = .ok (.astore 4, 2) := by decide +kernel
theorem dL_leaf_22 : decode cL_leaf 22 = .ok (.iconst 1, 1) := by decide +kernel
theorem dL_leaf_23 : decode cL_leaf 23 = .ok (.ireturn, 1) := by decide +kernel
theorem dL_leaf_24 : decode cL_leaf 24 = .ok (.astore 4, 2) := by decide +kernel
theorem dL_leaf_26 : decode cL_leaf 26 = .ok (.iconst 2, 1) := by decide +kernel
theorem dL_leaf_27 : decode cL_leaf 27 = .ok (.ireturn, 1) := by decide +kernel
theorem dL_leaf_28 : decode cL_leaf 28 = .ok (.iconst 0, 1) := by decide +kernel
theorem dL_leaf_29 : decode cL_leaf 29 = .ok (.ireturn, 1) := by decide +kernel
theorem dL_find_0 : decode cL_find 0 = .ok (.aload_n 2, 1) := by decide +kernel
theorem dL_find_1 : decode cL_find 1 = .ok (.iconst 0, 1) := by decide +kernel
theorem dL_find_2 : decode cL_find 2 = .ok (.aload_n 0, 1) := by decide +kernel
theorem dL_find_3 : decode cL_find 3 = .ok (.iload_n 1, 1) := by decide +kernel
theorem dL_find_4 : decode cL_find 4 = .ok (.invokevirtual 42, 3) := by decide +kernel
theorem dL_find_7 : decode cL_find 7 = .ok (.i2l, 1) := by decide +kernel
theorem dL_find_8 : decode cL_find 8 = .ok (.lastore, 1) := by decide +kernel
theorem dL_find_9 : decode cL_find 9 = .ok (.goto 9, 3) := by decide +kernel
theorem dL_find_12 : decode cL_find 12 = .ok (.astore_n 3, 1) := by decide +kernel
theorem dL_find_13 : decode cL_find 13 = .ok (.iconst 1, 1) := by decide +kernel
theorem dL_find_14 : decode cL_find 14 = .ok (.ireturn, 1) := by decide +kernel
theorem dL_find_15 : decode cL_find 15 = .ok (.astore_n 3, 1) := by decide +kernel
theorem dL_find_16 : decode cL_find 16 = .ok (.iconst 2, 1) := by decide +kernel
theorem dL_find_17 : decode cL_find 17 = .ok (.ireturn, 1) := by decide +kernel
theorem dL_find_18 : decode cL_find 18 = .ok (.iconst 0, 1) := by decide +kernel
theorem dL_find_19 : decode cL_find 19 = .ok (.ireturn, 1) := by decide +kernel
theorem dL_root_0 : decode cL_root 0 = .ok (.aload_n 3, 1) := by decide +kernel
theorem dL_root_1 : decode cL_root 1 = .ok (.iconst 0, 1) := by decide +kernel
theorem dL_root_2 : decode cL_root 2 = .ok (.aload_n 0, 1) := by decide +kernel
theorem dL_root_3 : decode cL_root 3 = .ok (.iload_n 1, 1) := by decide +kernel
theorem dL_root_4 : decode cL_root 4 = .ok (.iload_n 2, 1) := by decide +kernel
theorem dL_root_5 : decode cL_root 5 = .ok (.invokevirtual 45, 3) := by decide +kernel
theorem dL_root_8 : decode cL_root 8 = .ok (.ifCond .eq 7, 3) := by decide +kernel
theorem dL_root_11 : decode cL_root 11 = .ok (.lconst 1, 1) := by decide +kernel
theorem dL_root_12 : decode cL_root 12 = .ok (.goto 4, 3) := by decide +kernel
theorem dL_root_15 : decode cL_root 15 = .ok (.lconst 0, 1) := by decide +kernel
theorem dL_root_16 : decode cL_root 16 = .ok (.lastore, 1) := by decide +kernel
theorem dL_root_17 : decode cL_root 17 = .ok (.goto 11, 3) := by decide +kernel
theorem dL_root_20 : decode cL_root 20 = .ok (.astore 4, 2) := by decide +kernel
theorem dL_root_22 : decode cL_root 22 = .ok (.iconst 1, 1) := by decide +kernel
theorem dL_root_23 : decode cL_root 23 = .ok (.ireturn, 1) := by decide +kernel
theorem dL_root_24 : decode cL_root 24 = .ok (.astore 4, 2) := by decide +kernel
theorem dL_root_26 : decode cL_root 26 = .ok (.iconst 2, 1) := by decide +kernel
theorem dL_root_27 : decode cL_root 27 = .ok (.ireturn, 1) := by decide +kernel
theorem dL_root_28 : decode cL_root 28 = .ok (.iconst 0, 1) := by decide +kernel
theorem dL_root_29 : decode cL_root 29 = .ok (.ireturn, 1) := by decide +kernel
theorem dL_way_0 : decode cL_way 0 = .ok (.aload 4, 2) := by decide +kernel
theorem dL_way_2 : decode cL_way 2 = .ok (.iconst 0, 1) := by decide +kernel
theorem dL_way_3 : decode cL_way 3 = .ok (.aload_n 0, 1) := by decide +kernel
theorem dL_way_4 : decode cL_way 4 = .ok (.iload_n 1, 1) := by decide +kernel
theorem dL_way_5 : decode cL_way 5 = .ok (.iload_n 2, 1) := by decide +kernel
theorem dL_way_6 : decode cL_way 6 = .ok (.iload_n 3, 1) := by decide +kernel
theorem dL_way_7 : decode cL_way 7 = .ok (.invokevirtual 48, 3) := by decide +kernel
theorem dL_way_10 : decode cL_way 10 = .ok (.i2l, 1) := by decide +kernel
theorem dL_way_11 : decode cL_way 11 = .ok (.lastore, 1) := by decide +kernel
theorem dL_way_12 : decode cL_way 12 = .ok (.goto 11, 3) := by decide +kernel
theorem dL_way_15 : decode cL_way 15 = .ok (.astore 5, 2) := by decide +kernel
theorem dL_way_17 : decode cL_way 17 = .ok (.iconst 1, 1) := by decide +kernel
theorem dL_way_18 : decode cL_way 18 = .ok (.ireturn, 1) := by decide +kernel
theorem dL_way_19 : decode cL_way 19 = .ok (.astore 5, 2) := by decide +kernel
theorem dL_way_21 : decode cL_way 21 = .ok (.iconst 2, 1) := by decide +kernel
theorem dL_way_22 : decode cL_way 22 = .ok (.ireturn, 1) := by decide +kernel
theorem dL_way_23 : decode cL_way 23 = .ok (.iconst 0, 1) := by decide +kernel
theorem dL_way_24 : decode cL_way 24 = .ok (.ireturn, 1) := by decide +kernel
theorem dL_proof_0 : decode cL_proof 0 = .ok (.aload 4, 2) := by decide +kernel
theorem dL_proof_2 : decode cL_proof 2 = .ok (.iconst 0, 1) := by decide +kernel
theorem dL_proof_3 : decode cL_proof 3 = .ok (.aload_n 0, 1) := by decide +kernel
theorem dL_proof_4 : decode cL_proof 4 = .ok (.iload_n 1, 1) := by decide +kernel
theorem dL_proof_5 : decode cL_proof 5 = .ok (.iload_n 2, 1) := by decide +kernel
theorem dL_proof_6 : decode cL_proof 6 = .ok (.iload_n 3, 1) := by decide +kernel
theorem dL_proof_7 : decode cL_proof 7 = .ok (.invokevirtual 52, 3) := by decide +kernel
theorem dL_proof_10 : decode cL_proof 10 = .ok (.i2l, 1) := by decide +kernel
theorem dL_proof_11 : decode cL_proof 11 = .ok (.lastore, 1) := by decide +kernel
theorem dL_proof_12 : decode cL_proof 12 = .ok (.goto 11, 3) := by decide +kernel
theorem dL_proof_15 : decode cL_proof 15 = .ok (.astore 5, 2) := by decide +kernel
theorem dL_proof_17 : decode cL_proof 17 = .ok (.iconst 1, 1) := by decide +kernel
theorem dL_proof_18 : decode cL_proof 18 = .ok (.ireturn, 1) := by decide +kernel
theorem dL_proof_19 : decode cL_proof 19 = .ok (.astore 5, 2) := by decide +kernel
theorem dL_proof_21 : decode cL_proof 21 = .ok (.iconst 2, 1) := by decide +kernel
theorem dL_proof_22 : decode cL_proof 22 = .ok (.ireturn, 1) := by decide +kernel
theorem dL_proof_23 : decode cL_proof 23 = .ok (.iconst 0, 1) := by decide +kernel
theorem dL_proof_24 : decode cL_proof 24 = .ok (.ireturn, 1) := by decide +kernel
theorem dL_isSealed_0 : decode cL_isSealed 0 = .ok (.aload_n 2, 1) := by decide +kernel
theorem dL_isSealed_1 : decode cL_isSealed 1 = .ok (.iconst 0, 1) := by decide +kernel
theorem dL_isSealed_2 : decode cL_isSealed 2 = .ok (.aload_n 0, 1) := by decide +kernel
theorem dL_isSealed_3 : decode cL_isSealed 3 = .ok (.iload_n 1, 1) := by decide +kernel
theorem dL_isSealed_4 : decode cL_isSealed 4 = .ok (.invokevirtual 55, 3) := by decide +kernel
theorem dL_isSealed_7 : decode cL_isSealed 7 = .ok (.ifCond .eq 7, 3) := by decide +kernel
theorem dL_isSealed_10 : decode cL_isSealed 10 = .ok (.lconst 1, 1) := by decide +kernel
theorem dL_isSealed_11 : decode cL_isSealed 11 = .ok (.goto 4, 3) := by decide +kernel
theorem dL_isSealed_14 : decode cL_isSealed 14 = .ok (.lconst 0, 1) := by decide +kernel
theorem dL_isSealed_15 : decode cL_isSealed 15 = .ok (.lastore, 1) := by decide +kernel
theorem dL_isSealed_16 : decode cL_isSealed 16 = .ok (.goto 9, 3) := by decide +kernel
theorem dL_isSealed_19 : decode cL_isSealed 19 = .ok (.astore_n 3, 1) := by decide +kernel
theorem dL_isSealed_20 : decode cL_isSealed 20 = .ok (.iconst 1, 1) := by decide +kernel
theorem dL_isSealed_21 : decode cL_isSealed 21 = .ok (.ireturn, 1) := by decide +kernel
theorem dL_isSealed_22 : decode cL_isSealed 22 = .ok (.astore_n 3, 1) := by decide +kernel
theorem dL_isSealed_23 : decode cL_isSealed 23 = .ok (.iconst 2, 1) := by decide +kernel
theorem dL_isSealed_24 : decode cL_isSealed 24 = .ok (.ireturn, 1) := by decide +kernel
theorem dL_isSealed_25 : decode cL_isSealed 25 = .ok (.iconst 0, 1) := by decide +kernel
theorem dL_isSealed_26 : decode cL_isSealed 26 = .ok (.ireturn, 1) := by decide +kernel
theorem dL_seal_0 : decode cL_seal 0 = .ok (.aload_n 2, 1) := by decide +kernel
theorem dL_seal_1 : decode cL_seal 1 = .ok (.iconst 0, 1) := by decide +kernel
theorem dL_seal_2 : decode cL_seal 2 = .ok (.aload_n 0, 1) := by decide +kernel
theorem dL_seal_3 : decode cL_seal 3 = .ok (.iload_n 1, 1) := by decide +kernel
theorem dL_seal_4 : decode cL_seal 4 = .ok (.invokevirtual 59, 3) := by decide +kernel
theorem dL_seal_7 : decode cL_seal 7 = .ok (.ifCond .eq 7, 3) := by decide +kernel
theorem dL_seal_10 : decode cL_seal 10 = .ok (.lconst 1, 1) := by decide +kernel
theorem dL_seal_11 : decode cL_seal 11 = .ok (.goto 4, 3) := by decide +kernel
theorem dL_seal_14 : decode cL_seal 14 = .ok (.lconst 0, 1) := by decide +kernel
theorem dL_seal_15 : decode cL_seal 15 = .ok (.lastore, 1) := by decide +kernel
theorem dL_seal_16 : decode cL_seal 16 = .ok (.goto 9, 3) := by decide +kernel
theorem dL_seal_19 : decode cL_seal 19 = .ok (.astore_n 3, 1) := by decide +kernel
theorem dL_seal_20 : decode cL_seal 20 = .ok (.iconst 1, 1) := by decide +kernel
theorem dL_seal_21 : decode cL_seal 21 = .ok (.ireturn, 1) := by decide +kernel
theorem dL_seal_22 : decode cL_seal 22 = .ok (.astore_n 3, 1) := by decide +kernel
theorem dL_seal_23 : decode cL_seal 23 = .ok (.iconst 2, 1) := by decide +kernel
theorem dL_seal_24 : decode cL_seal 24 = .ok (.ireturn, 1) := by decide +kernel
theorem dL_seal_25 : decode cL_seal 25 = .ok (.iconst 0, 1) := by decide +kernel
theorem dL_seal_26 : decode cL_seal 26 = .ok (.ireturn, 1) := by decide +kernel
theorem dL_follow_0 : decode cL_follow 0 = .ok (.aload_n 3, 1) := by decide +kernel
theorem dL_follow_1 : decode cL_follow 1 = .ok (.iconst 0, 1) := by decide +kernel
theorem dL_follow_2 : decode cL_follow 2 = .ok (.aload_n 0, 1) := by decide +kernel
theorem dL_follow_3 : decode cL_follow 3 = .ok (.iload_n 1, 1) := by decide +kernel
theorem dL_follow_4 : decode cL_follow 4 = .ok (.iload_n 2, 1) := by decide +kernel
theorem dL_follow_5 : decode cL_follow 5 = .ok (.invokevirtual 62, 3) := by decide +kernel
theorem dL_follow_8 : decode cL_follow 8 = .ok (.i2l, 1) := by decide +kernel
theorem dL_follow_9 : decode cL_follow 9 = .ok (.lastore, 1) := by decide +kernel
theorem dL_follow_10 : decode cL_follow 10 = .ok (.goto 11, 3) := by decide +kernel
theorem dL_follow_13 : decode cL_follow 13 = .ok (.astore 4, 2) := by decide +kernel
theorem dL_follow_15 : decode cL_follow 15 = .ok (.iconst 1, 1) := by decide +kernel
theorem dL_follow_16 : decode cL_follow 16 = .ok (.ireturn, 1) := by decide +kernel
theorem dL_follow_17 : decode cL_follow 17 = .ok (.astore 4, 2) := by decide +kernel
theorem dL_follow_19 : decode cL_follow 19 = .ok (.iconst 2, 1) := by decide +kernel
theorem dL_follow_20 : decode cL_follow 20 = .ok (.ireturn, 1) := by decide +kernel
theorem dL_follow_21 : decode cL_follow 21 = .ok (.iconst 0, 1) := by decide +kernel
theorem dL_follow_22 : decode cL_follow 22 = .ok (.ireturn, 1) := by decide +kernel
theorem dL_gossip_0 : decode cL_gossip 0 = .ok (.aload 4, 2) := by decide +kernel
theorem dL_gossip_2 : decode cL_gossip 2 = .ok (.iconst 0, 1) := by decide +kernel
theorem dL_gossip_3 : decode cL_gossip 3 = .ok (.aload_n 0, 1) := by decide +kernel
theorem dL_gossip_4 : decode cL_gossip 4 = .ok (.iload_n 1, 1) := by decide +kernel
theorem dL_gossip_5 : decode cL_gossip 5 = .ok (.iload_n 2, 1) := by decide +kernel
theorem dL_gossip_6 : decode cL_gossip 6 = .ok (.iload_n 3, 1) := by decide +kernel
theorem dL_gossip_7 : decode cL_gossip 7 = .ok (.invokevirtual 65, 3) := by decide +kernel
theorem dL_gossip_10 : decode cL_gossip 10 = .ok (.i2l, 1) := by decide +kernel
theorem dL_gossip_11 : decode cL_gossip 11 = .ok (.lastore, 1) := by decide +kernel
theorem dL_gossip_12 : decode cL_gossip 12 = .ok (.goto 7, 3) := by decide +kernel
theorem dL_gossip_15 : decode cL_gossip 15 = .ok (.astore 5, 2) := by decide +kernel
theorem dL_gossip_17 : decode cL_gossip 17 = .ok (.iconst 1, 1) := by decide +kernel
theorem dL_gossip_18 : decode cL_gossip 18 = .ok (.ireturn, 1) := by decide +kernel
theorem dL_gossip_19 : decode cL_gossip 19 = .ok (.iconst 0, 1) := by decide +kernel
theorem dL_gossip_20 : decode cL_gossip 20 = .ok (.ireturn, 1) := by decide +kernel
theorem dL_has_0 : decode cL_has 0 = .ok (.aload 4, 2) := by decide +kernel
theorem dL_has_2 : decode cL_has 2 = .ok (.iconst 0, 1) := by decide +kernel
theorem dL_has_3 : decode cL_has 3 = .ok (.aload_n 0, 1) := by decide +kernel
theorem dL_has_4 : decode cL_has 4 = .ok (.iload_n 1, 1) := by decide +kernel
theorem dL_has_5 : decode cL_has 5 = .ok (.iload_n 2, 1) := by decide +kernel
theorem dL_has_6 : decode cL_has 6 = .ok (.iload_n 3, 1) := by decide +kernel
theorem dL_has_7 : decode cL_has 7 = .ok (.invokevirtual 68, 3) := by decide +kernel
theorem dL_has_10 : decode cL_has 10 = .ok (.ifCond .eq 7, 3) := by decide +kernel
theorem dL_has_13 : decode cL_has 13 = .ok (.lconst 1, 1) := by decide +kernel
theorem dL_has_14 : decode cL_has 14 = .ok (.goto 4, 3) := by decide +kernel
theorem dL_has_17 : decode cL_has 17 = .ok (.lconst 0, 1) := by decide +kernel
theorem dL_has_18 : decode cL_has 18 = .ok (.lastore, 1) := by decide +kernel
theorem dL_has_19 : decode cL_has 19 = .ok (.goto 11, 3) := by decide +kernel
theorem dL_has_22 : decode cL_has 22 = .ok (.astore 5, 2) := by decide +kernel
theorem dL_has_24 : decode cL_has 24 = .ok (.iconst 1, 1) := by decide +kernel
theorem dL_has_25 : decode cL_has 25 = .ok (.ireturn, 1) := by decide +kernel
theorem dL_has_26 : decode cL_has 26 = .ok (.astore 5, 2) := by decide +kernel
theorem dL_has_28 : decode cL_has 28 = .ok (.iconst 2, 1) := by decide +kernel
theorem dL_has_29 : decode cL_has 29 = .ok (.ireturn, 1) := by decide +kernel
theorem dL_has_30 : decode cL_has 30 = .ok (.iconst 0, 1) := by decide +kernel
theorem dL_has_31 : decode cL_has 31 = .ok (.ireturn, 1) := by decide +kernel
theorem dL_law_0 : decode cL_law 0 = .ok (.new 8, 3) := by decide +kernel
theorem dL_law_3 : decode cL_law 3 = .ok (.dup, 1) := by decide +kernel
theorem dL_law_4 : decode cL_law 4 = .ok (.invokespecial 72, 3) := by decide +kernel
theorem dL_law_7 : decode cL_law 7 = .ok (.astore_n 1, 1) := by decide +kernel
theorem dL_law_8 : decode cL_law 8 = .ok (.new 73, 3) := by decide +kernel
theorem dL_law_11 : decode cL_law 11 = .ok (.dup, 1) := by decide +kernel
theorem dL_law_12 : decode cL_law 12 = .ok (.invokespecial 75, 3) := by decide +kernel
theorem dL_law_15 : decode cL_law 15 = .ok (.astore_n 2, 1) := by decide +kernel
theorem dL_law_16 : decode cL_law 16 = .ok (.iconst 1, 1) := by decide +kernel
theorem dL_law_17 : decode cL_law 17 = .ok (.newarray .long, 2) := by decide +kernel
theorem dL_law_19 : decode cL_law 19 = .ok (.astore_n 3, 1) := by decide +kernel
theorem dL_law_20 : decode cL_law 20 = .ok (.iconst 0, 1) := by decide +kernel
theorem dL_law_21 : decode cL_law 21 = .ok (.istore 4, 2) := by decide +kernel
theorem dL_law_23 : decode cL_law 23 = .ok (.iload 4, 2) := by decide +kernel
theorem dL_law_25 : decode cL_law 25 = .ok (.aload_n 0, 1) := by decide +kernel
theorem dL_law_26 : decode cL_law 26 = .ok (.arraylength, 1) := by decide +kernel
theorem dL_law_27 : decode cL_law 27 = .ok (.bipush 6, 2) := by decide +kernel
theorem dL_law_29 : decode cL_law 29 = .ok (.isub, 1) := by decide +kernel
theorem dL_law_30 : decode cL_law 30 = .ok (.if_icmp .gt 1618, 3) := by decide +kernel
theorem dL_law_33 : decode cL_law 33 = .ok (.aload_n 0, 1) := by decide +kernel
theorem dL_law_34 : decode cL_law 34 = .ok (.iload 4, 2) := by decide +kernel
theorem dL_law_36 : decode cL_law 36 = .ok (.iaload, 1) := by decide +kernel
theorem dL_law_37 : decode cL_law 37 = .ok (.bipush 31, 2) := by decide +kernel
theorem dL_law_39 : decode cL_law 39 = .ok (.iand, 1) := by decide +kernel
theorem dL_law_40 : decode cL_law 40 = .ok (.tableswitch 1602 0 22 #[108, 181, 206, 219, 244, 257, 313, 369, 469, 537, 605, 673, 748, 804, 879, 959, 1039, 1140, 1241, 1304, 1367, 1435, 1515], 108) := by decide +kernel
theorem dL_law_148 : decode cL_law 148 = .ok (.aload_n 1, 1) := by decide +kernel
theorem dL_law_149 : decode cL_law 149 = .ok (.aload_n 0, 1) := by decide +kernel
theorem dL_law_150 : decode cL_law 150 = .ok (.iload 4, 2) := by decide +kernel
theorem dL_law_152 : decode cL_law 152 = .ok (.iconst 1, 1) := by decide +kernel
theorem dL_law_153 : decode cL_law 153 = .ok (.iadd, 1) := by decide +kernel
theorem dL_law_154 : decode cL_law 154 = .ok (.iaload, 1) := by decide +kernel
theorem dL_law_155 : decode cL_law 155 = .ok (.aload_n 0, 1) := by decide +kernel
theorem dL_law_156 : decode cL_law 156 = .ok (.iload 4, 2) := by decide +kernel
theorem dL_law_158 : decode cL_law 158 = .ok (.iconst 2, 1) := by decide +kernel
theorem dL_law_159 : decode cL_law 159 = .ok (.iadd, 1) := by decide +kernel
theorem dL_law_160 : decode cL_law 160 = .ok (.iaload, 1) := by decide +kernel
theorem dL_law_161 : decode cL_law 161 = .ok (.aload_n 0, 1) := by decide +kernel
theorem dL_law_162 : decode cL_law 162 = .ok (.iload 4, 2) := by decide +kernel
theorem dL_law_164 : decode cL_law 164 = .ok (.iconst 3, 1) := by decide +kernel
theorem dL_law_165 : decode cL_law 165 = .ok (.iadd, 1) := by decide +kernel
theorem dL_law_166 : decode cL_law 166 = .ok (.iaload, 1) := by decide +kernel
theorem dL_law_167 : decode cL_law 167 = .ok (.aload_n 0, 1) := by decide +kernel
theorem dL_law_168 : decode cL_law 168 = .ok (.iload 4, 2) := by decide +kernel
theorem dL_law_170 : decode cL_law 170 = .ok (.iconst 4, 1) := by decide +kernel
theorem dL_law_171 : decode cL_law 171 = .ok (.iadd, 1) := by decide +kernel
theorem dL_law_172 : decode cL_law 172 = .ok (.iaload, 1) := by decide +kernel
theorem dL_law_173 : decode cL_law 173 = .ok (.aload_n 0, 1) := by decide +kernel
theorem dL_law_174 : decode cL_law 174 = .ok (.iload 4, 2) := by decide +kernel
theorem dL_law_176 : decode cL_law 176 = .ok (.iconst 5, 1) := by decide +kernel
theorem dL_law_177 : decode cL_law 177 = .ok (.iadd, 1) := by decide +kernel
theorem dL_law_178 : decode cL_law 178 = .ok (.iaload, 1) := by decide +kernel
theorem dL_law_179 : decode cL_law 179 = .ok (.invokevirtual 76, 3) := by decide +kernel
theorem dL_law_182 : decode cL_law 182 = .ok (.aload_n 2, 1) := by decide +kernel
theorem dL_law_183 : decode cL_law 183 = .ok (.aload_n 0, 1) := by decide +kernel
theorem dL_law_184 : decode cL_law 184 = .ok (.iload 4, 2) := by decide +kernel
theorem dL_law_186 : decode cL_law 186 = .ok (.iconst 1, 1) := by decide +kernel
theorem dL_law_187 : decode cL_law 187 = .ok (.iadd, 1) := by decide +kernel
theorem dL_law_188 : decode cL_law 188 = .ok (.iaload, 1) := by decide +kernel
theorem dL_law_189 : decode cL_law 189 = .ok (.aload_n 0, 1) := by decide +kernel
theorem dL_law_190 : decode cL_law 190 = .ok (.iload 4, 2) := by decide +kernel
theorem dL_law_192 : decode cL_law 192 = .ok (.iconst 2, 1) := by decide +kernel
theorem dL_law_193 : decode cL_law 193 = .ok (.iadd, 1) := by decide +kernel
theorem dL_law_194 : decode cL_law 194 = .ok (.iaload, 1) := by decide +kernel
theorem dL_law_195 : decode cL_law 195 = .ok (.aload_n 0, 1) := by decide +kernel
theorem dL_law_196 : decode cL_law 196 = .ok (.iload 4, 2) := by decide +kernel
theorem dL_law_198 : decode cL_law 198 = .ok (.iconst 3, 1) := by decide +kernel
theorem dL_law_199 : decode cL_law 199 = .ok (.iadd, 1) := by decide +kernel
theorem dL_law_200 : decode cL_law 200 = .ok (.iaload, 1) := by decide +kernel
theorem dL_law_201 : decode cL_law 201 = .ok (.aload_n 0, 1) := by decide +kernel
theorem dL_law_202 : decode cL_law 202 = .ok (.iload 4, 2) := by decide +kernel
theorem dL_law_204 : decode cL_law 204 = .ok (.iconst 4, 1) := by decide +kernel
theorem dL_law_205 : decode cL_law 205 = .ok (.iadd, 1) := by decide +kernel
theorem dL_law_206 : decode cL_law 206 = .ok (.iaload, 1) := by decide +kernel
theorem dL_law_207 : decode cL_law 207 = .ok (.aload_n 0, 1) := by decide +kernel
theorem dL_law_208 : decode cL_law 208 = .ok (.iload 4, 2) := by decide +kernel
theorem dL_law_210 : decode cL_law 210 = .ok (.iconst 5, 1) := by decide +kernel
theorem dL_law_211 : decode cL_law 211 = .ok (.iadd, 1) := by decide +kernel
theorem dL_law_212 : decode cL_law 212 = .ok (.iaload, 1) := by decide +kernel
theorem dL_law_213 : decode cL_law 213 = .ok (.invokevirtual 80, 3) := by decide +kernel
theorem dL_law_216 : decode cL_law 216 = .ok (.if_icmp .eq 1426, 3) := by decide +kernel
theorem dL_law_219 : decode cL_law 219 = .ok (.iconst 0, 1) := by decide +kernel
theorem dL_law_220 : decode cL_law 220 = .ok (.ireturn, 1) := by decide +kernel
theorem dL_law_221 : decode cL_law 221 = .ok (.aload_n 1, 1) := by decide +kernel
theorem dL_law_222 : decode cL_law 222 = .ok (.aload_n 0, 1) := by decide +kernel
theorem dL_law_223 : decode cL_law 223 = .ok (.iload 4, 2) := by decide +kernel
theorem dL_law_225 : decode cL_law 225 = .ok (.iconst 1, 1) := by decide +kernel
theorem dL_law_226 : decode cL_law 226 = .ok (.iadd, 1) := by decide +kernel
theorem dL_law_227 : decode cL_law 227 = .ok (.iaload, 1) := by decide +kernel
theorem dL_law_228 : decode cL_law 228 = .ok (.invokevirtual 81, 3) := by decide +kernel
theorem dL_law_231 : decode cL_law 231 = .ok (.aload_n 2, 1) := by decide +kernel
theorem dL_law_232 : decode cL_law 232 = .ok (.aload_n 0, 1) := by decide +kernel
theorem dL_law_233 : decode cL_law 233 = .ok (.iload 4, 2) := by decide +kernel
theorem dL_law_235 : decode cL_law 235 = .ok (.iconst 1, 1) := by decide +kernel
theorem dL_law_236 : decode cL_law 236 = .ok (.iadd, 1) := by decide +kernel
