theorem dX2_advance_69 : decode cX2_advance 69 = .ok (.laload, 1) := by decide +kernel
theorem dX2_advance_70 : decode cX2_advance 70 = .ok (.lsub, 1) := by decide +kernel
theorem dX2_advance_71 : decode cX2_advance 71 = .ok (.lstore 8, 2) := by decide +kernel
theorem dX2_advance_73 : decode cX2_advance 73 = .ok (.lload 8, 2) := by decide +kernel
theorem dX2_advance_75 : decode cX2_advance 75 = .ok (.aload_n 0, 1) := by decide +kernel
theorem dX2_advance_76 : decode cX2_advance 76 = .ok (.getfield 25, 3) := by decide +kernel
theorem dX2_advance_79 : decode cX2_advance 79 = .ok (.iload 7, 2) := by decide +kernel
theorem dX2_advance_81 : decode cX2_advance 81 = .ok (.laload, 1) := by decide +kernel
theorem dX2_advance_82 : decode cX2_advance 82 = .ok (.lcmp, 1) := by decide +kernel
theorem dX2_advance_83 : decode cX2_advance 83 = .ok (.ifCond .ge 20, 3) := by decide +kernel
theorem dX2_advance_86 : decode cX2_advance 86 = .ok (.aload_n 0, 1) := by decide +kernel
theorem dX2_advance_87 : decode cX2_advance 87 = .ok (.getfield 25, 3) := by decide +kernel
theorem dX2_advance_90 : decode cX2_advance 90 = .ok (.iload 7, 2) := by decide +kernel
theorem dX2_advance_92 : decode cX2_advance 92 = .ok (.lload 8, 2) := by decide +kernel
theorem dX2_advance_94 : decode cX2_advance 94 = .ok (.lastore, 1) := by decide +kernel
theorem dX2_advance_95 : decode cX2_advance 95 = .ok (.aload_n 0, 1) := by decide +kernel
theorem dX2_advance_96 : decode cX2_advance 96 = .ok (.getfield 31, 3) := by decide +kernel
theorem dX2_advance_99 : decode cX2_advance 99 = .ok (.iload 7, 2) := by decide +kernel
theorem dX2_advance_101 : decode cX2_advance 101 = .ok (.iload_n 1, 1) := by decide +kernel
theorem dX2_advance_102 : decode cX2_advance 102 = .ok (.iastore, 1) := by decide +kernel
theorem dX2_advance_103 : decode cX2_advance 103 = .ok (.aload_n 0, 1) := by decide +kernel
theorem dX2_advance_104 : decode cX2_advance 104 = .ok (.getfield 25, 3) := by decide +kernel
theorem dX2_advance_107 : decode cX2_advance 107 = .ok (.iload 7, 2) := by decide +kernel
theorem dX2_advance_109 : decode cX2_advance 109 = .ok (.laload, 1) := by decide +kernel
theorem dX2_advance_110 : decode cX2_advance 110 = .ok (.lload 4, 2) := by decide +kernel
theorem dX2_advance_112 : decode cX2_advance 112 = .ok (.lcmp, 1) := by decide +kernel
theorem dX2_advance_113 : decode cX2_advance 113 = .ok (.ifCond .ge 16, 3) := by decide +kernel
theorem dX2_advance_116 : decode cX2_advance 116 = .ok (.aload_n 0, 1) := by decide +kernel
theorem dX2_advance_117 : decode cX2_advance 117 = .ok (.getfield 25, 3) := by decide +kernel
theorem dX2_advance_120 : decode cX2_advance 120 = .ok (.iload 7, 2) := by decide +kernel
theorem dX2_advance_122 : decode cX2_advance 122 = .ok (.laload, 1) := by decide +kernel
theorem dX2_advance_123 : decode cX2_advance 123 = .ok (.lstore 4, 2) := by decide +kernel
theorem dX2_advance_125 : decode cX2_advance 125 = .ok (.iload 7, 2) := by decide +kernel
theorem dX2_advance_127 : decode cX2_advance 127 = .ok (.istore 6, 2) := by decide +kernel
theorem dX2_advance_129 : decode cX2_advance 129 = .ok (.iinc 7 1, 3) := by decide +kernel
theorem dX2_advance_132 : decode cX2_advance 132 = .ok (.goto (-107), 3) := by decide +kernel
theorem dX2_advance_135 : decode cX2_advance 135 = .ok (.iconst 0, 1) := by decide +kernel
theorem dX2_advance_136 : decode cX2_advance 136 = .ok (.istore 7, 2) := by decide +kernel
theorem dX2_advance_138 : decode cX2_advance 138 = .ok (.iload 7, 2) := by decide +kernel
theorem dX2_advance_140 : decode cX2_advance 140 = .ok (.iload_n 2, 1) := by decide +kernel
theorem dX2_advance_141 : decode cX2_advance 141 = .ok (.if_icmp .gt 63, 3) := by decide +kernel
theorem dX2_advance_144 : decode cX2_advance 144 = .ok (.aload_n 0, 1) := by decide +kernel
theorem dX2_advance_145 : decode cX2_advance 145 = .ok (.getfield 34, 3) := by decide +kernel
theorem dX2_advance_148 : decode cX2_advance 148 = .ok (.iload 7, 2) := by decide +kernel
theorem dX2_advance_150 : decode cX2_advance 150 = .ok (.baload, 1) := by decide +kernel
theorem dX2_advance_151 : decode cX2_advance 151 = .ok (.ifCond .eq 35, 3) := by decide +kernel
theorem dX2_advance_154 : decode cX2_advance 154 = .ok (.aload_n 0, 1) := by decide +kernel
theorem dX2_advance_155 : decode cX2_advance 155 = .ok (.getfield 19, 3) := by decide +kernel
theorem dX2_advance_158 : decode cX2_advance 158 = .ok (.aload_n 0, 1) := by decide +kernel
theorem dX2_advance_159 : decode cX2_advance 159 = .ok (.getfield 28, 3) := by decide +kernel
theorem dX2_advance_162 : decode cX2_advance 162 = .ok (.iload 7, 2) := by decide +kernel
theorem dX2_advance_164 : decode cX2_advance 164 = .ok (.iaload, 1) := by decide +kernel
theorem dX2_advance_165 : decode cX2_advance 165 = .ok (.dup2, 1) := by decide +kernel
theorem dX2_advance_166 : decode cX2_advance 166 = .ok (.laload, 1) := by decide +kernel
theorem dX2_advance_167 : decode cX2_advance 167 = .ok (.lload 4, 2) := by decide +kernel
theorem dX2_advance_169 : decode cX2_advance 169 = .ok (.ladd, 1) := by decide +kernel
theorem dX2_advance_170 : decode cX2_advance 170 = .ok (.lastore, 1) := by decide +kernel
theorem dX2_advance_171 : decode cX2_advance 171 = .ok (.aload_n 0, 1) := by decide +kernel
theorem dX2_advance_172 : decode cX2_advance 172 = .ok (.getfield 22, 3) := by decide +kernel
theorem dX2_advance_175 : decode cX2_advance 175 = .ok (.iload 7, 2) := by decide +kernel
theorem dX2_advance_177 : decode cX2_advance 177 = .ok (.dup2, 1) := by decide +kernel
theorem dX2_advance_178 : decode cX2_advance 178 = .ok (.laload, 1) := by decide +kernel
theorem dX2_advance_179 : decode cX2_advance 179 = .ok (.lload 4, 2) := by decide +kernel
theorem dX2_advance_181 : decode cX2_advance 181 = .ok (.lsub, 1) := by decide +kernel
theorem dX2_advance_182 : decode cX2_advance 182 = .ok (.lastore, 1) := by decide +kernel
theorem dX2_advance_183 : decode cX2_advance 183 = .ok (.goto 15, 3) := by decide +kernel
theorem dX2_advance_186 : decode cX2_advance 186 = .ok (.aload_n 0, 1) := by decide +kernel
theorem dX2_advance_187 : decode cX2_advance 187 = .ok (.getfield 25, 3) := by decide +kernel
theorem dX2_advance_190 : decode cX2_advance 190 = .ok (.iload 7, 2) := by decide +kernel
theorem dX2_advance_192 : decode cX2_advance 192 = .ok (.dup2, 1) := by decide +kernel
theorem dX2_advance_193 : decode cX2_advance 193 = .ok (.laload, 1) := by decide +kernel
theorem dX2_advance_194 : decode cX2_advance 194 = .ok (.lload 4, 2) := by decide +kernel
theorem dX2_advance_196 : decode cX2_advance 196 = .ok (.lsub, 1) := by decide +kernel
theorem dX2_advance_197 : decode cX2_advance 197 = .ok (.lastore, 1) := by decide +kernel
theorem dX2_advance_198 : decode cX2_advance 198 = .ok (.iinc 7 1, 3) := by decide +kernel
theorem dX2_advance_201 : decode cX2_advance 201 = .ok (.goto (-63), 3) := by decide +kernel
theorem dX2_advance_204 : decode cX2_advance 204 = .ok (.iload 6, 2) := by decide +kernel
theorem dX2_advance_206 : decode cX2_advance 206 = .ok (.ireturn, 1) := by decide +kernel
theorem dX2_readPairs_0 : decode cX2_readPairs 0 = .ok (.aload_n 0, 1) := by decide +kernel
theorem dX2_readPairs_1 : decode cX2_readPairs 1 = .ok (.getfield 9, 3) := by decide +kernel
theorem dX2_readPairs_4 : decode cX2_readPairs 4 = .ok (.iconst (-1), 1) := by decide +kernel
theorem dX2_readPairs_5 : decode cX2_readPairs 5 = .ok (.invokestatic 54, 3) := by decide +kernel
theorem dX2_readPairs_8 : decode cX2_readPairs 8 = .ok (.aload_n 0, 1) := by decide +kernel
theorem dX2_readPairs_9 : decode cX2_readPairs 9 = .ok (.iconst 0, 1) := by decide +kernel
theorem dX2_readPairs_10 : decode cX2_readPairs 10 = .ok (.putfield 78, 3) := by decide +kernel
theorem dX2_readPairs_13 : decode cX2_readPairs 13 = .ok (.aload_n 0, 1) := by decide +kernel
theorem dX2_readPairs_14 : decode cX2_readPairs 14 = .ok (.iconst 0, 1) := by decide +kernel
theorem dX2_readPairs_15 : decode cX2_readPairs 15 = .ok (.putfield 82, 3) := by decide +kernel
theorem dX2_readPairs_18 : decode cX2_readPairs 18 = .ok (.iconst 1, 1) := by decide +kernel
theorem dX2_readPairs_19 : decode cX2_readPairs 19 = .ok (.istore 4, 2) := by decide +kernel
theorem dX2_readPairs_21 : decode cX2_readPairs 21 = .ok (.iload 4, 2) := by decide +kernel
theorem dX2_readPairs_23 : decode cX2_readPairs 23 = .ok (.iload_n 2, 1) := by decide +kernel
theorem dX2_readPairs_24 : decode cX2_readPairs 24 = .ok (.if_icmp .gt 82, 3) := by decide +kernel
theorem dX2_readPairs_27 : decode cX2_readPairs 27 = .ok (.aload_n 0, 1) := by decide +kernel
theorem dX2_readPairs_28 : decode cX2_readPairs 28 = .ok (.getfield 28, 3) := by decide +kernel
theorem dX2_readPairs_31 : decode cX2_readPairs 31 = .ok (.iload 4, 2) := by decide +kernel
theorem dX2_readPairs_33 : decode cX2_readPairs 33 = .ok (.iaload, 1) := by decide +kernel
theorem dX2_readPairs_34 : decode cX2_readPairs 34 = .ok (.istore 5, 2) := by decide +kernel
theorem dX2_readPairs_36 : decode cX2_readPairs 36 = .ok (.iload 5, 2) := by decide +kernel
theorem dX2_readPairs_38 : decode cX2_readPairs 38 = .ok (.ifCond .ne 6, 3) := by decide +kernel
theorem dX2_readPairs_41 : decode cX2_readPairs 41 = .ok (.goto 59, 3) := by decide +kernel
theorem dX2_readPairs_44 : decode cX2_readPairs 44 = .ok (.aload_n 1, 1) := by decide +kernel
theorem dX2_readPairs_45 : decode cX2_readPairs 45 = .ok (.iload 5, 2) := by decide +kernel
theorem dX2_readPairs_47 : decode cX2_readPairs 47 = .ok (.iconst 1, 1) := by decide +kernel
theorem dX2_readPairs_48 : decode cX2_readPairs 48 = .ok (.isub, 1) := by decide +kernel
theorem dX2_readPairs_49 : decode cX2_readPairs 49 = .ok (.bipush 8, 2) := by decide +kernel
theorem dX2_readPairs_51 : decode cX2_readPairs 51 = .ok (.imul, 1) := by decide +kernel
theorem dX2_readPairs_52 : decode cX2_readPairs 52 = .ok (.iload 4, 2) := by decide +kernel
theorem dX2_readPairs_54 : decode cX2_readPairs 54 = .ok (.iadd, 1) := by decide +kernel
theorem dX2_readPairs_55 : decode cX2_readPairs 55 = .ok (.iconst 1, 1) := by decide +kernel
theorem dX2_readPairs_56 : decode cX2_readPairs 56 = .ok (.isub, 1) := by decide +kernel
theorem dX2_readPairs_57 : decode cX2_readPairs 57 = .ok (.iaload, 1) := by decide +kernel
theorem dX2_readPairs_58 : decode cX2_readPairs 58 = .ok (.istore 6, 2) := by decide +kernel
theorem dX2_readPairs_60 : decode cX2_readPairs 60 = .ok (.iload 6, 2) := by decide +kernel
theorem dX2_readPairs_62 : decode cX2_readPairs 62 = .ok (.iload_n 3, 1) := by decide +kernel
theorem dX2_readPairs_63 : decode cX2_readPairs 63 = .ok (.if_icmp .gt 37, 3) := by decide +kernel
theorem dX2_readPairs_66 : decode cX2_readPairs 66 = .ok (.aload_n 0, 1) := by decide +kernel
theorem dX2_readPairs_67 : decode cX2_readPairs 67 = .ok (.getfield 9, 3) := by decide +kernel
theorem dX2_readPairs_70 : decode cX2_readPairs 70 = .ok (.iload 5, 2) := by decide +kernel
theorem dX2_readPairs_72 : decode cX2_readPairs 72 = .ok (.iconst 1, 1) := by decide +kernel
theorem dX2_readPairs_73 : decode cX2_readPairs 73 = .ok (.isub, 1) := by decide +kernel
theorem dX2_readPairs_74 : decode cX2_readPairs 74 = .ok (.iload 4, 2) := by decide +kernel
theorem dX2_readPairs_76 : decode cX2_readPairs 76 = .ok (.iconst 1, 1) := by decide +kernel
theorem dX2_readPairs_77 : decode cX2_readPairs 77 = .ok (.isub, 1) := by decide +kernel
theorem dX2_readPairs_78 : decode cX2_readPairs 78 = .ok (.iastore, 1) := by decide +kernel
theorem dX2_readPairs_79 : decode cX2_readPairs 79 = .ok (.aload_n 0, 1) := by decide +kernel
theorem dX2_readPairs_80 : decode cX2_readPairs 80 = .ok (.dup, 1) := by decide +kernel
theorem dX2_readPairs_81 : decode cX2_readPairs 81 = .ok (.getfield 78, 3) := by decide +kernel
theorem dX2_readPairs_84 : decode cX2_readPairs 84 = .ok (.iconst 1, 1) := by decide +kernel
theorem dX2_readPairs_85 : decode cX2_readPairs 85 = .ok (.iadd, 1) := by decide +kernel
theorem dX2_readPairs_86 : decode cX2_readPairs 86 = .ok (.putfield 78, 3) := by decide +kernel
theorem dX2_readPairs_89 : decode cX2_readPairs 89 = .ok (.aload_n 0, 1) := by decide +kernel
theorem dX2_readPairs_90 : decode cX2_readPairs 90 = .ok (.dup, 1) := by decide +kernel
theorem dX2_readPairs_91 : decode cX2_readPairs 91 = .ok (.getfield 82, 3) := by decide +kernel
theorem dX2_readPairs_94 : decode cX2_readPairs 94 = .ok (.iload 6, 2) := by decide +kernel
theorem dX2_readPairs_96 : decode cX2_readPairs 96 = .ok (.iadd, 1) := by decide +kernel
theorem dX2_readPairs_97 : decode cX2_readPairs 97 = .ok (.putfield 82, 3) := by decide +kernel
theorem dX2_readPairs_100 : decode cX2_readPairs 100 = .ok (.iinc 4 1, 3) := by decide +kernel
theorem dX2_readPairs_103 : decode cX2_readPairs 103 = .ok (.goto (-82), 3) := by decide +kernel
theorem dX2_readPairs_106 : decode cX2_readPairs 106 = .ok (.return_, 1) := by decide +kernel
theorem dX3_init_0 : decode cX3_init 0 = .ok (.aload_n 0, 1) := by decide +kernel
theorem dX3_init_1 : decode cX3_init 1 = .ok (.invokespecial 3, 3) := by decide +kernel
theorem dX3_init_4 : decode cX3_init 4 = .ok (.aload_n 0, 1) := by decide +kernel
theorem dX3_init_5 : decode cX3_init 5 = .ok (.bipush 8, 2) := by decide +kernel
theorem dX3_init_7 : decode cX3_init 7 = .ok (.newarray .int, 2) := by decide +kernel
theorem dX3_init_9 : decode cX3_init 9 = .ok (.putfield 9, 3) := by decide +kernel
theorem dX3_init_12 : decode cX3_init 12 = .ok (.aload_n 0, 1) := by decide +kernel
theorem dX3_init_13 : decode cX3_init 13 = .ok (.bipush 8, 2) := by decide +kernel
theorem dX3_init_15 : decode cX3_init 15 = .ok (.newarray .int, 2) := by decide +kernel
theorem dX3_init_17 : decode cX3_init 17 = .ok (.putfield 15, 3) := by decide +kernel
theorem dX3_init_20 : decode cX3_init 20 = .ok (.return_, 1) := by decide +kernel
theorem dX3_add_0 : decode cX3_add 0 = .ok (.aload_n 0, 1) := by decide +kernel
theorem dX3_add_1 : decode cX3_add 1 = .ok (.getfield 18, 3) := by decide +kernel
theorem dX3_add_4 : decode cX3_add 4 = .ok (.bipush 8, 2) := by decide +kernel
theorem dX3_add_6 : decode cX3_add 6 = .ok (.if_icmp .ge 12, 3) := by decide +kernel
theorem dX3_add_9 : decode cX3_add 9 = .ok (.aload_n 0, 1) := by decide +kernel
theorem dX3_add_10 : decode cX3_add 10 = .ok (.iload_n 1, 1) := by decide +kernel
theorem dX3_add_11 : decode cX3_add 11 = .ok (.iload_n 2, 1) := by decide +kernel
theorem dX3_add_12 : decode cX3_add 12 = .ok (.invokevirtual 22, 3) := by decide +kernel
theorem dX3_add_15 : decode cX3_add 15 = .ok (.ifCond .eq 5, 3) := by decide +kernel
theorem dX3_add_18 : decode cX3_add 18 = .ok (.iconst (-1), 1) := by decide +kernel
theorem dX3_add_19 : decode cX3_add 19 = .ok (.ireturn, 1) := by decide +kernel
theorem dX3_add_20 : decode cX3_add 20 = .ok (.aload_n 0, 1) := by decide +kernel
theorem dX3_add_21 : decode cX3_add 21 = .ok (.getfield 9, 3) := by decide +kernel
theorem dX3_add_24 : decode cX3_add 24 = .ok (.aload_n 0, 1) := by decide +kernel
theorem dX3_add_25 : decode cX3_add 25 = .ok (.getfield 18, 3) := by decide +kernel
theorem dX3_add_28 : decode cX3_add 28 = .ok (.iload_n 1, 1) := by decide +kernel
theorem dX3_add_29 : decode cX3_add 29 = .ok (.iastore, 1) := by decide +kernel
theorem dX3_add_30 : decode cX3_add 30 = .ok (.aload_n 0, 1) := by decide +kernel
theorem dX3_add_31 : decode cX3_add 31 = .ok (.getfield 15, 3) := by decide +kernel
theorem dX3_add_34 : decode cX3_add 34 = .ok (.aload_n 0, 1) := by decide +kernel
theorem dX3_add_35 : decode cX3_add 35 = .ok (.getfield 18, 3) := by decide +kernel
theorem dX3_add_38 : decode cX3_add 38 = .ok (.iload_n 2, 1) := by decide +kernel
theorem dX3_add_39 : decode cX3_add 39 = .ok (.iastore, 1) := by decide +kernel
theorem dX3_add_40 : decode cX3_add 40 = .ok (.aload_n 0, 1) := by decide +kernel
theorem dX3_add_41 : decode cX3_add 41 = .ok (.dup, 1) := by decide +kernel
theorem dX3_add_42 : decode cX3_add 42 = .ok (.getfield 18, 3) := by decide +kernel
theorem dX3_add_45 : decode cX3_add 45 = .ok (.iconst 1, 1) := by decide +kernel
theorem dX3_add_46 : decode cX3_add 46 = .ok (.iadd, 1) := by decide +kernel
theorem dX3_add_47 : decode cX3_add 47 = .ok (.putfield 18, 3) := by decide +kernel
theorem dX3_add_50 : decode cX3_add 50 = .ok (.aload_n 0, 1) := by decide +kernel
theorem dX3_add_51 : decode cX3_add 51 = .ok (.getfield 18, 3) := by decide +kernel
theorem dX3_add_54 : decode cX3_add 54 = .ok (.iconst 1, 1) := by decide +kernel
theorem dX3_add_55 : decode cX3_add 55 = .ok (.isub, 1) := by decide +kernel
theorem dX3_add_56 : decode cX3_add 56 = .ok (.ireturn, 1) := by decide +kernel
theorem dX3_remove_0 : decode cX3_remove 0 = .ok (.iload_n 1, 1) := by decide +kernel
theorem dX3_remove_1 : decode cX3_remove 1 = .ok (.istore_n 2, 1) := by decide +kernel
theorem dX3_remove_2 : decode cX3_remove 2 = .ok (.iload_n 2, 1) := by decide +kernel
theorem dX3_remove_3 : decode cX3_remove 3 = .ok (.iconst 1, 1) := by decide +kernel
theorem dX3_remove_4 : decode cX3_remove 4 = .ok (.iadd, 1) := by decide +kernel
theorem dX3_remove_5 : decode cX3_remove 5 = .ok (.aload_n 0, 1) := by decide +kernel
theorem dX3_remove_6 : decode cX3_remove 6 = .ok (.getfield 18, 3) := by decide +kernel
theorem dX3_remove_9 : decode cX3_remove 9 = .ok (.if_icmp .ge 37, 3) := by decide +kernel
theorem dX3_remove_12 : decode cX3_remove 12 = .ok (.aload_n 0, 1) := by decide +kernel
theorem dX3_remove_13 : decode cX3_remove 13 = .ok (.getfield 9, 3) := by decide +kernel
theorem dX3_remove_16 : decode cX3_remove 16 = .ok (.iload_n 2, 1) := by decide +kernel
theorem dX3_remove_17 : decode cX3_remove 17 = .ok (.aload_n 0, 1) := by decide +kernel
theorem dX3_remove_18 : decode cX3_remove 18 = .ok (.getfield 9, 3) := by decide +kernel
theorem dX3_remove_21 : decode cX3_remove 21 = .ok (.iload_n 2, 1) := by decide +kernel
theorem dX3_remove_22 : decode cX3_remove 22 = .ok (.iconst 1, 1) := by decide +kernel
theorem dX3_remove_23 : decode cX3_remove 23 = .ok (.iadd, 1) := by decide +kernel
theorem dX3_remove_24 : decode cX3_remove 24 = .ok (.iaload, 1) := by decide +kernel
theorem dX3_remove_25 : decode cX3_remove 25 = .ok (.iastore, 1) := by decide +kernel
theorem dX3_remove_26 : decode cX3_remove 26 = .ok (.aload_n 0, 1) := by decide +kernel
theorem dX3_remove_27 : decode cX3_remove 27 = .ok (.getfield 15, 3) := by decide +kernel
theorem dX3_remove_30 : decode cX3_remove 30 = .ok (.iload_n 2, 1) := by decide +kernel
theorem dX3_remove_31 : decode cX3_remove 31 = .ok (.aload_n 0, 1) := by decide +kernel
theorem dX3_remove_32 : decode cX3_remove 32 = .ok (.getfield 15, 3) := by decide +kernel
theorem dX3_remove_35 : decode cX3_remove 35 = .ok (.iload_n 2, 1) := by decide +kernel
theorem dX3_remove_36 : decode cX3_remove 36 = .ok (.iconst 1, 1) := by decide +kernel
theorem dX3_remove_37 : decode cX3_remove 37 = .ok (.iadd, 1) := by decide +kernel
theorem dX3_remove_38 : decode cX3_remove 38 = .ok (.iaload, 1) := by decide +kernel
theorem dX3_remove_39 : decode cX3_remove 39 = .ok (.iastore, 1) := by decide +kernel
theorem dX3_remove_40 : decode cX3_remove 40 = .ok (.iinc 2 1, 3) := by decide +kernel
theorem dX3_remove_43 : decode cX3_remove 43 = .ok (.goto (-41), 3) := by decide +kernel
theorem dX3_remove_46 : decode cX3_remove 46 = .ok (.aload_n 0, 1) := by decide +kernel
theorem dX3_remove_47 : decode cX3_remove 47 = .ok (.dup, 1) := by decide +kernel
theorem dX3_remove_48 : decode cX3_remove 48 = .ok (.getfield 18, 3) := by decide +kernel
theorem dX3_remove_51 : decode cX3_remove 51 = .ok (.iconst 1, 1) := by decide +kernel
theorem dX3_remove_52 : decode cX3_remove 52 = .ok (.isub, 1) := by decide +kernel
theorem dX3_remove_53 : decode cX3_remove 53 = .ok (.putfield 18, 3) := by decide +kernel
theorem dX3_remove_56 : decode cX3_remove 56 = .ok (.return_, 1) := by decide +kernel
theorem dX3_isTaken_0 : decode cX3_isTaken 0 = .ok (.iconst 0, 1) := by decide +kernel
theorem dX3_isTaken_1 : decode cX3_isTaken 1 = .ok (.istore_n 3, 1) := by decide +kernel
theorem dX3_isTaken_2 : decode cX3_isTaken 2 = .ok (.iload_n 3, 1) := by decide +kernel
theorem dX3_isTaken_3 : decode cX3_isTaken 3 = .ok (.aload_n 0, 1) := by decide +kernel
theorem dX3_isTaken_4 : decode cX3_isTaken 4 = .ok (.getfield 18, 3) := by decide +kernel
theorem dX3_isTaken_7 : decode cX3_isTaken 7 = .ok (.if_icmp .ge 31, 3) := by decide +kernel
theorem dX3_isTaken_10 : decode cX3_isTaken 10 = .ok (.aload_n 0, 1) := by decide +kernel
theorem dX3_isTaken_11 : decode cX3_isTaken 11 = .ok (.getfield 9, 3) := by decide +kernel
theorem dX3_isTaken_14 : decode cX3_isTaken 14 = .ok (.iload_n 3, 1) := by decide +kernel
theorem dX3_isTaken_15 : decode cX3_isTaken 15 = .ok (.iaload, 1) := by decide +kernel
theorem dX3_isTaken_16 : decode cX3_isTaken 16 = .ok (.iload_n 1, 1) := by decide +kernel
theorem dX3_isTaken_17 : decode cX3_isTaken 17 = .ok (.if_icmp .ne 15, 3) := by decide +kernel
theorem dX3_isTaken_20 : decode cX3_isTaken 20 = .ok (.aload_n 0, 1) := by decide +kernel
theorem dX3_isTaken_21 : decode cX3_isTaken 21 = .ok (.getfield 15, 3) := by decide +kernel
theorem dX3_isTaken_24 : decode cX3_isTaken 24 = .ok (.iload_n 3, 1) := by decide +kernel
theorem dX3_isTaken_25 : decode cX3_isTaken 25 = .ok (.iaload, 1) := by decide +kernel
theorem dX3_isTaken_26 : decode cX3_isTaken 26 = .ok (.iload_n 2, 1) := by decide +kernel
theorem dX3_isTaken_27 : decode cX3_isTaken 27 = .ok (.if_icmp .ne 5, 3) := by decide +kernel
theorem dX3_isTaken_30 : decode cX3_isTaken 30 = .ok (.iconst 1, 1) := by decide +kernel
theorem dX3_isTaken_31 : decode cX3_isTaken 31 = .ok (.ireturn, 1) := by decide +kernel
theorem dX3_isTaken_32 : decode cX3_isTaken 32 = .ok (.iinc 3 1, 3) := by decide +kernel
theorem dX3_isTaken_35 : decode cX3_isTaken 35 = .ok (.goto (-33), 3) := by decide +kernel
theorem dX3_isTaken_38 : decode cX3_isTaken 38 = .ok (.iconst 0, 1) := by decide +kernel
theorem dX3_isTaken_39 : decode cX3_isTaken 39 = .ok (.ireturn, 1) := by decide +kernel
theorem dX4_init_0 : decode cX4_init 0 = .ok (.aload_n 0, 1) := by decide +kernel
theorem dX4_init_1 : decode cX4_init 1 = .ok (.invokespecial 3, 3) := by decide +kernel
theorem dX4_init_4 : decode cX4_init 4 = .ok (.aload_n 0, 1) := by decide +kernel
theorem dX4_init_5 : decode cX4_init 5 = .ok (.bipush 8, 2) := by decide +kernel
theorem dX4_init_7 : decode cX4_init 7 = .ok (.newarray .int, 2) := by decide +kernel
theorem dX4_init_9 : decode cX4_init 9 = .ok (.putfield 9, 3) := by decide +kernel
theorem dX4_init_12 : decode cX4_init 12 = .ok (.aload_n 0, 1) := by decide +kernel
theorem dX4_init_13 : decode cX4_init 13 = .ok (.bipush 8, 2) := by decide +kernel
theorem dX4_init_15 : decode cX4_init 15 = .ok (.newarray .int, 2) := by decide +kernel
theorem dX4_init_17 : decode cX4_init 17 = .ok (.putfield 15, 3) := by decide +kernel
theorem dX4_init_20 : decode cX4_init 20 = .ok (.aload_n 0, 1) := by decide +kernel
theorem dX4_init_21 : decode cX4_init 21 = .ok (.bipush 8, 2) := by decide +kernel
theorem dX4_init_23 : decode cX4_init 23 = .ok (.newarray .int, 2) := by decide +kernel
theorem dX4_init_25 : decode cX4_init 25 = .ok (.putfield 18, 3) := by decide +kernel
theorem dX4_init_28 : decode cX4_init 28 = .ok (.aload_n 0, 1) := by decide +kernel
theorem dX4_init_29 : decode cX4_init 29 = .ok (.bipush 8, 2) := by decide +kernel
theorem dX4_init_31 : decode cX4_init 31 = .ok (.newarray .int, 2) := by decide +kernel
theorem dX4_init_33 : decode cX4_init 33 = .ok (.putfield 21, 3) := by decide +kernel
theorem dX4_init_36 : decode cX4_init 36 = .ok (.aload_n 0, 1) := by decide +kernel
theorem dX4_init_37 : decode cX4_init 37 = .ok (.bipush 8, 2) := by decide +kernel
theorem dX4_init_39 : decode cX4_init 39 = .ok (.newarray .int, 2) := by decide +kernel
theorem dX4_init_41 : decode cX4_init 41 = .ok (.putfield 24, 3) := by decide +kernel
theorem dX4_init_44 : decode cX4_init 44 = .ok (.aload_n 0, 1) := by decide +kernel
theorem dX4_init_45 : decode cX4_init 45 = .ok (.bipush 8, 2) := by decide +kernel
theorem dX4_init_47 : decode cX4_init 47 = .ok (.newarray .int, 2) := by decide +kernel
theorem dX4_init_49 : decode cX4_init 49 = .ok (.putfield 27, 3) := by decide +kernel
theorem dX4_init_52 : decode cX4_init 52 = .ok (.aload_n 0, 1) := by decide +kernel
theorem dX4_init_53 : decode cX4_init 53 = .ok (.bipush 40, 2) := by decide +kernel
theorem dX4_init_55 : decode cX4_init 55 = .ok (.newarray .int, 2) := by decide +kernel
theorem dX4_init_57 : decode cX4_init 57 = .ok (.putfield 30, 3) := by decide +kernel
theorem dX4_init_60 : decode cX4_init 60 = .ok (.aload_n 0, 1) := by decide +kernel
theorem dX4_init_61 : decode cX4_init 61 = .ok (.bipush 40, 2) := by decide +kernel
theorem dX4_init_63 : decode cX4_init 63 = .ok (.newarray .int, 2) := by decide +kernel
theorem dX4_init_65 : decode cX4_init 65 = .ok (.putfield 33, 3) := by decide +kernel
theorem dX4_init_68 : decode cX4_init 68 = .ok (.aload_n 0, 1) := by decide +kernel
theorem dX4_init_69 : decode cX4_init 69 = .ok (.bipush 40, 2) := by decide +kernel
theorem dX4_init_71 : decode cX4_init 71 = .ok (.newarray .int, 2) := by decide +kernel
theorem dX4_init_73 : decode cX4_init 73 = .ok (.putfield 36, 3) := by decide +kernel
theorem dX4_init_76 : decode cX4_init 76 = .ok (.aload_n 0, 1) := by decide +kernel
theorem dX4_init_77 : decode cX4_init 77 = .ok (.iconst 5, 1) := by decide +kernel
theorem dX4_init_78 : decode cX4_init 78 = .ok (.newarray .int, 2) := by decide +kernel
theorem dX4_init_80 : decode cX4_init 80 = .ok (.putfield 39, 3) := by decide +kernel
theorem dX4_init_83 : decode cX4_init 83 = .ok (.return_, 1) := by decide +kernel
theorem dX4_start_0 : decode cX4_start 0 = .ok (.aload_n 0, 1) := by decide +kernel
theorem dX4_start_1 : decode cX4_start 1 = .ok (.aload_n 2, 1) := by decide +kernel
theorem dX4_start_2 : decode cX4_start 2 = .ok (.getfield 42, 3) := by decide +kernel
theorem dX4_start_5 : decode cX4_start 5 = .ok (.putfield 48, 3) := by decide +kernel
theorem dX4_start_8 : decode cX4_start 8 = .ok (.aload_n 0, 1) := by decide +kernel
theorem dX4_start_9 : decode cX4_start 9 = .ok (.iconst 0, 1) := by decide +kernel
theorem dX4_start_10 : decode cX4_start 10 = .ok (.putfield 49, 3) := by decide +kernel
theorem dX4_start_13 : decode cX4_start 13 = .ok (.aload_n 0, 1) := by decide +kernel
theorem dX4_start_14 : decode cX4_start 14 = .ok (.aload_n 2, 1) := by decide +kernel
theorem dX4_start_15 : decode cX4_start 15 = .ok (.getfield 52, 3) := by decide +kernel
theorem dX4_start_18 : decode cX4_start 18 = .ok (.putfield 55, 3) := by decide +kernel
theorem dX4_start_21 : decode cX4_start 21 = .ok (.aload_n 0, 1) := by decide +kernel
theorem dX4_start_22 : decode cX4_start 22 = .ok (.getfield 39, 3) := by decide +kernel
theorem dX4_start_25 : decode cX4_start 25 = .ok (.iload_n 1, 1) := by decide +kernel
theorem dX4_start_26 : decode cX4_start 26 = .ok (.iconst 0, 1) := by decide +kernel
theorem dX4_start_27 : decode cX4_start 27 = .ok (.iastore, 1) := by decide +kernel
theorem dX4_start_28 : decode cX4_start 28 = .ok (.aload_n 0, 1) := by decide +kernel
theorem dX4_start_29 : decode cX4_start 29 = .ok (.getfield 30, 3) := by decide +kernel
theorem dX4_start_32 : decode cX4_start 32 = .ok (.iconst (-1), 1) := by decide +kernel
theorem dX4_start_33 : decode cX4_start 33 = .ok (.invokestatic 58, 3) := by decide +kernel
theorem dX4_start_36 : decode cX4_start 36 = .ok (.iconst 0, 1) := by decide +kernel
theorem dX4_start_37 : decode cX4_start 37 = .ok (.istore_n 3, 1) := by decide +kernel
theorem dX4_start_38 : decode cX4_start 38 = .ok (.iload_n 3, 1) := by decide +kernel
theorem dX4_start_39 : decode cX4_start 39 = .ok (.aload_n 0, 1) := by decide +kernel
theorem dX4_start_40 : decode cX4_start 40 = .ok (.getfield 48, 3) := by decide +kernel
theorem dX4_start_43 : decode cX4_start 43 = .ok (.if_icmp .ge 80, 3) := by decide +kernel
theorem dX4_start_46 : decode cX4_start 46 = .ok (.aload_n 0, 1) := by decide +kernel
theorem dX4_start_47 : decode cX4_start 47 = .ok (.getfield 9, 3) := by decide +kernel
theorem dX4_start_50 : decode cX4_start 50 = .ok (.iload_n 3, 1) := by decide +kernel
theorem dX4_start_51 : decode cX4_start 51 = .ok (.aload_n 2, 1) := by decide +kernel
theorem dX4_start_52 : decode cX4_start 52 = .ok (.getfield 64, 3) := by decide +kernel
theorem dX4_start_55 : decode cX4_start 55 = .ok (.iload_n 3, 1) := by decide +kernel
theorem dX4_start_56 : decode cX4_start 56 = .ok (.iaload, 1) := by decide +kernel
theorem dX4_start_57 : decode cX4_start 57 = .ok (.iastore, 1) := by decide +kernel
theorem dX4_start_58 : decode cX4_start 58 = .ok (.aload_n 0, 1) := by decide +kernel
theorem dX4_start_59 : decode cX4_start 59 = .ok (.getfield 15, 3) := by decide +kernel
theorem dX4_start_62 : decode cX4_start 62 = .ok (.iload_n 3, 1) := by decide +kernel
theorem dX4_start_63 : decode cX4_start 63 = .ok (.aload_n 2, 1) := by decide +kernel
theorem dX4_start_64 : decode cX4_start 64 = .ok (.getfield 67, 3) := by decide +kernel
theorem dX4_start_67 : decode cX4_start 67 = .ok (.iload_n 3, 1) := by decide +kernel
theorem dX4_start_68 : decode cX4_start 68 = .ok (.iaload, 1) := by decide +kernel
theorem dX4_start_69 : decode cX4_start 69 = .ok (.iastore, 1) := by decide +kernel
theorem dX4_start_70 : decode cX4_start 70 = .ok (.aload_n 0, 1) := by decide +kernel
theorem dX4_start_71 : decode cX4_start 71 = .ok (.getfield 18, 3) := by decide +kernel
theorem dX4_start_74 : decode cX4_start 74 = .ok (.iload_n 3, 1) := by decide +kernel
theorem dX4_start_75 : decode cX4_start 75 = .ok (.iconst 0, 1) := by decide +kernel
theorem dX4_start_76 : decode cX4_start 76 = .ok (.iastore, 1) := by decide +kernel
theorem dX4_start_77 : decode cX4_start 77 = .ok (.aload_n 0, 1) := by decide +kernel
theorem dX4_start_78 : decode cX4_start 78 = .ok (.getfield 21, 3) := by decide +kernel
theorem dX4_start_81 : decode cX4_start 81 = .ok (.iload_n 3, 1) := by decide +kernel
theorem dX4_start_82 : decode cX4_start 82 = .ok (.iconst 0, 1) := by decide +kernel
theorem dX4_start_83 : decode cX4_start 83 = .ok (.iastore, 1) := by decide +kernel
theorem dX4_start_84 : decode cX4_start 84 = .ok (.aload_n 0, 1) := by decide +kernel
theorem dX4_start_85 : decode cX4_start 85 = .ok (.getfield 24, 3) := by decide +kernel
theorem dX4_start_88 : decode cX4_start 88 = .ok (.iload_n 3, 1) := by decide +kernel
theorem dX4_start_89 : decode cX4_start 89 = .ok (.iconst 0, 1) := by decide +kernel
theorem dX4_start_90 : decode cX4_start 90 = .ok (.iastore, 1) := by decide +kernel
theorem dX4_start_91 : decode cX4_start 91 = .ok (.aload_n 0, 1) := by decide +kernel
theorem dX4_start_92 : decode cX4_start 92 = .ok (.getfield 27, 3) := by decide +kernel
theorem dX4_start_95 : decode cX4_start 95 = .ok (.iload_n 3, 1) := by decide +kernel
theorem dX4_start_96 : decode cX4_start 96 = .ok (.iconst 0, 1) := by decide +kernel
theorem dX4_start_97 : decode cX4_start 97 = .ok (.iastore, 1) := by decide +kernel
theorem dX4_start_98 : decode cX4_start 98 = .ok (.aload_n 0, 1) := by decide +kernel
theorem dX4_start_99 : decode cX4_start 99 = .ok (.iload_n 3, 1) := by decide +kernel
theorem dX4_start_100 : decode cX4_start 100 = .ok (.iload_n 1, 1) := by decide +kernel
theorem dX4_start_101 : decode cX4_start 101 = .ok (.iload_n 3, 1) := by decide +kernel
theorem dX4_start_102 : decode cX4_start 102 = .ok (.aload_n 2, 1) := by decide +kernel
theorem dX4_start_103 : decode cX4_start 103 = .ok (.getfield 64, 3) := by decide +kernel
theorem dX4_start_106 : decode cX4_start 106 = .ok (.iload_n 3, 1) := by decide +kernel
theorem dX4_start_107 : decode cX4_start 107 = .ok (.iaload, 1) := by decide +kernel
theorem dX4_start_108 : decode cX4_start 108 = .ok (.aload_n 2, 1) := by decide +kernel
theorem dX4_start_109 : decode cX4_start 109 = .ok (.getfield 67, 3) := by decide +kernel
theorem dX4_start_112 : decode cX4_start 112 = .ok (.iload_n 3, 1) := by decide +kernel
theorem dX4_start_113 : decode cX4_start 113 = .ok (.iaload, 1) := by decide +kernel
theorem dX4_start_114 : decode cX4_start 114 = .ok (.invokevirtual 70, 3) := by decide +kernel
theorem dX4_start_117 : decode cX4_start 117 = .ok (.iinc 3 1, 3) := by decide +kernel
theorem dX4_start_120 : decode cX4_start 120 = .ok (.goto (-82), 3) := by decide +kernel
theorem dX4_start_123 : decode cX4_start 123 = .ok (.return_, 1) := by decide +kernel
theorem dX4_join_0 : decode cX4_join 0 = .ok (.aload_n 0, 1) := by decide +kernel
theorem dX4_join_1 : decode cX4_join 1 = .ok (.getfield 39, 3) := by decide +kernel
theorem dX4_join_4 : decode cX4_join 4 = .ok (.iload_n 1, 1) := by decide +kernel
theorem dX4_join_5 : decode cX4_join 5 = .ok (.aload_n 2, 1) := by decide +kernel
theorem dX4_join_6 : decode cX4_join 6 = .ok (.getfield 52, 3) := by decide +kernel
theorem dX4_join_9 : decode cX4_join 9 = .ok (.aload_n 0, 1) := by decide +kernel
theorem dX4_join_10 : decode cX4_join 10 = .ok (.getfield 55, 3) := by decide +kernel
theorem dX4_join_13 : decode cX4_join 13 = .ok (.isub, 1) := by decide +kernel
theorem dX4_join_14 : decode cX4_join 14 = .ok (.iastore, 1) := by decide +kernel
theorem dX4_join_15 : decode cX4_join 15 = .ok (.iconst 0, 1) := by decide +kernel
theorem dX4_join_16 : decode cX4_join 16 = .ok (.istore 4, 2) := by decide +kernel
theorem dX4_join_18 : decode cX4_join 18 = .ok (.iload 4, 2) := by decide +kernel
theorem dX4_join_20 : decode cX4_join 20 = .ok (.aload_n 0, 1) := by decide +kernel
theorem dX4_join_21 : decode cX4_join 21 = .ok (.getfield 48, 3) := by decide +kernel
theorem dX4_join_24 : decode cX4_join 24 = .ok (.if_icmp .ge 80, 3) := by decide +kernel
theorem dX4_join_27 : decode cX4_join 27 = .ok (.aload_n 3, 1) := by decide +kernel
theorem dX4_join_28 : decode cX4_join 28 = .ok (.getfield 74, 3) := by decide +kernel
theorem dX4_join_31 : decode cX4_join 31 = .ok (.iload 4, 2) := by decide +kernel
theorem dX4_join_33 : decode cX4_join 33 = .ok (.iaload, 1) := by decide +kernel
theorem dX4_join_34 : decode cX4_join 34 = .ok (.istore 5, 2) := by decide +kernel
theorem dX4_join_36 : decode cX4_join 36 = .ok (.iload 5, 2) := by decide +kernel
theorem dX4_join_38 : decode cX4_join 38 = .ok (.iconst (-1), 1) := by decide +kernel
theorem dX4_join_39 : decode cX4_join 39 = .ok (.if_icmp .ne 16, 3) := by decide +kernel
theorem dX4_join_42 : decode cX4_join 42 = .ok (.aload_n 0, 1) := by decide +kernel
theorem dX4_join_43 : decode cX4_join 43 = .ok (.dup, 1) := by decide +kernel
theorem dX4_join_44 : decode cX4_join 44 = .ok (.getfield 49, 3) := by decide +kernel
theorem dX4_join_47 : decode cX4_join 47 = .ok (.iconst 1, 1) := by decide +kernel
theorem dX4_join_48 : decode cX4_join 48 = .ok (.iadd, 1) := by decide +kernel
theorem dX4_join_49 : decode cX4_join 49 = .ok (.putfield 49, 3) := by decide +kernel
theorem dX4_join_52 : decode cX4_join 52 = .ok (.goto 46, 3) := by decide +kernel
theorem dX4_join_55 : decode cX4_join 55 = .ok (.aload_n 2, 1) := by decide +kernel
theorem dX4_join_56 : decode cX4_join 56 = .ok (.getfield 64, 3) := by decide +kernel
theorem dX4_join_59 : decode cX4_join 59 = .ok (.iload 5, 2) := by decide +kernel
theorem dX4_join_61 : decode cX4_join 61 = .ok (.iaload, 1) := by decide +kernel
theorem dX4_join_62 : decode cX4_join 62 = .ok (.istore 6, 2) := by decide +kernel
theorem dX4_join_64 : decode cX4_join 64 = .ok (.aload_n 2, 1) := by decide +kernel
theorem dX4_join_65 : decode cX4_join 65 = .ok (.getfield 67, 3) := by decide +kernel
theorem dX4_join_68 : decode cX4_join 68 = .ok (.iload 5, 2) := by decide +kernel
theorem dX4_join_70 : decode cX4_join 70 = .ok (.iaload, 1) := by decide +kernel
theorem dX4_join_71 : decode cX4_join 71 = .ok (.istore 7, 2) := by decide +kernel
theorem dX4_join_73 : decode cX4_join 73 = .ok (.aload_n 0, 1) := by decide +kernel
theorem dX4_join_74 : decode cX4_join 74 = .ok (.iload 4, 2) := by decide +kernel
theorem dX4_join_76 : decode cX4_join 76 = .ok (.iload_n 1, 1) := by decide +kernel
theorem dX4_join_77 : decode cX4_join 77 = .ok (.iload 5, 2) := by decide +kernel
theorem dX4_join_79 : decode cX4_join 79 = .ok (.aload_n 3, 1) := by decide +kernel
theorem dX4_join_80 : decode cX4_join 80 = .ok (.iload 6, 2) := by decide +kernel
theorem dX4_join_82 : decode cX4_join 82 = .ok (.iload 7, 2) := by decide +kernel
theorem dX4_join_84 : decode cX4_join 84 = .ok (.invokevirtual 79, 3) := by decide +kernel
theorem dX4_join_87 : decode cX4_join 87 = .ok (.aload_n 3, 1) := by decide +kernel
theorem dX4_join_88 : decode cX4_join 88 = .ok (.iload 6, 2) := by decide +kernel
theorem dX4_join_90 : decode cX4_join 90 = .ok (.iload 7, 2) := by decide +kernel
theorem dX4_join_92 : decode cX4_join 92 = .ok (.invokevirtual 83, 3) := by decide +kernel
theorem dX4_join_95 : decode cX4_join 95 = .ok (.invokevirtual 70, 3) := by decide +kernel
theorem dX4_join_98 : decode cX4_join 98 = .ok (.iinc 4 1, 3) := by decide +kernel
theorem dX4_join_101 : decode cX4_join 101 = .ok (.goto (-83), 3) := by decide +kernel
theorem dX4_join_104 : decode cX4_join 104 = .ok (.return_, 1) := by decide +kernel
theorem dX4_enter_0 : decode cX4_enter 0 = .ok (.iload_n 2, 1) := by decide +kernel
theorem dX4_enter_1 : decode cX4_enter 1 = .ok (.bipush 8, 2) := by decide +kernel
theorem dX4_enter_3 : decode cX4_enter 3 = .ok (.imul, 1) := by decide +kernel
theorem dX4_enter_4 : decode cX4_enter 4 = .ok (.iload_n 1, 1) := by decide +kernel
theorem dX4_enter_5 : decode cX4_enter 5 = .ok (.iadd, 1) := by decide +kernel
theorem dX4_enter_6 : decode cX4_enter 6 = .ok (.istore 6, 2) := by decide +kernel
theorem dX4_enter_8 : decode cX4_enter 8 = .ok (.aload_n 0, 1) := by decide +kernel
theorem dX4_enter_9 : decode cX4_enter 9 = .ok (.getfield 30, 3) := by decide +kernel
theorem dX4_enter_12 : decode cX4_enter 12 = .ok (.iload 6, 2) := by decide +kernel
theorem dX4_enter_14 : decode cX4_enter 14 = .ok (.iload_n 3, 1) := by decide +kernel
theorem dX4_enter_15 : decode cX4_enter 15 = .ok (.iastore, 1) := by decide +kernel
theorem dX4_enter_16 : decode cX4_enter 16 = .ok (.aload_n 0, 1) := by decide +kernel
theorem dX4_enter_17 : decode cX4_enter 17 = .ok (.getfield 33, 3) := by decide +kernel
theorem dX4_enter_20 : decode cX4_enter 20 = .ok (.iload 6, 2) := by decide +kernel
theorem dX4_enter_22 : decode cX4_enter 22 = .ok (.iload 4, 2) := by decide +kernel
theorem dX4_enter_24 : decode cX4_enter 24 = .ok (.iastore, 1) := by decide +kernel
theorem dX4_enter_25 : decode cX4_enter 25 = .ok (.aload_n 0, 1) := by decide +kernel
theorem dX4_enter_26 : decode cX4_enter 26 = .ok (.getfield 36, 3) := by decide +kernel
theorem dX4_enter_29 : decode cX4_enter 29 = .ok (.iload 6, 2) := by decide +kernel
theorem dX4_enter_31 : decode cX4_enter 31 = .ok (.iload 5, 2) := by decide +kernel
theorem dX4_enter_33 : decode cX4_enter 33 = .ok (.iastore, 1) := by decide +kernel
theorem dX4_enter_34 : decode cX4_enter 34 = .ok (.aload_n 0, 1) := by decide +kernel
theorem dX4_enter_35 : decode cX4_enter 35 = .ok (.getfield 18, 3) := by decide +kernel
theorem dX4_enter_38 : decode cX4_enter 38 = .ok (.iload_n 1, 1) := by decide +kernel
theorem dX4_enter_39 : decode cX4_enter 39 = .ok (.dup2, 1) := by decide +kernel
theorem dX4_enter_40 : decode cX4_enter 40 = .ok (.iaload, 1) := by decide +kernel
theorem dX4_enter_41 : decode cX4_enter 41 = .ok (.iconst 1, 1) := by decide +kernel
theorem dX4_enter_42 : decode cX4_enter 42 = .ok (.iadd, 1) := by decide +kernel
theorem dX4_enter_43 : decode cX4_enter 43 = .ok (.iastore, 1) := by decide +kernel
theorem dX4_enter_44 : decode cX4_enter 44 = .ok (.aload_n 0, 1) := by decide +kernel
theorem dX4_enter_45 : decode cX4_enter 45 = .ok (.getfield 39, 3) := by decide +kernel
theorem dX4_enter_48 : decode cX4_enter 48 = .ok (.iload_n 2, 1) := by decide +kernel
theorem dX4_enter_49 : decode cX4_enter 49 = .ok (.iaload, 1) := by decide +kernel
theorem dX4_enter_50 : decode cX4_enter 50 = .ok (.aload_n 0, 1) := by decide +kernel
theorem dX4_enter_51 : decode cX4_enter 51 = .ok (.getfield 21, 3) := by decide +kernel
theorem dX4_enter_54 : decode cX4_enter 54 = .ok (.iload_n 1, 1) := by decide +kernel
theorem dX4_enter_55 : decode cX4_enter 55 = .ok (.iaload, 1) := by decide +kernel
theorem dX4_enter_56 : decode cX4_enter 56 = .ok (.if_icmp .le 45, 3) := by decide +kernel
theorem dX4_enter_59 : decode cX4_enter 59 = .ok (.aload_n 0, 1) := by decide +kernel
theorem dX4_enter_60 : decode cX4_enter 60 = .ok (.getfield 21, 3) := by decide +kernel
theorem dX4_enter_63 : decode cX4_enter 63 = .ok (.iload_n 1, 1) := by decide +kernel
theorem dX4_enter_64 : decode cX4_enter 64 = .ok (.aload_n 0, 1) := by decide +kernel
theorem dX4_enter_65 : decode cX4_enter 65 = .ok (.getfield 39, 3) := by decide +kernel
theorem dX4_enter_68 : decode cX4_enter 68 = .ok (.iload_n 2, 1) := by decide +kernel
theorem dX4_enter_69 : decode cX4_enter 69 = .ok (.iaload, 1) := by decide +kernel
theorem dX4_enter_70 : decode cX4_enter 70 = .ok (.iastore, 1) := by decide +kernel
theorem dX4_enter_71 : decode cX4_enter 71 = .ok (.aload_n 0, 1) := by decide +kernel
theorem dX4_enter_72 : decode cX4_enter 72 = .ok (.getfield 24, 3) := by decide +kernel
theorem dX4_enter_75 : decode cX4_enter 75 = .ok (.iload_n 1, 1) := by decide +kernel
theorem dX4_enter_76 : decode cX4_enter 76 = .ok (.iload 4, 2) := by decide +kernel
theorem dX4_enter_78 : decode cX4_enter 78 = .ok (.aload_n 0, 1) := by decide +kernel
theorem dX4_enter_79 : decode cX4_enter 79 = .ok (.getfield 9, 3) := by decide +kernel
theorem dX4_enter_82 : decode cX4_enter 82 = .ok (.iload_n 1, 1) := by decide +kernel
theorem dX4_enter_83 : decode cX4_enter 83 = .ok (.iaload, 1) := by decide +kernel
theorem dX4_enter_84 : decode cX4_enter 84 = .ok (.isub, 1) := by decide +kernel
theorem dX4_enter_85 : decode cX4_enter 85 = .ok (.iastore, 1) := by decide +kernel
theorem dX4_enter_86 : decode cX4_enter 86 = .ok (.aload_n 0, 1) := by decide +kernel
theorem dX4_enter_87 : decode cX4_enter 87 = .ok (.getfield 27, 3) := by decide +kernel
theorem dX4_enter_90 : decode cX4_enter 90 = .ok (.iload_n 1, 1) := by decide +kernel
theorem dX4_enter_91 : decode cX4_enter 91 = .ok (.iload 5, 2) := by decide +kernel
theorem dX4_enter_93 : decode cX4_enter 93 = .ok (.aload_n 0, 1) := by decide +kernel
theorem dX4_enter_94 : decode cX4_enter 94 = .ok (.getfield 15, 3) := by decide +kernel
theorem dX4_enter_97 : decode cX4_enter 97 = .ok (.iload_n 1, 1) := by decide +kernel
theorem dX4_enter_98 : decode cX4_enter 98 = .ok (.iaload, 1) := by decide +kernel
theorem dX4_enter_99 : decode cX4_enter 99 = .ok (.isub, 1) := by decide +kernel
theorem dX4_enter_100 : decode cX4_enter 100 = .ok (.iastore, 1) := by decide +kernel
theorem dX4_enter_101 : decode cX4_enter 101 = .ok (.return_, 1) := by decide +kernel
theorem dX4_hasMotion_0 : decode cX4_hasMotion 0 = .ok (.aload_n 0, 1) := by decide +kernel
theorem dX4_hasMotion_1 : decode cX4_hasMotion 1 = .ok (.getfield 21, 3) := by decide +kernel
theorem dX4_hasMotion_4 : decode cX4_hasMotion 4 = .ok (.iload_n 1, 1) := by decide +kernel
theorem dX4_hasMotion_5 : decode cX4_hasMotion 5 = .ok (.iaload, 1) := by decide +kernel
theorem dX4_hasMotion_6 : decode cX4_hasMotion 6 = .ok (.ifCond .le 7, 3) := by decide +kernel
theorem dX4_hasMotion_9 : decode cX4_hasMotion 9 = .ok (.iconst 1, 1) := by decide +kernel
theorem dX4_hasMotion_10 : decode cX4_hasMotion 10 = .ok (.goto 4, 3) := by decide +kernel
theorem dX4_hasMotion_13 : decode cX4_hasMotion 13 = .ok (.iconst 0, 1) := by decide +kernel
theorem dX4_hasMotion_14 : decode cX4_hasMotion 14 = .ok (.ireturn, 1) := by decide +kernel
theorem dX4_isStill_0 : decode cX4_isStill 0 = .ok (.aload_n 0, 1) := by decide +kernel
theorem dX4_isStill_1 : decode cX4_isStill 1 = .ok (.iload_n 1, 1) := by decide +kernel
theorem dX4_isStill_2 : decode cX4_isStill 2 = .ok (.invokevirtual 86, 3) := by decide +kernel
theorem dX4_isStill_5 : decode cX4_isStill 5 = .ok (.ifCond .eq 25, 3) := by decide +kernel
theorem dX4_isStill_8 : decode cX4_isStill 8 = .ok (.aload_n 0, 1) := by decide +kernel
theorem dX4_isStill_9 : decode cX4_isStill 9 = .ok (.getfield 24, 3) := by decide +kernel
theorem dX4_isStill_12 : decode cX4_isStill 12 = .ok (.iload_n 1, 1) := by decide +kernel
theorem dX4_isStill_13 : decode cX4_isStill 13 = .ok (.iaload, 1) := by decide +kernel
theorem dX4_isStill_14 : decode cX4_isStill 14 = .ok (.ifCond .ne 16, 3) := by decide +kernel
theorem dX4_isStill_17 : decode cX4_isStill 17 = .ok (.aload_n 0, 1) := by decide +kernel
theorem dX4_isStill_18 : decode cX4_isStill 18 = .ok (.getfield 27, 3) := by decide +kernel
theorem dX4_isStill_21 : decode cX4_isStill 21 = .ok (.iload_n 1, 1) := by decide +kernel
theorem dX4_isStill_22 : decode cX4_isStill 22 = .ok (.iaload, 1) := by decide +kernel
theorem dX4_isStill_23 : decode cX4_isStill 23 = .ok (.ifCond .ne 7, 3) := by decide +kernel
theorem dX4_isStill_26 : decode cX4_isStill 26 = .ok (.iconst 1, 1) := by decide +kernel
theorem dX4_isStill_27 : decode cX4_isStill 27 = .ok (.goto 4, 3) := by decide +kernel
theorem dX4_isStill_30 : decode cX4_isStill 30 = .ok (.iconst 0, 1) := by decide +kernel
theorem dX4_isStill_31 : decode cX4_isStill 31 = .ok (.ireturn, 1) := by decide +kernel
theorem dX4_stillOnes_0 : decode cX4_stillOnes 0 = .ok (.iconst 0, 1) := by decide +kernel
theorem dX4_stillOnes_1 : decode cX4_stillOnes 1 = .ok (.istore_n 1, 1) := by decide +kernel
theorem dX4_stillOnes_2 : decode cX4_stillOnes 2 = .ok (.iconst 0, 1) := by decide +kernel
theorem dX4_stillOnes_3 : decode cX4_stillOnes 3 = .ok (.istore_n 2, 1) := by decide +kernel
theorem dX4_stillOnes_4 : decode cX4_stillOnes 4 = .ok (.iload_n 2, 1) := by decide +kernel
theorem dX4_stillOnes_5 : decode cX4_stillOnes 5 = .ok (.aload_n 0, 1) := by decide +kernel
theorem dX4_stillOnes_6 : decode cX4_stillOnes 6 = .ok (.getfield 48, 3) := by decide +kernel
theorem dX4_stillOnes_9 : decode cX4_stillOnes 9 = .ok (.if_icmp .ge 20, 3) := by decide +kernel
theorem dX4_stillOnes_12 : decode cX4_stillOnes 12 = .ok (.aload_n 0, 1) := by decide +kernel
theorem dX4_stillOnes_13 : decode cX4_stillOnes 13 = .ok (.iload_n 2, 1) := by decide +kernel
theorem dX4_stillOnes_14 : decode cX4_stillOnes 14 = .ok (.invokevirtual 90, 3) := by decide +kernel
theorem dX4_stillOnes_17 : decode cX4_stillOnes 17 = .ok (.ifCond .eq 6, 3) := by decide +kernel
theorem dX4_stillOnes_20 : decode cX4_stillOnes 20 = .ok (.iinc 1 1, 3) := by decide +kernel
theorem dX4_stillOnes_23 : decode cX4_stillOnes 23 = .ok (.iinc 2 1, 3) := by decide +kernel
theorem dX4_stillOnes_26 : decode cX4_stillOnes 26 = .ok (.goto (-22), 3) := by decide +kernel
theorem dX4_stillOnes_29 : decode cX4_stillOnes 29 = .ok (.iload_n 1, 1) := by decide +kernel
theorem dX4_stillOnes_30 : decode cX4_stillOnes 30 = .ok (.ireturn, 1) := by decide +kernel
theorem dX4_isSteady_0 : decode cX4_isSteady 0 = .ok (.iconst 0, 1) := by decide +kernel
theorem dX4_isSteady_1 : decode cX4_isSteady 1 = .ok (.istore_n 3, 1) := by decide +kernel
theorem dX4_isSteady_2 : decode cX4_isSteady 2 = .ok (.iload_n 3, 1) := by decide +kernel
theorem dX4_isSteady_3 : decode cX4_isSteady 3 = .ok (.iconst 5, 1) := by decide +kernel
theorem dX4_isSteady_4 : decode cX4_isSteady 4 = .ok (.if_icmp .ge 125, 3) := by decide +kernel
theorem dX4_isSteady_7 : decode cX4_isSteady 7 = .ok (.iload_n 3, 1) := by decide +kernel
theorem dX4_isSteady_8 : decode cX4_isSteady 8 = .ok (.bipush 8, 2) := by decide +kernel
theorem dX4_isSteady_10 : decode cX4_isSteady 10 = .ok (.imul, 1) := by decide +kernel
theorem dX4_isSteady_11 : decode cX4_isSteady 11 = .ok (.iload_n 1, 1) := by decide +kernel
theorem dX4_isSteady_12 : decode cX4_isSteady 12 = .ok (.iadd, 1) := by decide +kernel
theorem dX4_isSteady_13 : decode cX4_isSteady 13 = .ok (.istore 4, 2) := by decide +kernel
theorem dX4_isSteady_15 : decode cX4_isSteady 15 = .ok (.aload_n 0, 1) := by decide +kernel
theorem dX4_isSteady_16 : decode cX4_isSteady 16 = .ok (.getfield 30, 3) := by decide +kernel
theorem dX4_isSteady_19 : decode cX4_isSteady 19 = .ok (.iload 4, 2) := by decide +kernel
theorem dX4_isSteady_21 : decode cX4_isSteady 21 = .ok (.iaload, 1) := by decide +kernel
theorem dX4_isSteady_22 : decode cX4_isSteady 22 = .ok (.iconst (-1), 1) := by decide +kernel
theorem dX4_isSteady_23 : decode cX4_isSteady 23 = .ok (.if_icmp .ne 6, 3) := by decide +kernel
theorem dX4_isSteady_26 : decode cX4_isSteady 26 = .ok (.goto 97, 3) := by decide +kernel
theorem dX4_isSteady_29 : decode cX4_isSteady 29 = .ok (.aload_n 0, 1) := by decide +kernel
theorem dX4_isSteady_30 : decode cX4_isSteady 30 = .ok (.getfield 33, 3) := by decide +kernel
theorem dX4_isSteady_33 : decode cX4_isSteady 33 = .ok (.iload 4, 2) := by decide +kernel
theorem dX4_isSteady_35 : decode cX4_isSteady 35 = .ok (.iaload, 1) := by decide +kernel
theorem dX4_isSteady_36 : decode cX4_isSteady 36 = .ok (.aload_n 0, 1) := by decide +kernel
theorem dX4_isSteady_37 : decode cX4_isSteady 37 = .ok (.getfield 9, 3) := by decide +kernel
theorem dX4_isSteady_40 : decode cX4_isSteady 40 = .ok (.iload_n 1, 1) := by decide +kernel
theorem dX4_isSteady_41 : decode cX4_isSteady 41 = .ok (.iaload, 1) := by decide +kernel
theorem dX4_isSteady_42 : decode cX4_isSteady 42 = .ok (.isub, 1) := by decide +kernel
theorem dX4_isSteady_43 : decode cX4_isSteady 43 = .ok (.aload_n 0, 1) := by decide +kernel
theorem dX4_isSteady_44 : decode cX4_isSteady 44 = .ok (.getfield 21, 3) := by decide +kernel
theorem dX4_isSteady_47 : decode cX4_isSteady 47 = .ok (.iload_n 1, 1) := by decide +kernel
theorem dX4_isSteady_48 : decode cX4_isSteady 48 = .ok (.iaload, 1) := by decide +kernel
theorem dX4_isSteady_49 : decode cX4_isSteady 49 = .ok (.imul, 1) := by decide +kernel
theorem dX4_isSteady_50 : decode cX4_isSteady 50 = .ok (.aload_n 0, 1) := by decide +kernel
theorem dX4_isSteady_51 : decode cX4_isSteady 51 = .ok (.getfield 24, 3) := by decide +kernel
theorem dX4_isSteady_54 : decode cX4_isSteady 54 = .ok (.iload_n 1, 1) := by decide +kernel
theorem dX4_isSteady_55 : decode cX4_isSteady 55 = .ok (.iaload, 1) := by decide +kernel
theorem dX4_isSteady_56 : decode cX4_isSteady 56 = .ok (.aload_n 0, 1) := by decide +kernel
theorem dX4_isSteady_57 : decode cX4_isSteady 57 = .ok (.getfield 39, 3) := by decide +kernel
theorem dX4_isSteady_60 : decode cX4_isSteady 60 = .ok (.iload_n 3, 1) := by decide +kernel
theorem dX4_isSteady_61 : decode cX4_isSteady 61 = .ok (.iaload, 1) := by decide +kernel
theorem dX4_isSteady_62 : decode cX4_isSteady 62 = .ok (.imul, 1) := by decide +kernel
theorem dX4_isSteady_63 : decode cX4_isSteady 63 = .ok (.isub, 1) := by decide +kernel
theorem dX4_isSteady_64 : decode cX4_isSteady 64 = .ok (.istore 5, 2) := by decide +kernel
theorem dX4_isSteady_66 : decode cX4_isSteady 66 = .ok (.aload_n 0, 1) := by decide +kernel
theorem dX4_isSteady_67 : decode cX4_isSteady 67 = .ok (.getfield 36, 3) := by decide +kernel
theorem dX4_isSteady_70 : decode cX4_isSteady 70 = .ok (.iload 4, 2) := by decide +kernel
theorem dX4_isSteady_72 : decode cX4_isSteady 72 = .ok (.iaload, 1) := by decide +kernel
theorem dX4_isSteady_73 : decode cX4_isSteady 73 = .ok (.aload_n 0, 1) := by decide +kernel
theorem dX4_isSteady_74 : decode cX4_isSteady 74 = .ok (.getfield 15, 3) := by decide +kernel
theorem dX4_isSteady_77 : decode cX4_isSteady 77 = .ok (.iload_n 1, 1) := by decide +kernel
theorem dX4_isSteady_78 : decode cX4_isSteady 78 = .ok (.iaload, 1) := by decide +kernel
theorem dX4_isSteady_79 : decode cX4_isSteady 79 = .ok (.isub, 1) := by decide +kernel
theorem dX4_isSteady_80 : decode cX4_isSteady 80 = .ok (.aload_n 0, 1) := by decide +kernel
theorem dX4_isSteady_81 : decode cX4_isSteady 81 = .ok (.getfield 21, 3) := by decide +kernel
theorem dX4_isSteady_84 : decode cX4_isSteady 84 = .ok (.iload_n 1, 1) := by decide +kernel
theorem dX4_isSteady_85 : decode cX4_isSteady 85 = .ok (.iaload, 1) := by decide +kernel
theorem dX4_isSteady_86 : decode cX4_isSteady 86 = .ok (.imul, 1) := by decide +kernel
theorem dX4_isSteady_87 : decode cX4_isSteady 87 = .ok (.aload_n 0, 1) := by decide +kernel
theorem dX4_isSteady_88 : decode cX4_isSteady 88 = .ok (.getfield 27, 3) := by decide +kernel
theorem dX4_isSteady_91 : decode cX4_isSteady 91 = .ok (.iload_n 1, 1) := by decide +kernel
theorem dX4_isSteady_92 : decode cX4_isSteady 92 = .ok (.iaload, 1) := by decide +kernel
theorem dX4_isSteady_93 : decode cX4_isSteady 93 = .ok (.aload_n 0, 1) := by decide +kernel
theorem dX4_isSteady_94 : decode cX4_isSteady 94 = .ok (.getfield 39, 3) := by decide +kernel
theorem dX4_isSteady_97 : decode cX4_isSteady 97 = .ok (.iload_n 3, 1) := by decide +kernel
theorem dX4_isSteady_98 : decode cX4_isSteady 98 = .ok (.iaload, 1) := by decide +kernel
theorem dX4_isSteady_99 : decode cX4_isSteady 99 = .ok (.imul, 1) := by decide +kernel
theorem dX4_isSteady_100 : decode cX4_isSteady 100 = .ok (.isub, 1) := by decide +kernel
theorem dX4_isSteady_101 : decode cX4_isSteady 101 = .ok (.istore 6, 2) := by decide +kernel
theorem dX4_isSteady_103 : decode cX4_isSteady 103 = .ok (.iload 5, 2) := by decide +kernel
theorem dX4_isSteady_105 : decode cX4_isSteady 105 = .ok (.iload 6, 2) := by decide +kernel
theorem dX4_isSteady_107 : decode cX4_isSteady 107 = .ok (.invokestatic 93, 3) := by decide +kernel
theorem dX4_isSteady_110 : decode cX4_isSteady 110 = .ok (.iload_n 2, 1) := by decide +kernel
theorem dX4_isSteady_111 : decode cX4_isSteady 111 = .ok (.aload_n 0, 1) := by decide +kernel
theorem dX4_isSteady_112 : decode cX4_isSteady 112 = .ok (.getfield 21, 3) := by decide +kernel
theorem dX4_isSteady_115 : decode cX4_isSteady 115 = .ok (.iload_n 1, 1) := by decide +kernel
theorem dX4_isSteady_116 : decode cX4_isSteady 116 = .ok (.iaload, 1) := by decide +kernel
theorem dX4_isSteady_117 : decode cX4_isSteady 117 = .ok (.imul, 1) := by decide +kernel
theorem dX4_isSteady_118 : decode cX4_isSteady 118 = .ok (.if_icmp .le 5, 3) := by decide +kernel
theorem dX4_isSteady_121 : decode cX4_isSteady 121 = .ok (.iconst 0, 1) := by decide +kernel
theorem dX4_isSteady_122 : decode cX4_isSteady 122 = .ok (.ireturn, 1) := by decide +kernel
theorem dX4_isSteady_123 : decode cX4_isSteady 123 = .ok (.iinc 3 1, 3) := by decide +kernel
theorem dX4_isSteady_126 : decode cX4_isSteady 126 = .ok (.goto (-124), 3) := by decide +kernel
theorem dX4_isSteady_129 : decode cX4_isSteady 129 = .ok (.iconst 1, 1) := by decide +kernel
theorem dX4_isSteady_130 : decode cX4_isSteady 130 = .ok (.ireturn, 1) := by decide +kernel
theorem dX4_firstTogetherWith_0 : decode cX4_firstTogetherWith 0 = .ok (.aload_n 0, 1) := by decide +kernel
theorem dX4_firstTogetherWith_1 : decode cX4_firstTogetherWith 1 = .ok (.iload_n 1, 1) := by decide +kernel
theorem dX4_firstTogetherWith_2 : decode cX4_firstTogetherWith 2 = .ok (.invokevirtual 90, 3) := by decide +kernel
theorem dX4_firstTogetherWith_5 : decode cX4_firstTogetherWith 5 = .ok (.ifCond .eq 5, 3) := by decide +kernel
theorem dX4_firstTogetherWith_8 : decode cX4_firstTogetherWith 8 = .ok (.iconst (-1), 1) := by decide +kernel
theorem dX4_firstTogetherWith_9 : decode cX4_firstTogetherWith 9 = .ok (.ireturn, 1) := by decide +kernel
theorem dX4_firstTogetherWith_10 : decode cX4_firstTogetherWith 10 = .ok (.iconst 0, 1) := by decide +kernel
theorem dX4_firstTogetherWith_11 : decode cX4_firstTogetherWith 11 = .ok (.istore_n 2, 1) := by decide +kernel
theorem dX4_firstTogetherWith_12 : decode cX4_firstTogetherWith 12 = .ok (.iload_n 2, 1) := by decide +kernel
theorem dX4_firstTogetherWith_13 : decode cX4_firstTogetherWith 13 = .ok (.aload_n 0, 1) := by decide +kernel
theorem dX4_firstTogetherWith_14 : decode cX4_firstTogetherWith 14 = .ok (.getfield 48, 3) := by decide +kernel
theorem dX4_firstTogetherWith_17 : decode cX4_firstTogetherWith 17 = .ok (.if_icmp .ge 82, 3) := by decide +kernel
theorem dX4_firstTogetherWith_20 : decode cX4_firstTogetherWith 20 = .ok (.iload_n 2, 1) := by decide +kernel
theorem dX4_firstTogetherWith_21 : decode cX4_firstTogetherWith 21 = .ok (.iload_n 1, 1) := by decide +kernel
theorem dX4_firstTogetherWith_22 : decode cX4_firstTogetherWith 22 = .ok (.if_icmp .eq 71, 3) := by decide +kernel
theorem dX4_firstTogetherWith_25 : decode cX4_firstTogetherWith 25 = .ok (.aload_n 0, 1) := by decide +kernel
theorem dX4_firstTogetherWith_26 : decode cX4_firstTogetherWith 26 = .ok (.iload_n 2, 1) := by decide +kernel
theorem dX4_firstTogetherWith_27 : decode cX4_firstTogetherWith 27 = .ok (.invokevirtual 86, 3) := by decide +kernel
theorem dX4_firstTogetherWith_30 : decode cX4_firstTogetherWith 30 = .ok (.ifCond .eq 63, 3) := by decide +kernel
theorem dX4_firstTogetherWith_33 : decode cX4_firstTogetherWith 33 = .ok (.aload_n 0, 1) := by decide +kernel
theorem dX4_firstTogetherWith_34 : decode cX4_firstTogetherWith 34 = .ok (.getfield 24, 3) := by decide +kernel
theorem dX4_firstTogetherWith_37 : decode cX4_firstTogetherWith 37 = .ok (.iload_n 2, 1) := by decide +kernel
theorem dX4_firstTogetherWith_38 : decode cX4_firstTogetherWith 38 = .ok (.iaload, 1) := by decide +kernel
theorem dX4_firstTogetherWith_39 : decode cX4_firstTogetherWith 39 = .ok (.aload_n 0, 1) := by decide +kernel
theorem dX4_firstTogetherWith_40 : decode cX4_firstTogetherWith 40 = .ok (.getfield 21, 3) := by decide +kernel
theorem dX4_firstTogetherWith_43 : decode cX4_firstTogetherWith 43 = .ok (.iload_n 1, 1) := by decide +kernel
theorem dX4_firstTogetherWith_44 : decode cX4_firstTogetherWith 44 = .ok (.iaload, 1) := by decide +kernel
theorem dX4_firstTogetherWith_45 : decode cX4_firstTogetherWith 45 = .ok (.imul, 1) := by decide +kernel
theorem dX4_firstTogetherWith_46 : decode cX4_firstTogetherWith 46 = .ok (.aload_n 0, 1) := by decide +kernel
theorem dX4_firstTogetherWith_47 : decode cX4_firstTogetherWith 47 = .ok (.getfield 24, 3) := by decide +kernel
theorem dX4_firstTogetherWith_50 : decode cX4_firstTogetherWith 50 = .ok (.iload_n 1, 1) := by decide +kernel
theorem dX4_firstTogetherWith_51 : decode cX4_firstTogetherWith 51 = .ok (.iaload, 1) := by decide +kernel
theorem dX4_firstTogetherWith_52 : decode cX4_firstTogetherWith 52 = .ok (.aload_n 0, 1) := by decide +kernel
theorem dX4_firstTogetherWith_53 : decode cX4_firstTogetherWith 53 = .ok (.getfield 21, 3) := by decide +kernel
theorem dX4_firstTogetherWith_56 : decode cX4_firstTogetherWith 56 = .ok (.iload_n 2, 1) := by decide +kernel
theorem dX4_firstTogetherWith_57 : decode cX4_firstTogetherWith 57 = .ok (.iaload, 1) := by decide +kernel
theorem dX4_firstTogetherWith_58 : decode cX4_firstTogetherWith 58 = .ok (.imul, 1) := by decide +kernel
theorem dX4_firstTogetherWith_59 : decode cX4_firstTogetherWith 59 = .ok (.if_icmp .ne 34, 3) := by decide +kernel
theorem dX4_firstTogetherWith_62 : decode cX4_firstTogetherWith 62 = .ok (.aload_n 0, 1) := by decide +kernel
theorem dX4_firstTogetherWith_63 : decode cX4_firstTogetherWith 63 = .ok (.getfield 27, 3) := by decide +kernel
theorem dX4_firstTogetherWith_66 : decode cX4_firstTogetherWith 66 = .ok (.iload_n 2, 1) := by decide +kernel
theorem dX4_firstTogetherWith_67 : decode cX4_firstTogetherWith 67 = .ok (.iaload, 1) := by decide +kernel
theorem dX4_firstTogetherWith_68 : decode cX4_firstTogetherWith 68 = .ok (.aload_n 0, 1) := by decide +kernel
theorem dX4_firstTogetherWith_69 : decode cX4_firstTogetherWith 69 = .ok (.getfield 21, 3) := by decide +kernel
theorem dX4_firstTogetherWith_72 : decode cX4_firstTogetherWith 72 = .ok (.iload_n 1, 1) := by decide +kernel
theorem dX4_firstTogetherWith_73 : decode cX4_firstTogetherWith 73 = .ok (.iaload, 1) := by decide +kernel
theorem dX4_firstTogetherWith_74 : decode cX4_firstTogetherWith 74 = .ok (.imul, 1) := by decide +kernel
theorem dX4_firstTogetherWith_75 : decode cX4_firstTogetherWith 75 = .ok (.aload_n 0, 1) := by decide +kernel
theorem dX4_firstTogetherWith_76 : decode cX4_firstTogetherWith 76 = .ok (.getfield 27, 3) := by decide +kernel
theorem dX4_firstTogetherWith_79 : decode cX4_firstTogetherWith 79 = .ok (.iload_n 1, 1) := by decide +kernel
theorem dX4_firstTogetherWith_80 : decode cX4_firstTogetherWith 80 = .ok (.iaload, 1) := by decide +kernel
theorem dX4_firstTogetherWith_81 : decode cX4_firstTogetherWith 81 = .ok (.aload_n 0, 1) := by decide +kernel
theorem dX4_firstTogetherWith_82 : decode cX4_firstTogetherWith 82 = .ok (.getfield 21, 3) := by decide +kernel
theorem dX4_firstTogetherWith_85 : decode cX4_firstTogetherWith 85 = .ok (.iload_n 2, 1) := by decide +kernel
theorem dX4_firstTogetherWith_86 : decode cX4_firstTogetherWith 86 = .ok (.iaload, 1) := by decide +kernel
theorem dX4_firstTogetherWith_87 : decode cX4_firstTogetherWith 87 = .ok (.imul, 1) := by decide +kernel
theorem dX4_firstTogetherWith_88 : decode cX4_firstTogetherWith 88 = .ok (.if_icmp .ne 5, 3) := by decide +kernel
theorem dX4_firstTogetherWith_91 : decode cX4_firstTogetherWith 91 = .ok (.iload_n 2, 1) := by decide +kernel
theorem dX4_firstTogetherWith_92 : decode cX4_firstTogetherWith 92 = .ok (.ireturn, 1) := by decide +kernel
theorem dX4_firstTogetherWith_93 : decode cX4_firstTogetherWith 93 = .ok (.iinc 2 1, 3) := by decide +kernel
theorem dX4_firstTogetherWith_96 : decode cX4_firstTogetherWith 96 = .ok (.goto (-84), 3) := by decide +kernel
theorem dX4_firstTogetherWith_99 : decode cX4_firstTogetherWith 99 = .ok (.iconst (-1), 1) := by decide +kernel
theorem dX4_firstTogetherWith_100 : decode cX4_firstTogetherWith 100 = .ok (.ireturn, 1) := by decide +kernel
theorem dX5_init_0 : decode cX5_init 0 = .ok (.aload_n 0, 1) := by decide +kernel
theorem dX5_init_1 : decode cX5_init 1 = .ok (.invokespecial 3, 3) := by decide +kernel
theorem dX5_init_4 : decode cX5_init 4 = .ok (.aload_n 0, 1) := by decide +kernel
theorem dX5_init_5 : decode cX5_init 5 = .ok (.iconst 5, 1) := by decide +kernel
theorem dX5_init_6 : decode cX5_init 6 = .ok (.anewarray 9, 3) := by decide +kernel
theorem dX5_init_9 : decode cX5_init 9 = .ok (.putfield 11, 3) := by decide +kernel
theorem dX5_init_12 : decode cX5_init 12 = .ok (.iconst 0, 1) := by decide +kernel
theorem dX5_init_13 : decode cX5_init 13 = .ok (.istore_n 1, 1) := by decide +kernel
theorem dX5_init_14 : decode cX5_init 14 = .ok (.iload_n 1, 1) := by decide +kernel
theorem dX5_init_15 : decode cX5_init 15 = .ok (.iconst 5, 1) := by decide +kernel
theorem dX5_init_16 : decode cX5_init 16 = .ok (.if_icmp .ge 22, 3) := by decide +kernel
theorem dX5_init_19 : decode cX5_init 19 = .ok (.aload_n 0, 1) := by decide +kernel
theorem dX5_init_20 : decode cX5_init 20 = .ok (.getfield 11, 3) := by decide +kernel
theorem dX5_init_23 : decode cX5_init 23 = .ok (.iload_n 1, 1) := by decide +kernel
theorem dX5_init_24 : decode cX5_init 24 = .ok (.new 9, 3) := by decide +kernel
theorem dX5_init_27 : decode cX5_init 27 = .ok (.dup, 1) := by decide +kernel
theorem dX5_init_28 : decode cX5_init 28 = .ok (.invokespecial 15, 3) := by decide +kernel
theorem dX5_init_31 : decode cX5_init 31 = .ok (.aastore, 1) := by decide +kernel
theorem dX5_init_32 : decode cX5_init 32 = .ok (.iinc 1 1, 3) := by decide +kernel
theorem dX5_init_35 : decode cX5_init 35 = .ok (.goto (-21), 3) := by decide +kernel
theorem dX5_init_38 : decode cX5_init 38 = .ok (.aload_n 0, 1) := by decide +kernel
theorem dX5_init_39 : decode cX5_init 39 = .ok (.bipush 25, 2) := by decide +kernel
theorem dX5_init_41 : decode cX5_init 41 = .ok (.anewarray 16, 3) := by decide +kernel
theorem dX5_init_44 : decode cX5_init 44 = .ok (.putfield 18, 3) := by decide +kernel
theorem dX5_init_47 : decode cX5_init 47 = .ok (.iconst 0, 1) := by decide +kernel
theorem dX5_init_48 : decode cX5_init 48 = .ok (.istore_n 1, 1) := by decide +kernel
theorem dX5_init_49 : decode cX5_init 49 = .ok (.iload_n 1, 1) := by decide +kernel
theorem dX5_init_50 : decode cX5_init 50 = .ok (.bipush 25, 2) := by decide +kernel
theorem dX5_init_52 : decode cX5_init 52 = .ok (.if_icmp .ge 22, 3) := by decide +kernel
theorem dX5_init_55 : decode cX5_init 55 = .ok (.aload_n 0, 1) := by decide +kernel
theorem dX5_init_56 : decode cX5_init 56 = .ok (.getfield 18, 3) := by decide +kernel
theorem dX5_init_59 : decode cX5_init 59 = .ok (.iload_n 1, 1) := by decide +kernel
theorem dX5_init_60 : decode cX5_init 60 = .ok (.new 16, 3) := by decide +kernel
theorem dX5_init_63 : decode cX5_init 63 = .ok (.dup, 1) := by decide +kernel
theorem dX5_init_64 : decode cX5_init 64 = .ok (.invokespecial 22, 3) := by decide +kernel
theorem dX5_init_67 : decode cX5_init 67 = .ok (.aastore, 1) := by decide +kernel
theorem dX5_init_68 : decode cX5_init 68 = .ok (.iinc 1 1, 3) := by decide +kernel
theorem dX5_init_71 : decode cX5_init 71 = .ok (.goto (-22), 3) := by decide +kernel
theorem dX5_init_74 : decode cX5_init 74 = .ok (.aload_n 0, 1) := by decide +kernel
theorem dX5_init_75 : decode cX5_init 75 = .ok (.new 23, 3) := by decide +kernel
theorem dX5_init_78 : decode cX5_init 78 = .ok (.dup, 1) := by decide +kernel
theorem dX5_init_79 : decode cX5_init 79 = .ok (.invokespecial 25, 3) := by decide +kernel
theorem dX5_init_82 : decode cX5_init 82 = .ok (.putfield 26, 3) := by decide +kernel
theorem dX5_init_85 : decode cX5_init 85 = .ok (.aload_n 0, 1) := by decide +kernel
theorem dX5_init_86 : decode cX5_init 86 = .ok (.new 30, 3) := by decide +kernel
theorem dX5_init_89 : decode cX5_init 89 = .ok (.dup, 1) := by decide +kernel
theorem dX5_init_90 : decode cX5_init 90 = .ok (.invokespecial 32, 3) := by decide +kernel
theorem dX5_init_93 : decode cX5_init 93 = .ok (.putfield 33, 3) := by decide +kernel
theorem dX5_init_96 : decode cX5_init 96 = .ok (.aload_n 0, 1) := by decide +kernel
theorem dX5_init_97 : decode cX5_init 97 = .ok (.iconst 0, 1) := by decide +kernel
theorem dX5_init_98 : decode cX5_init 98 = .ok (.putfield 37, 3) := by decide +kernel
theorem dX5_init_101 : decode cX5_init 101 = .ok (.aload_n 0, 1) := by decide +kernel
theorem dX5_init_102 : decode cX5_init 102 = .ok (.iconst 0, 1) := by decide +kernel
theorem dX5_init_103 : decode cX5_init 103 = .ok (.putfield 41, 3) := by decide +kernel
theorem dX5_init_106 : decode cX5_init 106 = .ok (.aload_n 0, 1) := by decide +kernel
theorem dX5_init_107 : decode cX5_init 107 = .ok (.iconst (-1), 1) := by decide +kernel
theorem dX5_init_108 : decode cX5_init 108 = .ok (.putfield 45, 3) := by decide +kernel
theorem dX5_init_111 : decode cX5_init 111 = .ok (.aload_n 0, 1) := by decide +kernel
theorem dX5_init_112 : decode cX5_init 112 = .ok (.iconst 3, 1) := by decide +kernel
theorem dX5_init_113 : decode cX5_init 113 = .ok (.putfield 48, 3) := by decide +kernel
theorem dX5_init_116 : decode cX5_init 116 = .ok (.return_, 1) := by decide +kernel
theorem dX5_plate_0 : decode cX5_plate 0 = .ok (.iload_n 1, 1) := by decide +kernel
theorem dX5_plate_1 : decode cX5_plate 1 = .ok (.ifCond .lt 26, 3) := by decide +kernel
theorem dX5_plate_4 : decode cX5_plate 4 = .ok (.iload_n 1, 1) := by decide +kernel
theorem dX5_plate_5 : decode cX5_plate 5 = .ok (.sipush 999, 3) := by decide +kernel
theorem dX5_plate_8 : decode cX5_plate 8 = .ok (.if_icmp .gt 19, 3) := by decide +kernel
theorem dX5_plate_11 : decode cX5_plate 11 = .ok (.aload_n 0, 1) := by decide +kernel
theorem dX5_plate_12 : decode cX5_plate 12 = .ok (.getfield 41, 3) := by decide +kernel
theorem dX5_plate_15 : decode cX5_plate 15 = .ok (.iconst 5, 1) := by decide +kernel
theorem dX5_plate_16 : decode cX5_plate 16 = .ok (.if_icmp .ge 11, 3) := by decide +kernel
theorem dX5_plate_19 : decode cX5_plate 19 = .ok (.aload_n 0, 1) := by decide +kernel
theorem dX5_plate_20 : decode cX5_plate 20 = .ok (.iload_n 1, 1) := by decide +kernel
theorem dX5_plate_21 : decode cX5_plate 21 = .ok (.invokevirtual 51, 3) := by decide +kernel
theorem dX5_plate_24 : decode cX5_plate 24 = .ok (.ifCond .eq 5, 3) := by decide +kernel
theorem dX5_plate_27 : decode cX5_plate 27 = .ok (.iconst (-1), 1) := by decide +kernel
theorem dX5_plate_28 : decode cX5_plate 28 = .ok (.ireturn, 1) := by decide +kernel
theorem dX5_plate_29 : decode cX5_plate 29 = .ok (.aload_n 0, 1) := by decide +kernel
theorem dX5_plate_30 : decode cX5_plate 30 = .ok (.getfield 41, 3) := by decide +kernel
theorem dX5_plate_33 : decode cX5_plate 33 = .ok (.istore_n 2, 1) := by decide +kernel
theorem dX5_plate_34 : decode cX5_plate 34 = .ok (.aload_n 0, 1) := by decide +kernel
theorem dX5_plate_35 : decode cX5_plate 35 = .ok (.getfield 11, 3) := by decide +kernel
theorem dX5_plate_38 : decode cX5_plate 38 = .ok (.iload_n 2, 1) := by decide +kernel
theorem dX5_plate_39 : decode cX5_plate 39 = .ok (.aaload, 1) := by decide +kernel
theorem dX5_plate_40 : decode cX5_plate 40 = .ok (.iload_n 1, 1) := by decide +kernel
theorem dX5_plate_41 : decode cX5_plate 41 = .ok (.putfield 55, 3) := by decide +kernel
theorem dX5_plate_44 : decode cX5_plate 44 = .ok (.aload_n 0, 1) := by decide +kernel
theorem dX5_plate_45 : decode cX5_plate 45 = .ok (.dup, 1) := by decide +kernel
theorem dX5_plate_46 : decode cX5_plate 46 = .ok (.getfield 41, 3) := by decide +kernel
theorem dX5_plate_49 : decode cX5_plate 49 = .ok (.iconst 1, 1) := by decide +kernel
theorem dX5_plate_50 : decode cX5_plate 50 = .ok (.iadd, 1) := by decide +kernel
theorem dX5_plate_51 : decode cX5_plate 51 = .ok (.putfield 41, 3) := by decide +kernel
theorem dX5_plate_54 : decode cX5_plate 54 = .ok (.aload_n 0, 1) := by decide +kernel
theorem dX5_plate_55 : decode cX5_plate 55 = .ok (.getfield 45, 3) := by decide +kernel
theorem dX5_plate_58 : decode cX5_plate 58 = .ok (.iconst (-1), 1) := by decide +kernel
theorem dX5_plate_59 : decode cX5_plate 59 = .ok (.if_icmp .eq 19, 3) := by decide +kernel
theorem dX5_plate_62 : decode cX5_plate 62 = .ok (.iload_n 1, 1) := by decide +kernel
theorem dX5_plate_63 : decode cX5_plate 63 = .ok (.aload_n 0, 1) := by decide +kernel
theorem dX5_plate_64 : decode cX5_plate 64 = .ok (.getfield 11, 3) := by decide +kernel
theorem dX5_plate_67 : decode cX5_plate 67 = .ok (.aload_n 0, 1) := by decide +kernel
theorem dX5_plate_68 : decode cX5_plate 68 = .ok (.getfield 45, 3) := by decide +kernel
theorem dX5_plate_71 : decode cX5_plate 71 = .ok (.aaload, 1) := by decide +kernel
theorem dX5_plate_72 : decode cX5_plate 72 = .ok (.getfield 55, 3) := by decide +kernel
theorem dX5_plate_75 : decode cX5_plate 75 = .ok (.if_icmp .ge 8, 3) := by decide +kernel
theorem dX5_plate_78 : decode cX5_plate 78 = .ok (.aload_n 0, 1) := by decide +kernel
theorem dX5_plate_79 : decode cX5_plate 79 = .ok (.iload_n 2, 1) := by decide +kernel
theorem dX5_plate_80 : decode cX5_plate 80 = .ok (.putfield 45, 3) := by decide +kernel
theorem dX5_plate_83 : decode cX5_plate 83 = .ok (.aload_n 0, 1) := by decide +kernel
theorem dX5_plate_84 : decode cX5_plate 84 = .ok (.iconst 0, 1) := by decide +kernel
theorem dX5_plate_85 : decode cX5_plate 85 = .ok (.putfield 37, 3) := by decide +kernel
theorem dX5_plate_88 : decode cX5_plate 88 = .ok (.iload_n 2, 1) := by decide +kernel
theorem dX5_plate_89 : decode cX5_plate 89 = .ok (.ireturn, 1) := by decide +kernel
theorem dX5_spot_0 : decode cX5_spot 0 = .ok (.aload_n 0, 1) := by decide +kernel
theorem dX5_spot_1 : decode cX5_spot 1 = .ok (.iload_n 1, 1) := by decide +kernel
theorem dX5_spot_2 : decode cX5_spot 2 = .ok (.invokevirtual 58, 3) := by decide +kernel
theorem dX5_spot_5 : decode cX5_spot 5 = .ok (.ifCond .eq 17, 3) := by decide +kernel
theorem dX5_spot_8 : decode cX5_spot 8 = .ok (.iload_n 2, 1) := by decide +kernel
theorem dX5_spot_9 : decode cX5_spot 9 = .ok (.invokestatic 61, 3) := by decide +kernel
theorem dX5_spot_12 : decode cX5_spot 12 = .ok (.ifCond .eq 10, 3) := by decide +kernel
theorem dX5_spot_15 : decode cX5_spot 15 = .ok (.iload_n 3, 1) := by decide +kernel
theorem dX5_spot_16 : decode cX5_spot 16 = .ok (.invokestatic 61, 3) := by decide +kernel
theorem dX5_spot_19 : decode cX5_spot 19 = .ok (.ifCond .ne 5, 3) := by decide +kernel
theorem dX5_spot_22 : decode cX5_spot 22 = .ok (.iconst (-1), 1) := by decide +kernel
theorem dX5_spot_23 : decode cX5_spot 23 = .ok (.ireturn, 1) := by decide +kernel
theorem dX5_spot_24 : decode cX5_spot 24 = .ok (.aload_n 0, 1) := by decide +kernel
theorem dX5_spot_25 : decode cX5_spot 25 = .ok (.getfield 11, 3) := by decide +kernel
theorem dX5_spot_28 : decode cX5_spot 28 = .ok (.iload_n 1, 1) := by decide +kernel
theorem dX5_spot_29 : decode cX5_spot 29 = .ok (.aaload, 1) := by decide +kernel
theorem dX5_spot_30 : decode cX5_spot 30 = .ok (.iload_n 2, 1) := by decide +kernel
theorem dX5_spot_31 : decode cX5_spot 31 = .ok (.iload_n 3, 1) := by decide +kernel
theorem dX5_spot_32 : decode cX5_spot 32 = .ok (.invokevirtual 64, 3) := by decide +kernel
theorem dX5_spot_35 : decode cX5_spot 35 = .ok (.istore 4, 2) := by decide +kernel
theorem dX5_spot_37 : decode cX5_spot 37 = .ok (.iload 4, 2) := by decide +kernel
theorem dX5_spot_39 : decode cX5_spot 39 = .ok (.iconst (-1), 1) := by decide +kernel
theorem dX5_spot_40 : decode cX5_spot 40 = .ok (.if_icmp .eq 8, 3) := by decide +kernel
theorem dX5_spot_43 : decode cX5_spot 43 = .ok (.aload_n 0, 1) := by decide +kernel
theorem dX5_spot_44 : decode cX5_spot 44 = .ok (.iload_n 1, 1) := by decide +kernel
theorem dX5_spot_45 : decode cX5_spot 45 = .ok (.invokevirtual 68, 3) := by decide +kernel
theorem dX5_spot_48 : decode cX5_spot 48 = .ok (.iload 4, 2) := by decide +kernel
theorem dX5_spot_50 : decode cX5_spot 50 = .ok (.ireturn, 1) := by decide +kernel
theorem dX5_wipe_0 : decode cX5_wipe 0 = .ok (.aload_n 0, 1) := by decide +kernel
theorem dX5_wipe_1 : decode cX5_wipe 1 = .ok (.iload_n 1, 1) := by decide +kernel
theorem dX5_wipe_2 : decode cX5_wipe 2 = .ok (.iload_n 2, 1) := by decide +kernel
theorem dX5_wipe_3 : decode cX5_wipe 3 = .ok (.invokevirtual 72, 3) := by decide +kernel
theorem dX5_wipe_6 : decode cX5_wipe 6 = .ok (.ifCond .ne 5, 3) := by decide +kernel
theorem dX5_wipe_9 : decode cX5_wipe 9 = .ok (.iconst 0, 1) := by decide +kernel
theorem dX5_wipe_10 : decode cX5_wipe 10 = .ok (.ireturn, 1) := by decide +kernel
theorem dX5_wipe_11 : decode cX5_wipe 11 = .ok (.aload_n 0, 1) := by decide +kernel
theorem dX5_wipe_12 : decode cX5_wipe 12 = .ok (.getfield 11, 3) := by decide +kernel
theorem dX5_wipe_15 : decode cX5_wipe 15 = .ok (.iload_n 1, 1) := by decide +kernel
theorem dX5_wipe_16 : decode cX5_wipe 16 = .ok (.aaload, 1) := by decide +kernel
theorem dX5_wipe_17 : decode cX5_wipe 17 = .ok (.iload_n 2, 1) := by decide +kernel
theorem dX5_wipe_18 : decode cX5_wipe 18 = .ok (.invokevirtual 76, 3) := by decide +kernel
theorem dX5_wipe_21 : decode cX5_wipe 21 = .ok (.aload_n 0, 1) := by decide +kernel
theorem dX5_wipe_22 : decode cX5_wipe 22 = .ok (.iload_n 1, 1) := by decide +kernel
theorem dX5_wipe_23 : decode cX5_wipe 23 = .ok (.invokevirtual 68, 3) := by decide +kernel
theorem dX5_wipe_26 : decode cX5_wipe 26 = .ok (.iconst 1, 1) := by decide +kernel
theorem dX5_wipe_27 : decode cX5_wipe 27 = .ok (.ireturn, 1) := by decide +kernel
theorem dX5_reach_0 : decode cX5_reach 0 = .ok (.iload_n 1, 1) := by decide +kernel
theorem dX5_reach_1 : decode cX5_reach 1 = .ok (.ifCond .lt 9, 3) := by decide +kernel
theorem dX5_reach_4 : decode cX5_reach 4 = .ok (.iload_n 1, 1) := by decide +kernel
theorem dX5_reach_5 : decode cX5_reach 5 = .ok (.bipush 50, 2) := by decide +kernel
theorem dX5_reach_7 : decode cX5_reach 7 = .ok (.if_icmp .le 5, 3) := by decide +kernel
theorem dX5_reach_10 : decode cX5_reach 10 = .ok (.iconst 0, 1) := by decide +kernel
theorem dX5_reach_11 : decode cX5_reach 11 = .ok (.ireturn, 1) := by decide +kernel
theorem dX5_reach_12 : decode cX5_reach 12 = .ok (.aload_n 0, 1) := by decide +kernel
theorem dX5_reach_13 : decode cX5_reach 13 = .ok (.iload_n 1, 1) := by decide +kernel
theorem dX5_reach_14 : decode cX5_reach 14 = .ok (.putfield 48, 3) := by decide +kernel
theorem dX5_reach_17 : decode cX5_reach 17 = .ok (.iconst 0, 1) := by decide +kernel
theorem dX5_reach_18 : decode cX5_reach 18 = .ok (.istore_n 2, 1) := by decide +kernel
theorem dX5_reach_19 : decode cX5_reach 19 = .ok (.iload_n 2, 1) := by decide +kernel
theorem dX5_reach_20 : decode cX5_reach 20 = .ok (.aload_n 0, 1) := by decide +kernel
theorem dX5_reach_21 : decode cX5_reach 21 = .ok (.getfield 41, 3) := by decide +kernel
theorem dX5_reach_24 : decode cX5_reach 24 = .ok (.if_icmp .ge 14, 3) := by decide +kernel
theorem dX5_reach_27 : decode cX5_reach 27 = .ok (.aload_n 0, 1) := by decide +kernel
theorem dX5_reach_28 : decode cX5_reach 28 = .ok (.iload_n 2, 1) := by decide +kernel
theorem dX5_reach_29 : decode cX5_reach 29 = .ok (.invokevirtual 68, 3) := by decide +kernel
theorem dX5_reach_32 : decode cX5_reach 32 = .ok (.iinc 2 1, 3) := by decide +kernel
theorem dX5_reach_35 : decode cX5_reach 35 = .ok (.goto (-16), 3) := by decide +kernel
theorem dX5_reach_38 : decode cX5_reach 38 = .ok (.iconst 1, 1) := by decide +kernel
theorem dX5_reach_39 : decode cX5_reach 39 = .ok (.ireturn, 1) := by decide +kernel
theorem dX5_look_0 : decode cX5_look 0 = .ok (.iload_n 1, 1) := by decide +kernel
theorem dX5_look_1 : decode cX5_look 1 = .ok (.tableswitch 83 0 5 #[39, 44, 49, 54, 59, 71], 39) := by decide +kernel
theorem dX5_look_40 : decode cX5_look 40 = .ok (.aload_n 0, 1) := by decide +kernel
theorem dX5_look_41 : decode cX5_look 41 = .ok (.getfield 41, 3) := by decide +kernel
theorem dX5_look_44 : decode cX5_look 44 = .ok (.ireturn, 1) := by decide +kernel
theorem dX5_look_45 : decode cX5_look 45 = .ok (.aload_n 0, 1) := by decide +kernel
theorem dX5_look_46 : decode cX5_look 46 = .ok (.getfield 48, 3) := by decide +kernel
theorem dX5_look_49 : decode cX5_look 49 = .ok (.ireturn, 1) := by decide +kernel
theorem dX5_look_50 : decode cX5_look 50 = .ok (.aload_n 0, 1) := by decide +kernel
theorem dX5_look_51 : decode cX5_look 51 = .ok (.getfield 45, 3) := by decide +kernel
theorem dX5_look_54 : decode cX5_look 54 = .ok (.ireturn, 1) := by decide +kernel
theorem dX5_look_55 : decode cX5_look 55 = .ok (.aload_n 0, 1) := by decide +kernel
theorem dX5_look_56 : decode cX5_look 56 = .ok (.invokevirtual 79, 3) := by decide +kernel
theorem dX5_look_59 : decode cX5_look 59 = .ok (.ireturn, 1) := by decide +kernel
theorem dX5_look_60 : decode cX5_look 60 = .ok (.aload_n 0, 1) := by decide +kernel
theorem dX5_look_61 : decode cX5_look 61 = .ok (.invokevirtual 83, 3) := by decide +kernel
theorem dX5_look_64 : decode cX5_look 64 = .ok (.aload_n 0, 1) := by decide +kernel
theorem dX5_look_65 : decode cX5_look 65 = .ok (.getfield 33, 3) := by decide +kernel
theorem dX5_look_68 : decode cX5_look 68 = .ok (.invokevirtual 86, 3) := by decide +kernel
theorem dX5_look_71 : decode cX5_look 71 = .ok (.ireturn, 1) := by decide +kernel
theorem dX5_look_72 : decode cX5_look 72 = .ok (.aload_n 0, 1) := by decide +kernel
theorem dX5_look_73 : decode cX5_look 73 = .ok (.invokevirtual 83, 3) := by decide +kernel
theorem dX5_look_76 : decode cX5_look 76 = .ok (.aload_n 0, 1) := by decide +kernel
theorem dX5_look_77 : decode cX5_look 77 = .ok (.getfield 33, 3) := by decide +kernel
theorem dX5_look_80 : decode cX5_look 80 = .ok (.getfield 89, 3) := by decide +kernel
theorem dX5_look_83 : decode cX5_look 83 = .ok (.ireturn, 1) := by decide +kernel
theorem dX5_look_84 : decode cX5_look 84 = .ok (.iconst (-1), 1) := by decide +kernel
theorem dX5_look_85 : decode cX5_look 85 = .ok (.ireturn, 1) := by decide +kernel
theorem dX5_of_0 : decode cX5_of 0 = .ok (.aload_n 0, 1) := by decide +kernel
theorem dX5_of_1 : decode cX5_of 1 = .ok (.iload_n 1, 1) := by decide +kernel
theorem dX5_of_2 : decode cX5_of 2 = .ok (.invokevirtual 58, 3) := by decide +kernel
theorem dX5_of_5 : decode cX5_of 5 = .ok (.ifCond .ne 5, 3) := by decide +kernel
theorem dX5_of_8 : decode cX5_of 8 = .ok (.iconst (-1), 1) := by decide +kernel
theorem dX5_of_9 : decode cX5_of 9 = .ok (.ireturn, 1) := by decide +kernel
theorem dX5_of_10 : decode cX5_of 10 = .ok (.aload_n 0, 1) := by decide +kernel
theorem dX5_of_11 : decode cX5_of 11 = .ok (.getfield 11, 3) := by decide +kernel
theorem dX5_of_14 : decode cX5_of 14 = .ok (.iload_n 1, 1) := by decide +kernel
theorem dX5_of_15 : decode cX5_of 15 = .ok (.aaload, 1) := by decide +kernel
theorem dX5_of_16 : decode cX5_of 16 = .ok (.astore_n 3, 1) := by decide +kernel
