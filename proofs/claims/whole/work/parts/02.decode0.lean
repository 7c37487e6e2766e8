theorem dX0_init_0 : decode cX0_init 0 = .ok (.aload_n 0, 1) := by decide +kernel
theorem dX0_init_1 : decode cX0_init 1 = .ok (.invokespecial 3, 3) := by decide +kernel
theorem dX0_init_4 : decode cX0_init 4 = .ok (.aload_n 0, 1) := by decide +kernel
theorem dX0_init_5 : decode cX0_init 5 = .ok (.bipush 64, 2) := by decide +kernel
theorem dX0_init_7 : decode cX0_init 7 = .ok (.newarray .long, 2) := by decide +kernel
theorem dX0_init_9 : decode cX0_init 9 = .ok (.putfield 11, 3) := by decide +kernel
theorem dX0_init_12 : decode cX0_init 12 = .ok (.aload_n 0, 1) := by decide +kernel
theorem dX0_init_13 : decode cX0_init 13 = .ok (.bipush 64, 2) := by decide +kernel
theorem dX0_init_15 : decode cX0_init 15 = .ok (.newarray .int, 2) := by decide +kernel
theorem dX0_init_17 : decode cX0_init 17 = .ok (.putfield 15, 3) := by decide +kernel
theorem dX0_init_20 : decode cX0_init 20 = .ok (.aload_n 0, 1) := by decide +kernel
theorem dX0_init_21 : decode cX0_init 21 = .ok (.bipush 64, 2) := by decide +kernel
theorem dX0_init_23 : decode cX0_init 23 = .ok (.newarray .int, 2) := by decide +kernel
theorem dX0_init_25 : decode cX0_init 25 = .ok (.putfield 19, 3) := by decide +kernel
theorem dX0_init_28 : decode cX0_init 28 = .ok (.aload_n 0, 1) := by decide +kernel
theorem dX0_init_29 : decode cX0_init 29 = .ok (.bipush 64, 2) := by decide +kernel
theorem dX0_init_31 : decode cX0_init 31 = .ok (.newarray .int, 2) := by decide +kernel
theorem dX0_init_33 : decode cX0_init 33 = .ok (.putfield 22, 3) := by decide +kernel
theorem dX0_init_36 : decode cX0_init 36 = .ok (.aload_n 0, 1) := by decide +kernel
theorem dX0_init_37 : decode cX0_init 37 = .ok (.bipush 64, 2) := by decide +kernel
theorem dX0_init_39 : decode cX0_init 39 = .ok (.newarray .int, 2) := by decide +kernel
theorem dX0_init_41 : decode cX0_init 41 = .ok (.putfield 25, 3) := by decide +kernel
theorem dX0_init_44 : decode cX0_init 44 = .ok (.aload_n 0, 1) := by decide +kernel
theorem dX0_init_45 : decode cX0_init 45 = .ok (.bipush 64, 2) := by decide +kernel
theorem dX0_init_47 : decode cX0_init 47 = .ok (.newarray .int, 2) := by decide +kernel
theorem dX0_init_49 : decode cX0_init 49 = .ok (.putfield 28, 3) := by decide +kernel
theorem dX0_init_52 : decode cX0_init 52 = .ok (.aload_n 0, 1) := by decide +kernel
theorem dX0_init_53 : decode cX0_init 53 = .ok (.bipush 8, 2) := by decide +kernel
theorem dX0_init_55 : decode cX0_init 55 = .ok (.newarray .int, 2) := by decide +kernel
theorem dX0_init_57 : decode cX0_init 57 = .ok (.putfield 31, 3) := by decide +kernel
theorem dX0_init_60 : decode cX0_init 60 = .ok (.aload_n 0, 1) := by decide +kernel
theorem dX0_init_61 : decode cX0_init 61 = .ok (.new 34, 3) := by decide +kernel
theorem dX0_init_64 : decode cX0_init 64 = .ok (.dup, 1) := by decide +kernel
theorem dX0_init_65 : decode cX0_init 65 = .ok (.invokespecial 36, 3) := by decide +kernel
theorem dX0_init_68 : decode cX0_init 68 = .ok (.putfield 37, 3) := by decide +kernel
theorem dX0_init_71 : decode cX0_init 71 = .ok (.return_, 1) := by decide +kernel
theorem dX0_fit_0 : decode cX0_fit 0 = .ok (.aload 4, 2) := by decide +kernel
theorem dX0_fit_2 : decode cX0_fit 2 = .ok (.invokevirtual 41, 3) := by decide +kernel
theorem dX0_fit_5 : decode cX0_fit 5 = .ok (.aload_n 0, 1) := by decide +kernel
theorem dX0_fit_6 : decode cX0_fit 6 = .ok (.iload_n 3, 1) := by decide +kernel
theorem dX0_fit_7 : decode cX0_fit 7 = .ok (.putfield 46, 3) := by decide +kernel
theorem dX0_fit_10 : decode cX0_fit 10 = .ok (.iconst 0, 1) := by decide +kernel
theorem dX0_fit_11 : decode cX0_fit 11 = .ok (.istore 5, 2) := by decide +kernel
theorem dX0_fit_13 : decode cX0_fit 13 = .ok (.iload 5, 2) := by decide +kernel
theorem dX0_fit_15 : decode cX0_fit 15 = .ok (.iconst 4, 1) := by decide +kernel
theorem dX0_fit_16 : decode cX0_fit 16 = .ok (.if_icmp .ge 60, 3) := by decide +kernel
theorem dX0_fit_19 : decode cX0_fit 19 = .ok (.iconst 1, 1) := by decide +kernel
theorem dX0_fit_20 : decode cX0_fit 20 = .ok (.istore 6, 2) := by decide +kernel
theorem dX0_fit_22 : decode cX0_fit 22 = .ok (.iload 6, 2) := by decide +kernel
theorem dX0_fit_24 : decode cX0_fit 24 = .ok (.iconst 3, 1) := by decide +kernel
theorem dX0_fit_25 : decode cX0_fit 25 = .ok (.if_icmp .gt 45, 3) := by decide +kernel
theorem dX0_fit_28 : decode cX0_fit 28 = .ok (.aload_n 0, 1) := by decide +kernel
theorem dX0_fit_29 : decode cX0_fit 29 = .ok (.aload_n 1, 1) := by decide +kernel
theorem dX0_fit_30 : decode cX0_fit 30 = .ok (.aload_n 2, 1) := by decide +kernel
theorem dX0_fit_31 : decode cX0_fit 31 = .ok (.iload 5, 2) := by decide +kernel
theorem dX0_fit_33 : decode cX0_fit 33 = .ok (.iload 6, 2) := by decide +kernel
theorem dX0_fit_35 : decode cX0_fit 35 = .ok (.invokevirtual 50, 3) := by decide +kernel
theorem dX0_fit_38 : decode cX0_fit 38 = .ok (.aload_n 0, 1) := by decide +kernel
theorem dX0_fit_39 : decode cX0_fit 39 = .ok (.invokevirtual 54, 3) := by decide +kernel
theorem dX0_fit_42 : decode cX0_fit 42 = .ok (.aload_n 0, 1) := by decide +kernel
theorem dX0_fit_43 : decode cX0_fit 43 = .ok (.invokevirtual 57, 3) := by decide +kernel
theorem dX0_fit_46 : decode cX0_fit 46 = .ok (.aload_n 0, 1) := by decide +kernel
theorem dX0_fit_47 : decode cX0_fit 47 = .ok (.aload_n 1, 1) := by decide +kernel
theorem dX0_fit_48 : decode cX0_fit 48 = .ok (.getfield 60, 3) := by decide +kernel
theorem dX0_fit_51 : decode cX0_fit 51 = .ok (.aload_n 2, 1) := by decide +kernel
theorem dX0_fit_52 : decode cX0_fit 52 = .ok (.getfield 60, 3) := by decide +kernel
theorem dX0_fit_55 : decode cX0_fit 55 = .ok (.iload 5, 2) := by decide +kernel
theorem dX0_fit_57 : decode cX0_fit 57 = .ok (.iload 6, 2) := by decide +kernel
theorem dX0_fit_59 : decode cX0_fit 59 = .ok (.aload 4, 2) := by decide +kernel
theorem dX0_fit_61 : decode cX0_fit 61 = .ok (.invokevirtual 65, 3) := by decide +kernel
theorem dX0_fit_64 : decode cX0_fit 64 = .ok (.iinc 6 1, 3) := by decide +kernel
theorem dX0_fit_67 : decode cX0_fit 67 = .ok (.goto (-45), 3) := by decide +kernel
theorem dX0_fit_70 : decode cX0_fit 70 = .ok (.iinc 5 1, 3) := by decide +kernel
theorem dX0_fit_73 : decode cX0_fit 73 = .ok (.goto (-60), 3) := by decide +kernel
theorem dX0_fit_76 : decode cX0_fit 76 = .ok (.return_, 1) := by decide +kernel
theorem dX0_listShifts_0 : decode cX0_listShifts 0 = .ok (.aload_n 0, 1) := by decide +kernel
theorem dX0_listShifts_1 : decode cX0_listShifts 1 = .ok (.iconst 0, 1) := by decide +kernel
theorem dX0_listShifts_2 : decode cX0_listShifts 2 = .ok (.putfield 69, 3) := by decide +kernel
theorem dX0_listShifts_5 : decode cX0_listShifts 5 = .ok (.iconst 0, 1) := by decide +kernel
theorem dX0_listShifts_6 : decode cX0_listShifts 6 = .ok (.istore 5, 2) := by decide +kernel
theorem dX0_listShifts_8 : decode cX0_listShifts 8 = .ok (.iload 5, 2) := by decide +kernel
theorem dX0_listShifts_10 : decode cX0_listShifts 10 = .ok (.aload_n 2, 1) := by decide +kernel
theorem dX0_listShifts_11 : decode cX0_listShifts 11 = .ok (.getfield 60, 3) := by decide +kernel
theorem dX0_listShifts_14 : decode cX0_listShifts 14 = .ok (.if_icmp .ge 154, 3) := by decide +kernel
theorem dX0_listShifts_17 : decode cX0_listShifts 17 = .ok (.iload 4, 2) := by decide +kernel
theorem dX0_listShifts_19 : decode cX0_listShifts 19 = .ok (.iload_n 3, 1) := by decide +kernel
theorem dX0_listShifts_20 : decode cX0_listShifts 20 = .ok (.aload_n 2, 1) := by decide +kernel
theorem dX0_listShifts_21 : decode cX0_listShifts 21 = .ok (.getfield 72, 3) := by decide +kernel
theorem dX0_listShifts_24 : decode cX0_listShifts 24 = .ok (.iload 5, 2) := by decide +kernel
theorem dX0_listShifts_26 : decode cX0_listShifts 26 = .ok (.iaload, 1) := by decide +kernel
theorem dX0_listShifts_27 : decode cX0_listShifts 27 = .ok (.aload_n 2, 1) := by decide +kernel
theorem dX0_listShifts_28 : decode cX0_listShifts 28 = .ok (.getfield 75, 3) := by decide +kernel
theorem dX0_listShifts_31 : decode cX0_listShifts 31 = .ok (.iload 5, 2) := by decide +kernel
theorem dX0_listShifts_33 : decode cX0_listShifts 33 = .ok (.iaload, 1) := by decide +kernel
theorem dX0_listShifts_34 : decode cX0_listShifts 34 = .ok (.invokestatic 78, 3) := by decide +kernel
theorem dX0_listShifts_37 : decode cX0_listShifts 37 = .ok (.imul, 1) := by decide +kernel
theorem dX0_listShifts_38 : decode cX0_listShifts 38 = .ok (.istore 6, 2) := by decide +kernel
theorem dX0_listShifts_40 : decode cX0_listShifts 40 = .ok (.iload 4, 2) := by decide +kernel
theorem dX0_listShifts_42 : decode cX0_listShifts 42 = .ok (.iload_n 3, 1) := by decide +kernel
theorem dX0_listShifts_43 : decode cX0_listShifts 43 = .ok (.aload_n 2, 1) := by decide +kernel
theorem dX0_listShifts_44 : decode cX0_listShifts 44 = .ok (.getfield 72, 3) := by decide +kernel
theorem dX0_listShifts_47 : decode cX0_listShifts 47 = .ok (.iload 5, 2) := by decide +kernel
theorem dX0_listShifts_49 : decode cX0_listShifts 49 = .ok (.iaload, 1) := by decide +kernel
theorem dX0_listShifts_50 : decode cX0_listShifts 50 = .ok (.aload_n 2, 1) := by decide +kernel
theorem dX0_listShifts_51 : decode cX0_listShifts 51 = .ok (.getfield 75, 3) := by decide +kernel
theorem dX0_listShifts_54 : decode cX0_listShifts 54 = .ok (.iload 5, 2) := by decide +kernel
theorem dX0_listShifts_56 : decode cX0_listShifts 56 = .ok (.iaload, 1) := by decide +kernel
theorem dX0_listShifts_57 : decode cX0_listShifts 57 = .ok (.invokestatic 82, 3) := by decide +kernel
theorem dX0_listShifts_60 : decode cX0_listShifts 60 = .ok (.imul, 1) := by decide +kernel
theorem dX0_listShifts_61 : decode cX0_listShifts 61 = .ok (.istore 7, 2) := by decide +kernel
theorem dX0_listShifts_63 : decode cX0_listShifts 63 = .ok (.iconst 0, 1) := by decide +kernel
theorem dX0_listShifts_64 : decode cX0_listShifts 64 = .ok (.istore 8, 2) := by decide +kernel
theorem dX0_listShifts_66 : decode cX0_listShifts 66 = .ok (.iload 8, 2) := by decide +kernel
theorem dX0_listShifts_68 : decode cX0_listShifts 68 = .ok (.aload_n 1, 1) := by decide +kernel
theorem dX0_listShifts_69 : decode cX0_listShifts 69 = .ok (.getfield 60, 3) := by decide +kernel
theorem dX0_listShifts_72 : decode cX0_listShifts 72 = .ok (.if_icmp .ge 90, 3) := by decide +kernel
theorem dX0_listShifts_75 : decode cX0_listShifts 75 = .ok (.aload_n 1, 1) := by decide +kernel
theorem dX0_listShifts_76 : decode cX0_listShifts 76 = .ok (.getfield 72, 3) := by decide +kernel
theorem dX0_listShifts_79 : decode cX0_listShifts 79 = .ok (.iload 8, 2) := by decide +kernel
theorem dX0_listShifts_81 : decode cX0_listShifts 81 = .ok (.iaload, 1) := by decide +kernel
theorem dX0_listShifts_82 : decode cX0_listShifts 82 = .ok (.iload 6, 2) := by decide +kernel
theorem dX0_listShifts_84 : decode cX0_listShifts 84 = .ok (.isub, 1) := by decide +kernel
theorem dX0_listShifts_85 : decode cX0_listShifts 85 = .ok (.sipush 4096, 3) := by decide +kernel
theorem dX0_listShifts_88 : decode cX0_listShifts 88 = .ok (.iadd, 1) := by decide +kernel
theorem dX0_listShifts_89 : decode cX0_listShifts 89 = .ok (.i2l, 1) := by decide +kernel
theorem dX0_listShifts_90 : decode cX0_listShifts 90 = .ok (.lstore 9, 2) := by decide +kernel
theorem dX0_listShifts_92 : decode cX0_listShifts 92 = .ok (.aload_n 1, 1) := by decide +kernel
theorem dX0_listShifts_93 : decode cX0_listShifts 93 = .ok (.getfield 75, 3) := by decide +kernel
theorem dX0_listShifts_96 : decode cX0_listShifts 96 = .ok (.iload 8, 2) := by decide +kernel
theorem dX0_listShifts_98 : decode cX0_listShifts 98 = .ok (.iaload, 1) := by decide +kernel
theorem dX0_listShifts_99 : decode cX0_listShifts 99 = .ok (.iload 7, 2) := by decide +kernel
theorem dX0_listShifts_101 : decode cX0_listShifts 101 = .ok (.isub, 1) := by decide +kernel
theorem dX0_listShifts_102 : decode cX0_listShifts 102 = .ok (.sipush 4096, 3) := by decide +kernel
theorem dX0_listShifts_105 : decode cX0_listShifts 105 = .ok (.iadd, 1) := by decide +kernel
theorem dX0_listShifts_106 : decode cX0_listShifts 106 = .ok (.i2l, 1) := by decide +kernel
theorem dX0_listShifts_107 : decode cX0_listShifts 107 = .ok (.lstore 11, 2) := by decide +kernel
theorem dX0_listShifts_109 : decode cX0_listShifts 109 = .ok (.aload_n 0, 1) := by decide +kernel
theorem dX0_listShifts_110 : decode cX0_listShifts 110 = .ok (.getfield 11, 3) := by decide +kernel
theorem dX0_listShifts_113 : decode cX0_listShifts 113 = .ok (.aload_n 0, 1) := by decide +kernel
theorem dX0_listShifts_114 : decode cX0_listShifts 114 = .ok (.getfield 69, 3) := by decide +kernel
theorem dX0_listShifts_117 : decode cX0_listShifts 117 = .ok (.lload 9, 2) := by decide +kernel
theorem dX0_listShifts_119 : decode cX0_listShifts 119 = .ok (.ldc2_w 85, 3) := by decide +kernel
theorem dX0_listShifts_122 : decode cX0_listShifts 122 = .ok (.lmul, 1) := by decide +kernel
theorem dX0_listShifts_123 : decode cX0_listShifts 123 = .ok (.ldc2_w 87, 3) := by decide +kernel
theorem dX0_listShifts_126 : decode cX0_listShifts 126 = .ok (.lmul, 1) := by decide +kernel
theorem dX0_listShifts_127 : decode cX0_listShifts 127 = .ok (.lload 11, 2) := by decide +kernel
theorem dX0_listShifts_129 : decode cX0_listShifts 129 = .ok (.ladd, 1) := by decide +kernel
theorem dX0_listShifts_130 : decode cX0_listShifts 130 = .ok (.ldc2_w 89, 3) := by decide +kernel
theorem dX0_listShifts_133 : decode cX0_listShifts 133 = .ok (.lmul, 1) := by decide +kernel
theorem dX0_listShifts_134 : decode cX0_listShifts 134 = .ok (.iload 8, 2) := by decide +kernel
theorem dX0_listShifts_136 : decode cX0_listShifts 136 = .ok (.bipush 8, 2) := by decide +kernel
theorem dX0_listShifts_138 : decode cX0_listShifts 138 = .ok (.imul, 1) := by decide +kernel
theorem dX0_listShifts_139 : decode cX0_listShifts 139 = .ok (.i2l, 1) := by decide +kernel
theorem dX0_listShifts_140 : decode cX0_listShifts 140 = .ok (.ladd, 1) := by decide +kernel
theorem dX0_listShifts_141 : decode cX0_listShifts 141 = .ok (.iload 5, 2) := by decide +kernel
theorem dX0_listShifts_143 : decode cX0_listShifts 143 = .ok (.i2l, 1) := by decide +kernel
theorem dX0_listShifts_144 : decode cX0_listShifts 144 = .ok (.ladd, 1) := by decide +kernel
theorem dX0_listShifts_145 : decode cX0_listShifts 145 = .ok (.lastore, 1) := by decide +kernel
theorem dX0_listShifts_146 : decode cX0_listShifts 146 = .ok (.aload_n 0, 1) := by decide +kernel
theorem dX0_listShifts_147 : decode cX0_listShifts 147 = .ok (.dup, 1) := by decide +kernel
theorem dX0_listShifts_148 : decode cX0_listShifts 148 = .ok (.getfield 69, 3) := by decide +kernel
theorem dX0_listShifts_151 : decode cX0_listShifts 151 = .ok (.iconst 1, 1) := by decide +kernel
theorem dX0_listShifts_152 : decode cX0_listShifts 152 = .ok (.iadd, 1) := by decide +kernel
theorem dX0_listShifts_153 : decode cX0_listShifts 153 = .ok (.putfield 69, 3) := by decide +kernel
theorem dX0_listShifts_156 : decode cX0_listShifts 156 = .ok (.iinc 8 1, 3) := by decide +kernel
theorem dX0_listShifts_159 : decode cX0_listShifts 159 = .ok (.goto (-93), 3) := by decide +kernel
theorem dX0_listShifts_162 : decode cX0_listShifts 162 = .ok (.iinc 5 1, 3) := by decide +kernel
theorem dX0_listShifts_165 : decode cX0_listShifts 165 = .ok (.goto (-157), 3) := by decide +kernel
theorem dX0_listShifts_168 : decode cX0_listShifts 168 = .ok (.return_, 1) := by decide +kernel
theorem dX0_sortKeys_0 : decode cX0_sortKeys 0 = .ok (.getstatic 91, 3) := by decide +kernel
theorem dX0_sortKeys_3 : decode cX0_sortKeys 3 = .ok (.astore_n 1, 1) := by decide +kernel
theorem dX0_sortKeys_4 : decode cX0_sortKeys 4 = .ok (.aload_n 1, 1) := by decide +kernel
theorem dX0_sortKeys_5 : decode cX0_sortKeys 5 = .ok (.arraylength, 1) := by decide +kernel
theorem dX0_sortKeys_6 : decode cX0_sortKeys 6 = .ok (.istore_n 2, 1) := by decide +kernel
theorem dX0_sortKeys_7 : decode cX0_sortKeys 7 = .ok (.iconst 0, 1) := by decide +kernel
theorem dX0_sortKeys_8 : decode cX0_sortKeys 8 = .ok (.istore_n 3, 1) := by decide +kernel
theorem dX0_sortKeys_9 : decode cX0_sortKeys 9 = .ok (.iload_n 3, 1) := by decide +kernel
theorem dX0_sortKeys_10 : decode cX0_sortKeys 10 = .ok (.iload_n 2, 1) := by decide +kernel
theorem dX0_sortKeys_11 : decode cX0_sortKeys 11 = .ok (.if_icmp .ge 105, 3) := by decide +kernel
theorem dX0_sortKeys_14 : decode cX0_sortKeys 14 = .ok (.aload_n 1, 1) := by decide +kernel
theorem dX0_sortKeys_15 : decode cX0_sortKeys 15 = .ok (.iload_n 3, 1) := by decide +kernel
theorem dX0_sortKeys_16 : decode cX0_sortKeys 16 = .ok (.iaload, 1) := by decide +kernel
theorem dX0_sortKeys_17 : decode cX0_sortKeys 17 = .ok (.istore 4, 2) := by decide +kernel
theorem dX0_sortKeys_19 : decode cX0_sortKeys 19 = .ok (.iload 4, 2) := by decide +kernel
theorem dX0_sortKeys_21 : decode cX0_sortKeys 21 = .ok (.istore 5, 2) := by decide +kernel
theorem dX0_sortKeys_23 : decode cX0_sortKeys 23 = .ok (.iload 5, 2) := by decide +kernel
theorem dX0_sortKeys_25 : decode cX0_sortKeys 25 = .ok (.aload_n 0, 1) := by decide +kernel
theorem dX0_sortKeys_26 : decode cX0_sortKeys 26 = .ok (.getfield 69, 3) := by decide +kernel
theorem dX0_sortKeys_29 : decode cX0_sortKeys 29 = .ok (.if_icmp .ge 81, 3) := by decide +kernel
theorem dX0_sortKeys_32 : decode cX0_sortKeys 32 = .ok (.aload_n 0, 1) := by decide +kernel
theorem dX0_sortKeys_33 : decode cX0_sortKeys 33 = .ok (.getfield 11, 3) := by decide +kernel
theorem dX0_sortKeys_36 : decode cX0_sortKeys 36 = .ok (.iload 5, 2) := by decide +kernel
theorem dX0_sortKeys_38 : decode cX0_sortKeys 38 = .ok (.laload, 1) := by decide +kernel
theorem dX0_sortKeys_39 : decode cX0_sortKeys 39 = .ok (.lstore 6, 2) := by decide +kernel
theorem dX0_sortKeys_41 : decode cX0_sortKeys 41 = .ok (.iload 5, 2) := by decide +kernel
theorem dX0_sortKeys_43 : decode cX0_sortKeys 43 = .ok (.istore 8, 2) := by decide +kernel
theorem dX0_sortKeys_45 : decode cX0_sortKeys 45 = .ok (.iload 8, 2) := by decide +kernel
theorem dX0_sortKeys_47 : decode cX0_sortKeys 47 = .ok (.iload 4, 2) := by decide +kernel
theorem dX0_sortKeys_49 : decode cX0_sortKeys 49 = .ok (.if_icmp .lt 46, 3) := by decide +kernel
theorem dX0_sortKeys_52 : decode cX0_sortKeys 52 = .ok (.aload_n 0, 1) := by decide +kernel
theorem dX0_sortKeys_53 : decode cX0_sortKeys 53 = .ok (.getfield 11, 3) := by decide +kernel
theorem dX0_sortKeys_56 : decode cX0_sortKeys 56 = .ok (.iload 8, 2) := by decide +kernel
theorem dX0_sortKeys_58 : decode cX0_sortKeys 58 = .ok (.iload 4, 2) := by decide +kernel
theorem dX0_sortKeys_60 : decode cX0_sortKeys 60 = .ok (.isub, 1) := by decide +kernel
theorem dX0_sortKeys_61 : decode cX0_sortKeys 61 = .ok (.laload, 1) := by decide +kernel
theorem dX0_sortKeys_62 : decode cX0_sortKeys 62 = .ok (.lload 6, 2) := by decide +kernel
theorem dX0_sortKeys_64 : decode cX0_sortKeys 64 = .ok (.lcmp, 1) := by decide +kernel
theorem dX0_sortKeys_65 : decode cX0_sortKeys 65 = .ok (.ifCond .le 30, 3) := by decide +kernel
theorem dX0_sortKeys_68 : decode cX0_sortKeys 68 = .ok (.aload_n 0, 1) := by decide +kernel
theorem dX0_sortKeys_69 : decode cX0_sortKeys 69 = .ok (.getfield 11, 3) := by decide +kernel
theorem dX0_sortKeys_72 : decode cX0_sortKeys 72 = .ok (.iload 8, 2) := by decide +kernel
theorem dX0_sortKeys_74 : decode cX0_sortKeys 74 = .ok (.aload_n 0, 1) := by decide +kernel
theorem dX0_sortKeys_75 : decode cX0_sortKeys 75 = .ok (.getfield 11, 3) := by decide +kernel
theorem dX0_sortKeys_78 : decode cX0_sortKeys 78 = .ok (.iload 8, 2) := by decide +kernel
theorem dX0_sortKeys_80 : decode cX0_sortKeys 80 = .ok (.iload 4, 2) := by decide +kernel
theorem dX0_sortKeys_82 : decode cX0_sortKeys 82 = .ok (.isub, 1) := by decide +kernel
theorem dX0_sortKeys_83 : decode cX0_sortKeys 83 = .ok (.laload, 1) := by decide +kernel
theorem dX0_sortKeys_84 : decode cX0_sortKeys 84 = .ok (.lastore, 1) := by decide +kernel
theorem dX0_sortKeys_85 : decode cX0_sortKeys 85 = .ok (.iload 8, 2) := by decide +kernel
theorem dX0_sortKeys_87 : decode cX0_sortKeys 87 = .ok (.iload 4, 2) := by decide +kernel
theorem dX0_sortKeys_89 : decode cX0_sortKeys 89 = .ok (.isub, 1) := by decide +kernel
theorem dX0_sortKeys_90 : decode cX0_sortKeys 90 = .ok (.istore 8, 2) := by decide +kernel
theorem dX0_sortKeys_92 : decode cX0_sortKeys 92 = .ok (.goto (-47), 3) := by decide +kernel
theorem dX0_sortKeys_95 : decode cX0_sortKeys 95 = .ok (.aload_n 0, 1) := by decide +kernel
theorem dX0_sortKeys_96 : decode cX0_sortKeys 96 = .ok (.getfield 11, 3) := by decide +kernel
theorem dX0_sortKeys_99 : decode cX0_sortKeys 99 = .ok (.iload 8, 2) := by decide +kernel
theorem dX0_sortKeys_101 : decode cX0_sortKeys 101 = .ok (.lload 6, 2) := by decide +kernel
theorem dX0_sortKeys_103 : decode cX0_sortKeys 103 = .ok (.lastore, 1) := by decide +kernel
theorem dX0_sortKeys_104 : decode cX0_sortKeys 104 = .ok (.iinc 5 1, 3) := by decide +kernel
theorem dX0_sortKeys_107 : decode cX0_sortKeys 107 = .ok (.goto (-84), 3) := by decide +kernel
theorem dX0_sortKeys_110 : decode cX0_sortKeys 110 = .ok (.iinc 3 1, 3) := by decide +kernel
theorem dX0_sortKeys_113 : decode cX0_sortKeys 113 = .ok (.goto (-104), 3) := by decide +kernel
theorem dX0_sortKeys_116 : decode cX0_sortKeys 116 = .ok (.return_, 1) := by decide +kernel
theorem dX0_readKeys_0 : decode cX0_readKeys 0 = .ok (.iconst 0, 1) := by decide +kernel
theorem dX0_readKeys_1 : decode cX0_readKeys 1 = .ok (.istore_n 1, 1) := by decide +kernel
theorem dX0_readKeys_2 : decode cX0_readKeys 2 = .ok (.iload_n 1, 1) := by decide +kernel
theorem dX0_readKeys_3 : decode cX0_readKeys 3 = .ok (.aload_n 0, 1) := by decide +kernel
theorem dX0_readKeys_4 : decode cX0_readKeys 4 = .ok (.getfield 69, 3) := by decide +kernel
theorem dX0_readKeys_7 : decode cX0_readKeys 7 = .ok (.if_icmp .ge 84, 3) := by decide +kernel
theorem dX0_readKeys_10 : decode cX0_readKeys 10 = .ok (.aload_n 0, 1) := by decide +kernel
theorem dX0_readKeys_11 : decode cX0_readKeys 11 = .ok (.getfield 11, 3) := by decide +kernel
theorem dX0_readKeys_14 : decode cX0_readKeys 14 = .ok (.iload_n 1, 1) := by decide +kernel
theorem dX0_readKeys_15 : decode cX0_readKeys 15 = .ok (.laload, 1) := by decide +kernel
theorem dX0_readKeys_16 : decode cX0_readKeys 16 = .ok (.ldc2_w 89, 3) := by decide +kernel
theorem dX0_readKeys_19 : decode cX0_readKeys 19 = .ok (.lrem, 1) := by decide +kernel
theorem dX0_readKeys_20 : decode cX0_readKeys 20 = .ok (.l2i, 1) := by decide +kernel
theorem dX0_readKeys_21 : decode cX0_readKeys 21 = .ok (.istore_n 2, 1) := by decide +kernel
theorem dX0_readKeys_22 : decode cX0_readKeys 22 = .ok (.aload_n 0, 1) := by decide +kernel
theorem dX0_readKeys_23 : decode cX0_readKeys 23 = .ok (.getfield 11, 3) := by decide +kernel
theorem dX0_readKeys_26 : decode cX0_readKeys 26 = .ok (.iload_n 1, 1) := by decide +kernel
theorem dX0_readKeys_27 : decode cX0_readKeys 27 = .ok (.laload, 1) := by decide +kernel
theorem dX0_readKeys_28 : decode cX0_readKeys 28 = .ok (.ldc2_w 89, 3) := by decide +kernel
theorem dX0_readKeys_31 : decode cX0_readKeys 31 = .ok (.ldiv, 1) := by decide +kernel
theorem dX0_readKeys_32 : decode cX0_readKeys 32 = .ok (.lstore_n 3, 1) := by decide +kernel
theorem dX0_readKeys_33 : decode cX0_readKeys 33 = .ok (.aload_n 0, 1) := by decide +kernel
theorem dX0_readKeys_34 : decode cX0_readKeys 34 = .ok (.getfield 22, 3) := by decide +kernel
theorem dX0_readKeys_37 : decode cX0_readKeys 37 = .ok (.iload_n 1, 1) := by decide +kernel
theorem dX0_readKeys_38 : decode cX0_readKeys 38 = .ok (.iload_n 2, 1) := by decide +kernel
theorem dX0_readKeys_39 : decode cX0_readKeys 39 = .ok (.bipush 8, 2) := by decide +kernel
theorem dX0_readKeys_41 : decode cX0_readKeys 41 = .ok (.idiv, 1) := by decide +kernel
theorem dX0_readKeys_42 : decode cX0_readKeys 42 = .ok (.iastore, 1) := by decide +kernel
theorem dX0_readKeys_43 : decode cX0_readKeys 43 = .ok (.aload_n 0, 1) := by decide +kernel
theorem dX0_readKeys_44 : decode cX0_readKeys 44 = .ok (.getfield 25, 3) := by decide +kernel
theorem dX0_readKeys_47 : decode cX0_readKeys 47 = .ok (.iload_n 1, 1) := by decide +kernel
theorem dX0_readKeys_48 : decode cX0_readKeys 48 = .ok (.iload_n 2, 1) := by decide +kernel
theorem dX0_readKeys_49 : decode cX0_readKeys 49 = .ok (.bipush 8, 2) := by decide +kernel
theorem dX0_readKeys_51 : decode cX0_readKeys 51 = .ok (.irem, 1) := by decide +kernel
theorem dX0_readKeys_52 : decode cX0_readKeys 52 = .ok (.iastore, 1) := by decide +kernel
theorem dX0_readKeys_53 : decode cX0_readKeys 53 = .ok (.aload_n 0, 1) := by decide +kernel
theorem dX0_readKeys_54 : decode cX0_readKeys 54 = .ok (.getfield 15, 3) := by decide +kernel
theorem dX0_readKeys_57 : decode cX0_readKeys 57 = .ok (.iload_n 1, 1) := by decide +kernel
theorem dX0_readKeys_58 : decode cX0_readKeys 58 = .ok (.lload_n 3, 1) := by decide +kernel
theorem dX0_readKeys_59 : decode cX0_readKeys 59 = .ok (.ldc2_w 94, 3) := by decide +kernel
theorem dX0_readKeys_62 : decode cX0_readKeys 62 = .ok (.ldiv, 1) := by decide +kernel
theorem dX0_readKeys_63 : decode cX0_readKeys 63 = .ok (.l2i, 1) := by decide +kernel
theorem dX0_readKeys_64 : decode cX0_readKeys 64 = .ok (.sipush 4096, 3) := by decide +kernel
theorem dX0_readKeys_67 : decode cX0_readKeys 67 = .ok (.isub, 1) := by decide +kernel
theorem dX0_readKeys_68 : decode cX0_readKeys 68 = .ok (.iastore, 1) := by decide +kernel
theorem dX0_readKeys_69 : decode cX0_readKeys 69 = .ok (.aload_n 0, 1) := by decide +kernel
theorem dX0_readKeys_70 : decode cX0_readKeys 70 = .ok (.getfield 19, 3) := by decide +kernel
theorem dX0_readKeys_73 : decode cX0_readKeys 73 = .ok (.iload_n 1, 1) := by decide +kernel
theorem dX0_readKeys_74 : decode cX0_readKeys 74 = .ok (.lload_n 3, 1) := by decide +kernel
theorem dX0_readKeys_75 : decode cX0_readKeys 75 = .ok (.ldc2_w 94, 3) := by decide +kernel
theorem dX0_readKeys_78 : decode cX0_readKeys 78 = .ok (.lrem, 1) := by decide +kernel
theorem dX0_readKeys_79 : decode cX0_readKeys 79 = .ok (.l2i, 1) := by decide +kernel
theorem dX0_readKeys_80 : decode cX0_readKeys 80 = .ok (.sipush 4096, 3) := by decide +kernel
theorem dX0_readKeys_83 : decode cX0_readKeys 83 = .ok (.isub, 1) := by decide +kernel
theorem dX0_readKeys_84 : decode cX0_readKeys 84 = .ok (.iastore, 1) := by decide +kernel
theorem dX0_readKeys_85 : decode cX0_readKeys 85 = .ok (.iinc 1 1, 3) := by decide +kernel
theorem dX0_readKeys_88 : decode cX0_readKeys 88 = .ok (.goto (-86), 3) := by decide +kernel
theorem dX0_readKeys_91 : decode cX0_readKeys 91 = .ok (.return_, 1) := by decide +kernel
theorem dX0_tryShifts_0 : decode cX0_tryShifts 0 = .ok (.iconst 0, 1) := by decide +kernel
theorem dX0_tryShifts_1 : decode cX0_tryShifts 1 = .ok (.istore 6, 2) := by decide +kernel
theorem dX0_tryShifts_3 : decode cX0_tryShifts 3 = .ok (.iconst 0, 1) := by decide +kernel
theorem dX0_tryShifts_4 : decode cX0_tryShifts 4 = .ok (.istore 7, 2) := by decide +kernel
theorem dX0_tryShifts_6 : decode cX0_tryShifts 6 = .ok (.iload 7, 2) := by decide +kernel
theorem dX0_tryShifts_8 : decode cX0_tryShifts 8 = .ok (.aload_n 0, 1) := by decide +kernel
theorem dX0_tryShifts_9 : decode cX0_tryShifts 9 = .ok (.getfield 69, 3) := by decide +kernel
theorem dX0_tryShifts_12 : decode cX0_tryShifts 12 = .ok (.if_icmp .ge 146, 3) := by decide +kernel
theorem dX0_tryShifts_15 : decode cX0_tryShifts 15 = .ok (.iload 6, 2) := by decide +kernel
theorem dX0_tryShifts_17 : decode cX0_tryShifts 17 = .ok (.iload 7, 2) := by decide +kernel
theorem dX0_tryShifts_19 : decode cX0_tryShifts 19 = .ok (.if_icmp .ge 31, 3) := by decide +kernel
theorem dX0_tryShifts_22 : decode cX0_tryShifts 22 = .ok (.aload_n 0, 1) := by decide +kernel
theorem dX0_tryShifts_23 : decode cX0_tryShifts 23 = .ok (.getfield 15, 3) := by decide +kernel
theorem dX0_tryShifts_26 : decode cX0_tryShifts 26 = .ok (.iload 6, 2) := by decide +kernel
theorem dX0_tryShifts_28 : decode cX0_tryShifts 28 = .ok (.iaload, 1) := by decide +kernel
theorem dX0_tryShifts_29 : decode cX0_tryShifts 29 = .ok (.aload_n 0, 1) := by decide +kernel
theorem dX0_tryShifts_30 : decode cX0_tryShifts 30 = .ok (.getfield 15, 3) := by decide +kernel
theorem dX0_tryShifts_33 : decode cX0_tryShifts 33 = .ok (.iload 7, 2) := by decide +kernel
theorem dX0_tryShifts_35 : decode cX0_tryShifts 35 = .ok (.iaload, 1) := by decide +kernel
theorem dX0_tryShifts_36 : decode cX0_tryShifts 36 = .ok (.aload_n 0, 1) := by decide +kernel
theorem dX0_tryShifts_37 : decode cX0_tryShifts 37 = .ok (.getfield 46, 3) := by decide +kernel
theorem dX0_tryShifts_40 : decode cX0_tryShifts 40 = .ok (.isub, 1) := by decide +kernel
theorem dX0_tryShifts_41 : decode cX0_tryShifts 41 = .ok (.if_icmp .ge 9, 3) := by decide +kernel
theorem dX0_tryShifts_44 : decode cX0_tryShifts 44 = .ok (.iinc 6 1, 3) := by decide +kernel
theorem dX0_tryShifts_47 : decode cX0_tryShifts 47 = .ok (.goto (-32), 3) := by decide +kernel
theorem dX0_tryShifts_50 : decode cX0_tryShifts 50 = .ok (.aload_n 0, 1) := by decide +kernel
theorem dX0_tryShifts_51 : decode cX0_tryShifts 51 = .ok (.iload 6, 2) := by decide +kernel
theorem dX0_tryShifts_53 : decode cX0_tryShifts 53 = .ok (.iload 7, 2) := by decide +kernel
theorem dX0_tryShifts_55 : decode cX0_tryShifts 55 = .ok (.invokevirtual 96, 3) := by decide +kernel
theorem dX0_tryShifts_58 : decode cX0_tryShifts 58 = .ok (.aload 5, 2) := by decide +kernel
theorem dX0_tryShifts_60 : decode cX0_tryShifts 60 = .ok (.aload_n 0, 1) := by decide +kernel
theorem dX0_tryShifts_61 : decode cX0_tryShifts 61 = .ok (.getfield 100, 3) := by decide +kernel
theorem dX0_tryShifts_64 : decode cX0_tryShifts 64 = .ok (.aload_n 0, 1) := by decide +kernel
theorem dX0_tryShifts_65 : decode cX0_tryShifts 65 = .ok (.getfield 103, 3) := by decide +kernel
theorem dX0_tryShifts_68 : decode cX0_tryShifts 68 = .ok (.invokevirtual 106, 3) := by decide +kernel
theorem dX0_tryShifts_71 : decode cX0_tryShifts 71 = .ok (.ifCond .eq 81, 3) := by decide +kernel
theorem dX0_tryShifts_74 : decode cX0_tryShifts 74 = .ok (.aload_n 0, 1) := by decide +kernel
theorem dX0_tryShifts_75 : decode cX0_tryShifts 75 = .ok (.iload 6, 2) := by decide +kernel
theorem dX0_tryShifts_77 : decode cX0_tryShifts 77 = .ok (.iload 7, 2) := by decide +kernel
theorem dX0_tryShifts_79 : decode cX0_tryShifts 79 = .ok (.invokevirtual 110, 3) := by decide +kernel
theorem dX0_tryShifts_82 : decode cX0_tryShifts 82 = .ok (.aload_n 0, 1) := by decide +kernel
theorem dX0_tryShifts_83 : decode cX0_tryShifts 83 = .ok (.getfield 37, 3) := by decide +kernel
theorem dX0_tryShifts_86 : decode cX0_tryShifts 86 = .ok (.aload_n 0, 1) := by decide +kernel
theorem dX0_tryShifts_87 : decode cX0_tryShifts 87 = .ok (.getfield 28, 3) := by decide +kernel
theorem dX0_tryShifts_90 : decode cX0_tryShifts 90 = .ok (.iload_n 2, 1) := by decide +kernel
theorem dX0_tryShifts_91 : decode cX0_tryShifts 91 = .ok (.iload_n 1, 1) := by decide +kernel
theorem dX0_tryShifts_92 : decode cX0_tryShifts 92 = .ok (.aload_n 0, 1) := by decide +kernel
theorem dX0_tryShifts_93 : decode cX0_tryShifts 93 = .ok (.getfield 46, 3) := by decide +kernel
theorem dX0_tryShifts_96 : decode cX0_tryShifts 96 = .ok (.invokevirtual 113, 3) := by decide +kernel
theorem dX0_tryShifts_99 : decode cX0_tryShifts 99 = .ok (.aload 5, 2) := by decide +kernel
theorem dX0_tryShifts_101 : decode cX0_tryShifts 101 = .ok (.aload_n 0, 1) := by decide +kernel
theorem dX0_tryShifts_102 : decode cX0_tryShifts 102 = .ok (.getfield 37, 3) := by decide +kernel
theorem dX0_tryShifts_105 : decode cX0_tryShifts 105 = .ok (.getfield 117, 3) := by decide +kernel
theorem dX0_tryShifts_108 : decode cX0_tryShifts 108 = .ok (.aload_n 0, 1) := by decide +kernel
theorem dX0_tryShifts_109 : decode cX0_tryShifts 109 = .ok (.getfield 37, 3) := by decide +kernel
theorem dX0_tryShifts_112 : decode cX0_tryShifts 112 = .ok (.getfield 118, 3) := by decide +kernel
theorem dX0_tryShifts_115 : decode cX0_tryShifts 115 = .ok (.invokevirtual 106, 3) := by decide +kernel
theorem dX0_tryShifts_118 : decode cX0_tryShifts 118 = .ok (.ifCond .eq 34, 3) := by decide +kernel
theorem dX0_tryShifts_121 : decode cX0_tryShifts 121 = .ok (.aload 5, 2) := by decide +kernel
theorem dX0_tryShifts_123 : decode cX0_tryShifts 123 = .ok (.iload_n 3, 1) := by decide +kernel
theorem dX0_tryShifts_124 : decode cX0_tryShifts 124 = .ok (.iload 4, 2) := by decide +kernel
theorem dX0_tryShifts_126 : decode cX0_tryShifts 126 = .ok (.aload_n 0, 1) := by decide +kernel
theorem dX0_tryShifts_127 : decode cX0_tryShifts 127 = .ok (.getfield 15, 3) := by decide +kernel
theorem dX0_tryShifts_130 : decode cX0_tryShifts 130 = .ok (.iload 7, 2) := by decide +kernel
theorem dX0_tryShifts_132 : decode cX0_tryShifts 132 = .ok (.iaload, 1) := by decide +kernel
theorem dX0_tryShifts_133 : decode cX0_tryShifts 133 = .ok (.aload_n 0, 1) := by decide +kernel
theorem dX0_tryShifts_134 : decode cX0_tryShifts 134 = .ok (.getfield 19, 3) := by decide +kernel
theorem dX0_tryShifts_137 : decode cX0_tryShifts 137 = .ok (.iload 7, 2) := by decide +kernel
theorem dX0_tryShifts_139 : decode cX0_tryShifts 139 = .ok (.iaload, 1) := by decide +kernel
theorem dX0_tryShifts_140 : decode cX0_tryShifts 140 = .ok (.invokevirtual 121, 3) := by decide +kernel
theorem dX0_tryShifts_143 : decode cX0_tryShifts 143 = .ok (.aload 5, 2) := by decide +kernel
theorem dX0_tryShifts_145 : decode cX0_tryShifts 145 = .ok (.aload_n 0, 1) := by decide +kernel
theorem dX0_tryShifts_146 : decode cX0_tryShifts 146 = .ok (.getfield 37, 3) := by decide +kernel
theorem dX0_tryShifts_149 : decode cX0_tryShifts 149 = .ok (.invokevirtual 125, 3) := by decide +kernel
theorem dX0_tryShifts_152 : decode cX0_tryShifts 152 = .ok (.iinc 7 1, 3) := by decide +kernel
theorem dX0_tryShifts_155 : decode cX0_tryShifts 155 = .ok (.goto (-149), 3) := by decide +kernel
theorem dX0_tryShifts_158 : decode cX0_tryShifts 158 = .ok (.return_, 1) := by decide +kernel
theorem dX0_gauge_0 : decode cX0_gauge 0 = .ok (.iconst 0, 1) := by decide +kernel
theorem dX0_gauge_1 : decode cX0_gauge 1 = .ok (.istore_n 3, 1) := by decide +kernel
theorem dX0_gauge_2 : decode cX0_gauge 2 = .ok (.aload_n 0, 1) := by decide +kernel
theorem dX0_gauge_3 : decode cX0_gauge 3 = .ok (.iconst 0, 1) := by decide +kernel
theorem dX0_gauge_4 : decode cX0_gauge 4 = .ok (.putfield 100, 3) := by decide +kernel
theorem dX0_gauge_7 : decode cX0_gauge 7 = .ok (.aload_n 0, 1) := by decide +kernel
theorem dX0_gauge_8 : decode cX0_gauge 8 = .ok (.iconst 0, 1) := by decide +kernel
theorem dX0_gauge_9 : decode cX0_gauge 9 = .ok (.putfield 103, 3) := by decide +kernel
theorem dX0_gauge_12 : decode cX0_gauge 12 = .ok (.iload_n 1, 1) := by decide +kernel
theorem dX0_gauge_13 : decode cX0_gauge 13 = .ok (.istore 4, 2) := by decide +kernel
theorem dX0_gauge_15 : decode cX0_gauge 15 = .ok (.iload 4, 2) := by decide +kernel
theorem dX0_gauge_17 : decode cX0_gauge 17 = .ok (.aload_n 0, 1) := by decide +kernel
theorem dX0_gauge_18 : decode cX0_gauge 18 = .ok (.getfield 69, 3) := by decide +kernel
theorem dX0_gauge_21 : decode cX0_gauge 21 = .ok (.if_icmp .ge 173, 3) := by decide +kernel
theorem dX0_gauge_24 : decode cX0_gauge 24 = .ok (.aload_n 0, 1) := by decide +kernel
theorem dX0_gauge_25 : decode cX0_gauge 25 = .ok (.getfield 15, 3) := by decide +kernel
theorem dX0_gauge_28 : decode cX0_gauge 28 = .ok (.iload 4, 2) := by decide +kernel
theorem dX0_gauge_30 : decode cX0_gauge 30 = .ok (.iaload, 1) := by decide +kernel
theorem dX0_gauge_31 : decode cX0_gauge 31 = .ok (.aload_n 0, 1) := by decide +kernel
theorem dX0_gauge_32 : decode cX0_gauge 32 = .ok (.getfield 15, 3) := by decide +kernel
theorem dX0_gauge_35 : decode cX0_gauge 35 = .ok (.iload_n 2, 1) := by decide +kernel
theorem dX0_gauge_36 : decode cX0_gauge 36 = .ok (.iaload, 1) := by decide +kernel
theorem dX0_gauge_37 : decode cX0_gauge 37 = .ok (.aload_n 0, 1) := by decide +kernel
theorem dX0_gauge_38 : decode cX0_gauge 38 = .ok (.getfield 46, 3) := by decide +kernel
theorem dX0_gauge_41 : decode cX0_gauge 41 = .ok (.iadd, 1) := by decide +kernel
theorem dX0_gauge_42 : decode cX0_gauge 42 = .ok (.if_icmp .gt 152, 3) := by decide +kernel
theorem dX0_gauge_45 : decode cX0_gauge 45 = .ok (.aload_n 0, 1) := by decide +kernel
theorem dX0_gauge_46 : decode cX0_gauge 46 = .ok (.getfield 15, 3) := by decide +kernel
theorem dX0_gauge_49 : decode cX0_gauge 49 = .ok (.iload 4, 2) := by decide +kernel
theorem dX0_gauge_51 : decode cX0_gauge 51 = .ok (.iaload, 1) := by decide +kernel
theorem dX0_gauge_52 : decode cX0_gauge 52 = .ok (.aload_n 0, 1) := by decide +kernel
theorem dX0_gauge_53 : decode cX0_gauge 53 = .ok (.getfield 15, 3) := by decide +kernel
theorem dX0_gauge_56 : decode cX0_gauge 56 = .ok (.iload_n 2, 1) := by decide +kernel
theorem dX0_gauge_57 : decode cX0_gauge 57 = .ok (.iaload, 1) := by decide +kernel
theorem dX0_gauge_58 : decode cX0_gauge 58 = .ok (.isub, 1) := by decide +kernel
theorem dX0_gauge_59 : decode cX0_gauge 59 = .ok (.aload_n 0, 1) := by decide +kernel
theorem dX0_gauge_60 : decode cX0_gauge 60 = .ok (.getfield 19, 3) := by decide +kernel
theorem dX0_gauge_63 : decode cX0_gauge 63 = .ok (.iload 4, 2) := by decide +kernel
theorem dX0_gauge_65 : decode cX0_gauge 65 = .ok (.iaload, 1) := by decide +kernel
theorem dX0_gauge_66 : decode cX0_gauge 66 = .ok (.aload_n 0, 1) := by decide +kernel
theorem dX0_gauge_67 : decode cX0_gauge 67 = .ok (.getfield 19, 3) := by decide +kernel
theorem dX0_gauge_70 : decode cX0_gauge 70 = .ok (.iload_n 2, 1) := by decide +kernel
theorem dX0_gauge_71 : decode cX0_gauge 71 = .ok (.iaload, 1) := by decide +kernel
theorem dX0_gauge_72 : decode cX0_gauge 72 = .ok (.isub, 1) := by decide +kernel
theorem dX0_gauge_73 : decode cX0_gauge 73 = .ok (.invokestatic 129, 3) := by decide +kernel
theorem dX0_gauge_76 : decode cX0_gauge 76 = .ok (.istore 5, 2) := by decide +kernel
theorem dX0_gauge_78 : decode cX0_gauge 78 = .ok (.iload 5, 2) := by decide +kernel
theorem dX0_gauge_80 : decode cX0_gauge 80 = .ok (.aload_n 0, 1) := by decide +kernel
theorem dX0_gauge_81 : decode cX0_gauge 81 = .ok (.getfield 46, 3) := by decide +kernel
theorem dX0_gauge_84 : decode cX0_gauge 84 = .ok (.if_icmp .le 6, 3) := by decide +kernel
theorem dX0_gauge_87 : decode cX0_gauge 87 = .ok (.goto 101, 3) := by decide +kernel
theorem dX0_gauge_90 : decode cX0_gauge 90 = .ok (.aload_n 0, 1) := by decide +kernel
theorem dX0_gauge_91 : decode cX0_gauge 91 = .ok (.getfield 25, 3) := by decide +kernel
theorem dX0_gauge_94 : decode cX0_gauge 94 = .ok (.iload 4, 2) := by decide +kernel
theorem dX0_gauge_96 : decode cX0_gauge 96 = .ok (.iaload, 1) := by decide +kernel
theorem dX0_gauge_97 : decode cX0_gauge 97 = .ok (.istore 6, 2) := by decide +kernel
theorem dX0_gauge_99 : decode cX0_gauge 99 = .ok (.iload_n 3, 1) := by decide +kernel
theorem dX0_gauge_100 : decode cX0_gauge 100 = .ok (.iload 6, 2) := by decide +kernel
theorem dX0_gauge_102 : decode cX0_gauge 102 = .ok (.ishr, 1) := by decide +kernel
theorem dX0_gauge_103 : decode cX0_gauge 103 = .ok (.iconst 1, 1) := by decide +kernel
theorem dX0_gauge_104 : decode cX0_gauge 104 = .ok (.iand, 1) := by decide +kernel
theorem dX0_gauge_105 : decode cX0_gauge 105 = .ok (.ifCond .ne 43, 3) := by decide +kernel
theorem dX0_gauge_108 : decode cX0_gauge 108 = .ok (.iload_n 3, 1) := by decide +kernel
theorem dX0_gauge_109 : decode cX0_gauge 109 = .ok (.iconst 1, 1) := by decide +kernel
theorem dX0_gauge_110 : decode cX0_gauge 110 = .ok (.iload 6, 2) := by decide +kernel
theorem dX0_gauge_112 : decode cX0_gauge 112 = .ok (.ishl, 1) := by decide +kernel
theorem dX0_gauge_113 : decode cX0_gauge 113 = .ok (.ior, 1) := by decide +kernel
theorem dX0_gauge_114 : decode cX0_gauge 114 = .ok (.istore_n 3, 1) := by decide +kernel
theorem dX0_gauge_115 : decode cX0_gauge 115 = .ok (.aload_n 0, 1) := by decide +kernel
theorem dX0_gauge_116 : decode cX0_gauge 116 = .ok (.dup, 1) := by decide +kernel
theorem dX0_gauge_117 : decode cX0_gauge 117 = .ok (.getfield 100, 3) := by decide +kernel
theorem dX0_gauge_120 : decode cX0_gauge 120 = .ok (.iconst 1, 1) := by decide +kernel
theorem dX0_gauge_121 : decode cX0_gauge 121 = .ok (.iadd, 1) := by decide +kernel
theorem dX0_gauge_122 : decode cX0_gauge 122 = .ok (.putfield 100, 3) := by decide +kernel
theorem dX0_gauge_125 : decode cX0_gauge 125 = .ok (.aload_n 0, 1) := by decide +kernel
theorem dX0_gauge_126 : decode cX0_gauge 126 = .ok (.dup, 1) := by decide +kernel
theorem dX0_gauge_127 : decode cX0_gauge 127 = .ok (.getfield 103, 3) := by decide +kernel
theorem dX0_gauge_130 : decode cX0_gauge 130 = .ok (.iload 5, 2) := by decide +kernel
theorem dX0_gauge_132 : decode cX0_gauge 132 = .ok (.iadd, 1) := by decide +kernel
theorem dX0_gauge_133 : decode cX0_gauge 133 = .ok (.putfield 103, 3) := by decide +kernel
theorem dX0_gauge_136 : decode cX0_gauge 136 = .ok (.aload_n 0, 1) := by decide +kernel
theorem dX0_gauge_137 : decode cX0_gauge 137 = .ok (.getfield 31, 3) := by decide +kernel
theorem dX0_gauge_140 : decode cX0_gauge 140 = .ok (.iload 6, 2) := by decide +kernel
theorem dX0_gauge_142 : decode cX0_gauge 142 = .ok (.iload 5, 2) := by decide +kernel
theorem dX0_gauge_144 : decode cX0_gauge 144 = .ok (.iastore, 1) := by decide +kernel
theorem dX0_gauge_145 : decode cX0_gauge 145 = .ok (.goto 43, 3) := by decide +kernel
theorem dX0_gauge_148 : decode cX0_gauge 148 = .ok (.iload 5, 2) := by decide +kernel
theorem dX0_gauge_150 : decode cX0_gauge 150 = .ok (.aload_n 0, 1) := by decide +kernel
theorem dX0_gauge_151 : decode cX0_gauge 151 = .ok (.getfield 31, 3) := by decide +kernel
theorem dX0_gauge_154 : decode cX0_gauge 154 = .ok (.iload 6, 2) := by decide +kernel
theorem dX0_gauge_156 : decode cX0_gauge 156 = .ok (.iaload, 1) := by decide +kernel
theorem dX0_gauge_157 : decode cX0_gauge 157 = .ok (.if_icmp .ge 31, 3) := by decide +kernel
theorem dX0_gauge_160 : decode cX0_gauge 160 = .ok (.aload_n 0, 1) := by decide +kernel
theorem dX0_gauge_161 : decode cX0_gauge 161 = .ok (.dup, 1) := by decide +kernel
theorem dX0_gauge_162 : decode cX0_gauge 162 = .ok (.getfield 103, 3) := by decide +kernel
theorem dX0_gauge_165 : decode cX0_gauge 165 = .ok (.iload 5, 2) := by decide +kernel
theorem dX0_gauge_167 : decode cX0_gauge 167 = .ok (.aload_n 0, 1) := by decide +kernel
theorem dX0_gauge_168 : decode cX0_gauge 168 = .ok (.getfield 31, 3) := by decide +kernel
theorem dX0_gauge_171 : decode cX0_gauge 171 = .ok (.iload 6, 2) := by decide +kernel
theorem dX0_gauge_173 : decode cX0_gauge 173 = .ok (.iaload, 1) := by decide +kernel
theorem dX0_gauge_174 : decode cX0_gauge 174 = .ok (.isub, 1) := by decide +kernel
theorem dX0_gauge_175 : decode cX0_gauge 175 = .ok (.iadd, 1) := by decide +kernel
theorem dX0_gauge_176 : decode cX0_gauge 176 = .ok (.putfield 103, 3) := by decide +kernel
theorem dX0_gauge_179 : decode cX0_gauge 179 = .ok (.aload_n 0, 1) := by decide +kernel
theorem dX0_gauge_180 : decode cX0_gauge 180 = .ok (.getfield 31, 3) := by decide +kernel
theorem dX0_gauge_183 : decode cX0_gauge 183 = .ok (.iload 6, 2) := by decide +kernel
theorem dX0_gauge_185 : decode cX0_gauge 185 = .ok (.iload 5, 2) := by decide +kernel
theorem dX0_gauge_187 : decode cX0_gauge 187 = .ok (.iastore, 1) := by decide +kernel
theorem dX0_gauge_188 : decode cX0_gauge 188 = .ok (.iinc 4 1, 3) := by decide +kernel
theorem dX0_gauge_191 : decode cX0_gauge 191 = .ok (.goto (-176), 3) := by decide +kernel
theorem dX0_gauge_194 : decode cX0_gauge 194 = .ok (.return_, 1) := by decide +kernel
theorem dX0_measure_0 : decode cX0_measure 0 = .ok (.aload_n 0, 1) := by decide +kernel
theorem dX0_measure_1 : decode cX0_measure 1 = .ok (.getfield 28, 3) := by decide +kernel
theorem dX0_measure_4 : decode cX0_measure 4 = .ok (.bipush 51, 2) := by decide +kernel
theorem dX0_measure_6 : decode cX0_measure 6 = .ok (.invokestatic 133, 3) := by decide +kernel
theorem dX0_measure_9 : decode cX0_measure 9 = .ok (.iload_n 1, 1) := by decide +kernel
theorem dX0_measure_10 : decode cX0_measure 10 = .ok (.istore_n 3, 1) := by decide +kernel
theorem dX0_measure_11 : decode cX0_measure 11 = .ok (.iload_n 3, 1) := by decide +kernel
theorem dX0_measure_12 : decode cX0_measure 12 = .ok (.aload_n 0, 1) := by decide +kernel
theorem dX0_measure_13 : decode cX0_measure 13 = .ok (.getfield 69, 3) := by decide +kernel
theorem dX0_measure_16 : decode cX0_measure 16 = .ok (.if_icmp .ge 79, 3) := by decide +kernel
theorem dX0_measure_19 : decode cX0_measure 19 = .ok (.aload_n 0, 1) := by decide +kernel
theorem dX0_measure_20 : decode cX0_measure 20 = .ok (.getfield 15, 3) := by decide +kernel
theorem dX0_measure_23 : decode cX0_measure 23 = .ok (.iload_n 3, 1) := by decide +kernel
theorem dX0_measure_24 : decode cX0_measure 24 = .ok (.iaload, 1) := by decide +kernel
theorem dX0_measure_25 : decode cX0_measure 25 = .ok (.aload_n 0, 1) := by decide +kernel
theorem dX0_measure_26 : decode cX0_measure 26 = .ok (.getfield 15, 3) := by decide +kernel
theorem dX0_measure_29 : decode cX0_measure 29 = .ok (.iload_n 2, 1) := by decide +kernel
theorem dX0_measure_30 : decode cX0_measure 30 = .ok (.iaload, 1) := by decide +kernel
theorem dX0_measure_31 : decode cX0_measure 31 = .ok (.aload_n 0, 1) := by decide +kernel
theorem dX0_measure_32 : decode cX0_measure 32 = .ok (.getfield 46, 3) := by decide +kernel
theorem dX0_measure_35 : decode cX0_measure 35 = .ok (.iadd, 1) := by decide +kernel
theorem dX0_measure_36 : decode cX0_measure 36 = .ok (.if_icmp .gt 59, 3) := by decide +kernel
theorem dX0_measure_39 : decode cX0_measure 39 = .ok (.aload_n 0, 1) := by decide +kernel
theorem dX0_measure_40 : decode cX0_measure 40 = .ok (.getfield 28, 3) := by decide +kernel
theorem dX0_measure_43 : decode cX0_measure 43 = .ok (.aload_n 0, 1) := by decide +kernel
theorem dX0_measure_44 : decode cX0_measure 44 = .ok (.getfield 25, 3) := by decide +kernel
theorem dX0_measure_47 : decode cX0_measure 47 = .ok (.iload_n 3, 1) := by decide +kernel
theorem dX0_measure_48 : decode cX0_measure 48 = .ok (.iaload, 1) := by decide +kernel
theorem dX0_measure_49 : decode cX0_measure 49 = .ok (.bipush 8, 2) := by decide +kernel
theorem dX0_measure_51 : decode cX0_measure 51 = .ok (.imul, 1) := by decide +kernel
theorem dX0_measure_52 : decode cX0_measure 52 = .ok (.aload_n 0, 1) := by decide +kernel
theorem dX0_measure_53 : decode cX0_measure 53 = .ok (.getfield 22, 3) := by decide +kernel
theorem dX0_measure_56 : decode cX0_measure 56 = .ok (.iload_n 3, 1) := by decide +kernel
theorem dX0_measure_57 : decode cX0_measure 57 = .ok (.iaload, 1) := by decide +kernel
theorem dX0_measure_58 : decode cX0_measure 58 = .ok (.iadd, 1) := by decide +kernel
theorem dX0_measure_59 : decode cX0_measure 59 = .ok (.aload_n 0, 1) := by decide +kernel
theorem dX0_measure_60 : decode cX0_measure 60 = .ok (.getfield 15, 3) := by decide +kernel
theorem dX0_measure_63 : decode cX0_measure 63 = .ok (.iload_n 3, 1) := by decide +kernel
theorem dX0_measure_64 : decode cX0_measure 64 = .ok (.iaload, 1) := by decide +kernel
theorem dX0_measure_65 : decode cX0_measure 65 = .ok (.aload_n 0, 1) := by decide +kernel
theorem dX0_measure_66 : decode cX0_measure 66 = .ok (.getfield 15, 3) := by decide +kernel
theorem dX0_measure_69 : decode cX0_measure 69 = .ok (.iload_n 2, 1) := by decide +kernel
theorem dX0_measure_70 : decode cX0_measure 70 = .ok (.iaload, 1) := by decide +kernel
theorem dX0_measure_71 : decode cX0_measure 71 = .ok (.isub, 1) := by decide +kernel
theorem dX0_measure_72 : decode cX0_measure 72 = .ok (.aload_n 0, 1) := by decide +kernel
theorem dX0_measure_73 : decode cX0_measure 73 = .ok (.getfield 19, 3) := by decide +kernel
theorem dX0_measure_76 : decode cX0_measure 76 = .ok (.iload_n 3, 1) := by decide +kernel
theorem dX0_measure_77 : decode cX0_measure 77 = .ok (.iaload, 1) := by decide +kernel
theorem dX0_measure_78 : decode cX0_measure 78 = .ok (.aload_n 0, 1) := by decide +kernel
theorem dX0_measure_79 : decode cX0_measure 79 = .ok (.getfield 19, 3) := by decide +kernel
theorem dX0_measure_82 : decode cX0_measure 82 = .ok (.iload_n 2, 1) := by decide +kernel
theorem dX0_measure_83 : decode cX0_measure 83 = .ok (.iaload, 1) := by decide +kernel
theorem dX0_measure_84 : decode cX0_measure 84 = .ok (.isub, 1) := by decide +kernel
theorem dX0_measure_85 : decode cX0_measure 85 = .ok (.invokestatic 129, 3) := by decide +kernel
theorem dX0_measure_88 : decode cX0_measure 88 = .ok (.iastore, 1) := by decide +kernel
theorem dX0_measure_89 : decode cX0_measure 89 = .ok (.iinc 3 1, 3) := by decide +kernel
theorem dX0_measure_92 : decode cX0_measure 92 = .ok (.goto (-81), 3) := by decide +kernel
theorem dX0_measure_95 : decode cX0_measure 95 = .ok (.return_, 1) := by decide +kernel
theorem dX1_init_0 : decode cX1_init 0 = .ok (.aload_n 0, 1) := by decide +kernel
theorem dX1_init_1 : decode cX1_init 1 = .ok (.invokespecial 3, 3) := by decide +kernel
theorem dX1_init_4 : decode cX1_init 4 = .ok (.aload_n 0, 1) := by decide +kernel
theorem dX1_init_5 : decode cX1_init 5 = .ok (.bipush 8, 2) := by decide +kernel
theorem dX1_init_7 : decode cX1_init 7 = .ok (.newarray .int, 2) := by decide +kernel
theorem dX1_init_9 : decode cX1_init 9 = .ok (.putfield 9, 3) := by decide +kernel
theorem dX1_init_12 : decode cX1_init 12 = .ok (.aload_n 0, 1) := by decide +kernel
theorem dX1_init_13 : decode cX1_init 13 = .ok (.bipush 8, 2) := by decide +kernel
theorem dX1_init_15 : decode cX1_init 15 = .ok (.newarray .int, 2) := by decide +kernel
theorem dX1_init_17 : decode cX1_init 17 = .ok (.putfield 15, 3) := by decide +kernel
theorem dX1_init_20 : decode cX1_init 20 = .ok (.return_, 1) := by decide +kernel
theorem dX1_clear_0 : decode cX1_clear 0 = .ok (.aload_n 0, 1) := by decide +kernel
theorem dX1_clear_1 : decode cX1_clear 1 = .ok (.iconst 0, 1) := by decide +kernel
theorem dX1_clear_2 : decode cX1_clear 2 = .ok (.putfield 18, 3) := by decide +kernel
theorem dX1_clear_5 : decode cX1_clear 5 = .ok (.aload_n 0, 1) := by decide +kernel
theorem dX1_clear_6 : decode cX1_clear 6 = .ok (.iconst 0, 1) := by decide +kernel
theorem dX1_clear_7 : decode cX1_clear 7 = .ok (.putfield 22, 3) := by decide +kernel
theorem dX1_clear_10 : decode cX1_clear 10 = .ok (.aload_n 0, 1) := by decide +kernel
theorem dX1_clear_11 : decode cX1_clear 11 = .ok (.getfield 9, 3) := by decide +kernel
theorem dX1_clear_14 : decode cX1_clear 14 = .ok (.iconst (-1), 1) := by decide +kernel
theorem dX1_clear_15 : decode cX1_clear 15 = .ok (.invokestatic 25, 3) := by decide +kernel
theorem dX1_clear_18 : decode cX1_clear 18 = .ok (.aload_n 0, 1) := by decide +kernel
theorem dX1_clear_19 : decode cX1_clear 19 = .ok (.getfield 15, 3) := by decide +kernel
theorem dX1_clear_22 : decode cX1_clear 22 = .ok (.iconst (-1), 1) := by decide +kernel
theorem dX1_clear_23 : decode cX1_clear 23 = .ok (.invokestatic 25, 3) := by decide +kernel
theorem dX1_clear_26 : decode cX1_clear 26 = .ok (.return_, 1) := by decide +kernel
theorem dX1_isBehind_0 : decode cX1_isBehind 0 = .ok (.iload_n 1, 1) := by decide +kernel
theorem dX1_isBehind_1 : decode cX1_isBehind 1 = .ok (.aload_n 0, 1) := by decide +kernel
theorem dX1_isBehind_2 : decode cX1_isBehind 2 = .ok (.getfield 18, 3) := by decide +kernel
theorem dX1_isBehind_5 : decode cX1_isBehind 5 = .ok (.if_icmp .gt 19, 3) := by decide +kernel
theorem dX1_isBehind_8 : decode cX1_isBehind 8 = .ok (.iload_n 1, 1) := by decide +kernel
theorem dX1_isBehind_9 : decode cX1_isBehind 9 = .ok (.aload_n 0, 1) := by decide +kernel
theorem dX1_isBehind_10 : decode cX1_isBehind 10 = .ok (.getfield 18, 3) := by decide +kernel
theorem dX1_isBehind_13 : decode cX1_isBehind 13 = .ok (.if_icmp .ne 15, 3) := by decide +kernel
theorem dX1_isBehind_16 : decode cX1_isBehind 16 = .ok (.iload_n 2, 1) := by decide +kernel
theorem dX1_isBehind_17 : decode cX1_isBehind 17 = .ok (.aload_n 0, 1) := by decide +kernel
theorem dX1_isBehind_18 : decode cX1_isBehind 18 = .ok (.getfield 22, 3) := by decide +kernel
theorem dX1_isBehind_21 : decode cX1_isBehind 21 = .ok (.if_icmp .ge 7, 3) := by decide +kernel
theorem dX1_isBehind_24 : decode cX1_isBehind 24 = .ok (.iconst 1, 1) := by decide +kernel
theorem dX1_isBehind_25 : decode cX1_isBehind 25 = .ok (.goto 4, 3) := by decide +kernel
theorem dX1_isBehind_28 : decode cX1_isBehind 28 = .ok (.iconst 0, 1) := by decide +kernel
theorem dX1_isBehind_29 : decode cX1_isBehind 29 = .ok (.ireturn, 1) := by decide +kernel
theorem dX1_put_0 : decode cX1_put 0 = .ok (.aload_n 0, 1) := by decide +kernel
theorem dX1_put_1 : decode cX1_put 1 = .ok (.iload_n 1, 1) := by decide +kernel
theorem dX1_put_2 : decode cX1_put 2 = .ok (.putfield 31, 3) := by decide +kernel
theorem dX1_put_5 : decode cX1_put 5 = .ok (.aload_n 0, 1) := by decide +kernel
theorem dX1_put_6 : decode cX1_put 6 = .ok (.iload_n 2, 1) := by decide +kernel
theorem dX1_put_7 : decode cX1_put 7 = .ok (.putfield 34, 3) := by decide +kernel
theorem dX1_put_10 : decode cX1_put 10 = .ok (.aload_n 0, 1) := by decide +kernel
theorem dX1_put_11 : decode cX1_put 11 = .ok (.iload_n 3, 1) := by decide +kernel
theorem dX1_put_12 : decode cX1_put 12 = .ok (.putfield 37, 3) := by decide +kernel
theorem dX1_put_15 : decode cX1_put 15 = .ok (.aload_n 0, 1) := by decide +kernel
theorem dX1_put_16 : decode cX1_put 16 = .ok (.iload 4, 2) := by decide +kernel
theorem dX1_put_18 : decode cX1_put 18 = .ok (.putfield 40, 3) := by decide +kernel
theorem dX1_put_21 : decode cX1_put 21 = .ok (.return_, 1) := by decide +kernel
theorem dX1_takePairs_0 : decode cX1_takePairs 0 = .ok (.aload_n 0, 1) := by decide +kernel
theorem dX1_takePairs_1 : decode cX1_takePairs 1 = .ok (.invokevirtual 43, 3) := by decide +kernel
theorem dX1_takePairs_4 : decode cX1_takePairs 4 = .ok (.aload_n 0, 1) := by decide +kernel
theorem dX1_takePairs_5 : decode cX1_takePairs 5 = .ok (.aload_n 1, 1) := by decide +kernel
theorem dX1_takePairs_6 : decode cX1_takePairs 6 = .ok (.getfield 46, 3) := by decide +kernel
theorem dX1_takePairs_9 : decode cX1_takePairs 9 = .ok (.putfield 18, 3) := by decide +kernel
theorem dX1_takePairs_12 : decode cX1_takePairs 12 = .ok (.aload_n 0, 1) := by decide +kernel
theorem dX1_takePairs_13 : decode cX1_takePairs 13 = .ok (.aload_n 1, 1) := by decide +kernel
theorem dX1_takePairs_14 : decode cX1_takePairs 14 = .ok (.getfield 49, 3) := by decide +kernel
theorem dX1_takePairs_17 : decode cX1_takePairs 17 = .ok (.putfield 22, 3) := by decide +kernel
theorem dX1_takePairs_20 : decode cX1_takePairs 20 = .ok (.iconst 0, 1) := by decide +kernel
theorem dX1_takePairs_21 : decode cX1_takePairs 21 = .ok (.istore_n 2, 1) := by decide +kernel
theorem dX1_takePairs_22 : decode cX1_takePairs 22 = .ok (.iload_n 2, 1) := by decide +kernel
theorem dX1_takePairs_23 : decode cX1_takePairs 23 = .ok (.bipush 8, 2) := by decide +kernel
theorem dX1_takePairs_25 : decode cX1_takePairs 25 = .ok (.if_icmp .ge 35, 3) := by decide +kernel
theorem dX1_takePairs_28 : decode cX1_takePairs 28 = .ok (.aload_n 1, 1) := by decide +kernel
theorem dX1_takePairs_29 : decode cX1_takePairs 29 = .ok (.getfield 50, 3) := by decide +kernel
theorem dX1_takePairs_32 : decode cX1_takePairs 32 = .ok (.iload_n 2, 1) := by decide +kernel
theorem dX1_takePairs_33 : decode cX1_takePairs 33 = .ok (.iaload, 1) := by decide +kernel
theorem dX1_takePairs_34 : decode cX1_takePairs 34 = .ok (.istore_n 3, 1) := by decide +kernel
theorem dX1_takePairs_35 : decode cX1_takePairs 35 = .ok (.aload_n 0, 1) := by decide +kernel
theorem dX1_takePairs_36 : decode cX1_takePairs 36 = .ok (.getfield 9, 3) := by decide +kernel
theorem dX1_takePairs_39 : decode cX1_takePairs 39 = .ok (.iload_n 2, 1) := by decide +kernel
theorem dX1_takePairs_40 : decode cX1_takePairs 40 = .ok (.iload_n 3, 1) := by decide +kernel
theorem dX1_takePairs_41 : decode cX1_takePairs 41 = .ok (.iastore, 1) := by decide +kernel
theorem dX1_takePairs_42 : decode cX1_takePairs 42 = .ok (.iload_n 3, 1) := by decide +kernel
theorem dX1_takePairs_43 : decode cX1_takePairs 43 = .ok (.iconst (-1), 1) := by decide +kernel
theorem dX1_takePairs_44 : decode cX1_takePairs 44 = .ok (.if_icmp .eq 10, 3) := by decide +kernel
theorem dX1_takePairs_47 : decode cX1_takePairs 47 = .ok (.aload_n 0, 1) := by decide +kernel
theorem dX1_takePairs_48 : decode cX1_takePairs 48 = .ok (.getfield 15, 3) := by decide +kernel
theorem dX1_takePairs_51 : decode cX1_takePairs 51 = .ok (.iload_n 3, 1) := by decide +kernel
theorem dX1_takePairs_52 : decode cX1_takePairs 52 = .ok (.iload_n 2, 1) := by decide +kernel
theorem dX1_takePairs_53 : decode cX1_takePairs 53 = .ok (.iastore, 1) := by decide +kernel
theorem dX1_takePairs_54 : decode cX1_takePairs 54 = .ok (.iinc 2 1, 3) := by decide +kernel
theorem dX1_takePairs_57 : decode cX1_takePairs 57 = .ok (.goto (-35), 3) := by decide +kernel
theorem dX1_takePairs_60 : decode cX1_takePairs 60 = .ok (.return_, 1) := by decide +kernel
theorem dX1_bringX_0 : decode cX1_bringX 0 = .ok (.aload_n 0, 1) := by decide +kernel
theorem dX1_bringX_1 : decode cX1_bringX 1 = .ok (.getfield 34, 3) := by decide +kernel
theorem dX1_bringX_4 : decode cX1_bringX 4 = .ok (.aload_n 0, 1) := by decide +kernel
theorem dX1_bringX_5 : decode cX1_bringX 5 = .ok (.getfield 31, 3) := by decide +kernel
theorem dX1_bringX_8 : decode cX1_bringX 8 = .ok (.iload_n 1, 1) := by decide +kernel
theorem dX1_bringX_9 : decode cX1_bringX 9 = .ok (.iload_n 2, 1) := by decide +kernel
theorem dX1_bringX_10 : decode cX1_bringX 10 = .ok (.invokestatic 53, 3) := by decide +kernel
theorem dX1_bringX_13 : decode cX1_bringX 13 = .ok (.imul, 1) := by decide +kernel
theorem dX1_bringX_14 : decode cX1_bringX 14 = .ok (.aload_n 0, 1) := by decide +kernel
theorem dX1_bringX_15 : decode cX1_bringX 15 = .ok (.getfield 37, 3) := by decide +kernel
theorem dX1_bringX_18 : decode cX1_bringX 18 = .ok (.iadd, 1) := by decide +kernel
theorem dX1_bringX_19 : decode cX1_bringX 19 = .ok (.ireturn, 1) := by decide +kernel
theorem dX1_bringY_0 : decode cX1_bringY 0 = .ok (.aload_n 0, 1) := by decide +kernel
theorem dX1_bringY_1 : decode cX1_bringY 1 = .ok (.getfield 34, 3) := by decide +kernel
theorem dX1_bringY_4 : decode cX1_bringY 4 = .ok (.aload_n 0, 1) := by decide +kernel
theorem dX1_bringY_5 : decode cX1_bringY 5 = .ok (.getfield 31, 3) := by decide +kernel
theorem dX1_bringY_8 : decode cX1_bringY 8 = .ok (.iload_n 1, 1) := by decide +kernel
theorem dX1_bringY_9 : decode cX1_bringY 9 = .ok (.iload_n 2, 1) := by decide +kernel
theorem dX1_bringY_10 : decode cX1_bringY 10 = .ok (.invokestatic 57, 3) := by decide +kernel
theorem dX1_bringY_13 : decode cX1_bringY 13 = .ok (.imul, 1) := by decide +kernel
theorem dX1_bringY_14 : decode cX1_bringY 14 = .ok (.aload_n 0, 1) := by decide +kernel
theorem dX1_bringY_15 : decode cX1_bringY 15 = .ok (.getfield 40, 3) := by decide +kernel
theorem dX1_bringY_18 : decode cX1_bringY 18 = .ok (.iadd, 1) := by decide +kernel
theorem dX1_bringY_19 : decode cX1_bringY 19 = .ok (.ireturn, 1) := by decide +kernel
theorem dX2_init_0 : decode cX2_init 0 = .ok (.aload_n 0, 1) := by decide +kernel
theorem dX2_init_1 : decode cX2_init 1 = .ok (.invokespecial 3, 3) := by decide +kernel
theorem dX2_init_4 : decode cX2_init 4 = .ok (.aload_n 0, 1) := by decide +kernel
theorem dX2_init_5 : decode cX2_init 5 = .ok (.bipush 8, 2) := by decide +kernel
theorem dX2_init_7 : decode cX2_init 7 = .ok (.newarray .int, 2) := by decide +kernel
theorem dX2_init_9 : decode cX2_init 9 = .ok (.putfield 9, 3) := by decide +kernel
theorem dX2_init_12 : decode cX2_init 12 = .ok (.aload_n 0, 1) := by decide +kernel
theorem dX2_init_13 : decode cX2_init 13 = .ok (.bipush 81, 2) := by decide +kernel
theorem dX2_init_15 : decode cX2_init 15 = .ok (.newarray .long, 2) := by decide +kernel
theorem dX2_init_17 : decode cX2_init 17 = .ok (.putfield 15, 3) := by decide +kernel
theorem dX2_init_20 : decode cX2_init 20 = .ok (.aload_n 0, 1) := by decide +kernel
theorem dX2_init_21 : decode cX2_init 21 = .ok (.bipush 9, 2) := by decide +kernel
theorem dX2_init_23 : decode cX2_init 23 = .ok (.newarray .long, 2) := by decide +kernel
theorem dX2_init_25 : decode cX2_init 25 = .ok (.putfield 19, 3) := by decide +kernel
theorem dX2_init_28 : decode cX2_init 28 = .ok (.aload_n 0, 1) := by decide +kernel
theorem dX2_init_29 : decode cX2_init 29 = .ok (.bipush 9, 2) := by decide +kernel
theorem dX2_init_31 : decode cX2_init 31 = .ok (.newarray .long, 2) := by decide +kernel
theorem dX2_init_33 : decode cX2_init 33 = .ok (.putfield 22, 3) := by decide +kernel
theorem dX2_init_36 : decode cX2_init 36 = .ok (.aload_n 0, 1) := by decide +kernel
theorem dX2_init_37 : decode cX2_init 37 = .ok (.bipush 9, 2) := by decide +kernel
theorem dX2_init_39 : decode cX2_init 39 = .ok (.newarray .long, 2) := by decide +kernel
theorem dX2_init_41 : decode cX2_init 41 = .ok (.putfield 25, 3) := by decide +kernel
theorem dX2_init_44 : decode cX2_init 44 = .ok (.aload_n 0, 1) := by decide +kernel
theorem dX2_init_45 : decode cX2_init 45 = .ok (.bipush 9, 2) := by decide +kernel
theorem dX2_init_47 : decode cX2_init 47 = .ok (.newarray .int, 2) := by decide +kernel
theorem dX2_init_49 : decode cX2_init 49 = .ok (.putfield 28, 3) := by decide +kernel
theorem dX2_init_52 : decode cX2_init 52 = .ok (.aload_n 0, 1) := by decide +kernel
theorem dX2_init_53 : decode cX2_init 53 = .ok (.bipush 9, 2) := by decide +kernel
theorem dX2_init_55 : decode cX2_init 55 = .ok (.newarray .int, 2) := by decide +kernel
theorem dX2_init_57 : decode cX2_init 57 = .ok (.putfield 31, 3) := by decide +kernel
theorem dX2_init_60 : decode cX2_init 60 = .ok (.aload_n 0, 1) := by decide +kernel
theorem dX2_init_61 : decode cX2_init 61 = .ok (.bipush 9, 2) := by decide +kernel
theorem dX2_init_63 : decode cX2_init 63 = .ok (.newarray .boolean, 2) := by decide +kernel
theorem dX2_init_65 : decode cX2_init 65 = .ok (.putfield 34, 3) := by decide +kernel
theorem dX2_init_68 : decode cX2_init 68 = .ok (.return_, 1) := by decide +kernel
theorem dX2_match_0 : decode cX2_match 0 = .ok (.iload_n 2, 1) := by decide +kernel
theorem dX2_match_1 : decode cX2_match 1 = .ok (.iload_n 3, 1) := by decide +kernel
theorem dX2_match_2 : decode cX2_match 2 = .ok (.invokestatic 38, 3) := by decide +kernel
theorem dX2_match_5 : decode cX2_match 5 = .ok (.istore 5, 2) := by decide +kernel
theorem dX2_match_7 : decode cX2_match 7 = .ok (.aload_n 0, 1) := by decide +kernel
theorem dX2_match_8 : decode cX2_match 8 = .ok (.aload_n 1, 1) := by decide +kernel
theorem dX2_match_9 : decode cX2_match 9 = .ok (.iload_n 2, 1) := by decide +kernel
theorem dX2_match_10 : decode cX2_match 10 = .ok (.iload 5, 2) := by decide +kernel
theorem dX2_match_12 : decode cX2_match 12 = .ok (.iload_n 3, 1) := by decide +kernel
theorem dX2_match_13 : decode cX2_match 13 = .ok (.iload 4, 2) := by decide +kernel
theorem dX2_match_15 : decode cX2_match 15 = .ok (.invokevirtual 44, 3) := by decide +kernel
theorem dX2_match_18 : decode cX2_match 18 = .ok (.aload_n 0, 1) := by decide +kernel
theorem dX2_match_19 : decode cX2_match 19 = .ok (.getfield 19, 3) := by decide +kernel
theorem dX2_match_22 : decode cX2_match 22 = .ok (.lconst 0, 1) := by decide +kernel
theorem dX2_match_23 : decode cX2_match 23 = .ok (.invokestatic 48, 3) := by decide +kernel
theorem dX2_match_26 : decode cX2_match 26 = .ok (.aload_n 0, 1) := by decide +kernel
theorem dX2_match_27 : decode cX2_match 27 = .ok (.getfield 22, 3) := by decide +kernel
theorem dX2_match_30 : decode cX2_match 30 = .ok (.lconst 0, 1) := by decide +kernel
theorem dX2_match_31 : decode cX2_match 31 = .ok (.invokestatic 48, 3) := by decide +kernel
theorem dX2_match_34 : decode cX2_match 34 = .ok (.aload_n 0, 1) := by decide +kernel
theorem dX2_match_35 : decode cX2_match 35 = .ok (.getfield 28, 3) := by decide +kernel
theorem dX2_match_38 : decode cX2_match 38 = .ok (.iconst 0, 1) := by decide +kernel
theorem dX2_match_39 : decode cX2_match 39 = .ok (.invokestatic 54, 3) := by decide +kernel
theorem dX2_match_42 : decode cX2_match 42 = .ok (.iconst 1, 1) := by decide +kernel
theorem dX2_match_43 : decode cX2_match 43 = .ok (.istore 6, 2) := by decide +kernel
theorem dX2_match_45 : decode cX2_match 45 = .ok (.iload 6, 2) := by decide +kernel
theorem dX2_match_47 : decode cX2_match 47 = .ok (.iload_n 2, 1) := by decide +kernel
theorem dX2_match_48 : decode cX2_match 48 = .ok (.if_icmp .gt 17, 3) := by decide +kernel
theorem dX2_match_51 : decode cX2_match 51 = .ok (.aload_n 0, 1) := by decide +kernel
theorem dX2_match_52 : decode cX2_match 52 = .ok (.iload 6, 2) := by decide +kernel
theorem dX2_match_54 : decode cX2_match 54 = .ok (.iload 5, 2) := by decide +kernel
theorem dX2_match_56 : decode cX2_match 56 = .ok (.invokevirtual 57, 3) := by decide +kernel
theorem dX2_match_59 : decode cX2_match 59 = .ok (.iinc 6 1, 3) := by decide +kernel
theorem dX2_match_62 : decode cX2_match 62 = .ok (.goto (-17), 3) := by decide +kernel
theorem dX2_match_65 : decode cX2_match 65 = .ok (.aload_n 0, 1) := by decide +kernel
theorem dX2_match_66 : decode cX2_match 66 = .ok (.aload_n 1, 1) := by decide +kernel
theorem dX2_match_67 : decode cX2_match 67 = .ok (.iload_n 3, 1) := by decide +kernel
theorem dX2_match_68 : decode cX2_match 68 = .ok (.iload 4, 2) := by decide +kernel
theorem dX2_match_70 : decode cX2_match 70 = .ok (.invokevirtual 61, 3) := by decide +kernel
theorem dX2_match_73 : decode cX2_match 73 = .ok (.return_, 1) := by decide +kernel
theorem dX2_setCosts_0 : decode cX2_setCosts 0 = .ok (.ldc2_w 65, 3) := by decide +kernel
theorem dX2_setCosts_3 : decode cX2_setCosts 3 = .ok (.lstore 6, 2) := by decide +kernel
theorem dX2_setCosts_5 : decode cX2_setCosts 5 = .ok (.iconst 1, 1) := by decide +kernel
theorem dX2_setCosts_6 : decode cX2_setCosts 6 = .ok (.istore 8, 2) := by decide +kernel
theorem dX2_setCosts_8 : decode cX2_setCosts 8 = .ok (.iload 8, 2) := by decide +kernel
theorem dX2_setCosts_10 : decode cX2_setCosts 10 = .ok (.iload_n 2, 1) := by decide +kernel
theorem dX2_setCosts_11 : decode cX2_setCosts 11 = .ok (.if_icmp .gt 107, 3) := by decide +kernel
theorem dX2_setCosts_14 : decode cX2_setCosts 14 = .ok (.lload 6, 2) := by decide +kernel
theorem dX2_setCosts_16 : decode cX2_setCosts 16 = .ok (.ldc2_w 67, 3) := by decide +kernel
theorem dX2_setCosts_19 : decode cX2_setCosts 19 = .ok (.ldiv, 1) := by decide +kernel
theorem dX2_setCosts_20 : decode cX2_setCosts 20 = .ok (.lstore 6, 2) := by decide +kernel
theorem dX2_setCosts_22 : decode cX2_setCosts 22 = .ok (.iconst 1, 1) := by decide +kernel
theorem dX2_setCosts_23 : decode cX2_setCosts 23 = .ok (.istore 9, 2) := by decide +kernel
theorem dX2_setCosts_25 : decode cX2_setCosts 25 = .ok (.iload 9, 2) := by decide +kernel
theorem dX2_setCosts_27 : decode cX2_setCosts 27 = .ok (.iload_n 3, 1) := by decide +kernel
theorem dX2_setCosts_28 : decode cX2_setCosts 28 = .ok (.if_icmp .gt 84, 3) := by decide +kernel
theorem dX2_setCosts_31 : decode cX2_setCosts 31 = .ok (.ldc2_w 69, 3) := by decide +kernel
theorem dX2_setCosts_34 : decode cX2_setCosts 34 = .ok (.ldc2_w 71, 3) := by decide +kernel
theorem dX2_setCosts_37 : decode cX2_setCosts 37 = .ok (.lload 6, 2) := by decide +kernel
theorem dX2_setCosts_39 : decode cX2_setCosts 39 = .ok (.lmul, 1) := by decide +kernel
theorem dX2_setCosts_40 : decode cX2_setCosts 40 = .ok (.ladd, 1) := by decide +kernel
theorem dX2_setCosts_41 : decode cX2_setCosts 41 = .ok (.lstore 10, 2) := by decide +kernel
theorem dX2_setCosts_43 : decode cX2_setCosts 43 = .ok (.iload 9, 2) := by decide +kernel
theorem dX2_setCosts_45 : decode cX2_setCosts 45 = .ok (.iload 4, 2) := by decide +kernel
theorem dX2_setCosts_47 : decode cX2_setCosts 47 = .ok (.if_icmp .gt 44, 3) := by decide +kernel
theorem dX2_setCosts_50 : decode cX2_setCosts 50 = .ok (.aload_n 1, 1) := by decide +kernel
theorem dX2_setCosts_51 : decode cX2_setCosts 51 = .ok (.iload 8, 2) := by decide +kernel
theorem dX2_setCosts_53 : decode cX2_setCosts 53 = .ok (.iconst 1, 1) := by decide +kernel
theorem dX2_setCosts_54 : decode cX2_setCosts 54 = .ok (.isub, 1) := by decide +kernel
theorem dX2_setCosts_55 : decode cX2_setCosts 55 = .ok (.bipush 8, 2) := by decide +kernel
theorem dX2_setCosts_57 : decode cX2_setCosts 57 = .ok (.imul, 1) := by decide +kernel
theorem dX2_setCosts_58 : decode cX2_setCosts 58 = .ok (.iload 9, 2) := by decide +kernel
theorem dX2_setCosts_60 : decode cX2_setCosts 60 = .ok (.iadd, 1) := by decide +kernel
theorem dX2_setCosts_61 : decode cX2_setCosts 61 = .ok (.iconst 1, 1) := by decide +kernel
theorem dX2_setCosts_62 : decode cX2_setCosts 62 = .ok (.isub, 1) := by decide +kernel
theorem dX2_setCosts_63 : decode cX2_setCosts 63 = .ok (.iaload, 1) := by decide +kernel
theorem dX2_setCosts_64 : decode cX2_setCosts 64 = .ok (.istore 12, 2) := by decide +kernel
theorem dX2_setCosts_66 : decode cX2_setCosts 66 = .ok (.iload 12, 2) := by decide +kernel
theorem dX2_setCosts_68 : decode cX2_setCosts 68 = .ok (.iload 5, 2) := by decide +kernel
theorem dX2_setCosts_70 : decode cX2_setCosts 70 = .ok (.if_icmp .gt 21, 3) := by decide +kernel
theorem dX2_setCosts_73 : decode cX2_setCosts 73 = .ok (.iload 12, 2) := by decide +kernel
theorem dX2_setCosts_75 : decode cX2_setCosts 75 = .ok (.i2l, 1) := by decide +kernel
theorem dX2_setCosts_76 : decode cX2_setCosts 76 = .ok (.ldc2_w 65, 3) := by decide +kernel
theorem dX2_setCosts_79 : decode cX2_setCosts 79 = .ok (.lmul, 1) := by decide +kernel
theorem dX2_setCosts_80 : decode cX2_setCosts 80 = .ok (.iload 9, 2) := by decide +kernel
theorem dX2_setCosts_82 : decode cX2_setCosts 82 = .ok (.iconst 1, 1) := by decide +kernel
theorem dX2_setCosts_83 : decode cX2_setCosts 83 = .ok (.isub, 1) := by decide +kernel
theorem dX2_setCosts_84 : decode cX2_setCosts 84 = .ok (.i2l, 1) := by decide +kernel
theorem dX2_setCosts_85 : decode cX2_setCosts 85 = .ok (.lload 6, 2) := by decide +kernel
theorem dX2_setCosts_87 : decode cX2_setCosts 87 = .ok (.lmul, 1) := by decide +kernel
theorem dX2_setCosts_88 : decode cX2_setCosts 88 = .ok (.ladd, 1) := by decide +kernel
theorem dX2_setCosts_89 : decode cX2_setCosts 89 = .ok (.lstore 10, 2) := by decide +kernel
theorem dX2_setCosts_91 : decode cX2_setCosts 91 = .ok (.aload_n 0, 1) := by decide +kernel
theorem dX2_setCosts_92 : decode cX2_setCosts 92 = .ok (.getfield 15, 3) := by decide +kernel
theorem dX2_setCosts_95 : decode cX2_setCosts 95 = .ok (.iload 8, 2) := by decide +kernel
theorem dX2_setCosts_97 : decode cX2_setCosts 97 = .ok (.bipush 9, 2) := by decide +kernel
theorem dX2_setCosts_99 : decode cX2_setCosts 99 = .ok (.imul, 1) := by decide +kernel
theorem dX2_setCosts_100 : decode cX2_setCosts 100 = .ok (.iload 9, 2) := by decide +kernel
theorem dX2_setCosts_102 : decode cX2_setCosts 102 = .ok (.iadd, 1) := by decide +kernel
theorem dX2_setCosts_103 : decode cX2_setCosts 103 = .ok (.lload 10, 2) := by decide +kernel
theorem dX2_setCosts_105 : decode cX2_setCosts 105 = .ok (.lastore, 1) := by decide +kernel
theorem dX2_setCosts_106 : decode cX2_setCosts 106 = .ok (.iinc 9 1, 3) := by decide +kernel
theorem dX2_setCosts_109 : decode cX2_setCosts 109 = .ok (.goto (-84), 3) := by decide +kernel
theorem dX2_setCosts_112 : decode cX2_setCosts 112 = .ok (.iinc 8 1, 3) := by decide +kernel
theorem dX2_setCosts_115 : decode cX2_setCosts 115 = .ok (.goto (-107), 3) := by decide +kernel
theorem dX2_setCosts_118 : decode cX2_setCosts 118 = .ok (.return_, 1) := by decide +kernel
theorem dX2_settle_0 : decode cX2_settle 0 = .ok (.aload_n 0, 1) := by decide +kernel
theorem dX2_settle_1 : decode cX2_settle 1 = .ok (.getfield 25, 3) := by decide +kernel
theorem dX2_settle_4 : decode cX2_settle 4 = .ok (.ldc2_w 73, 3) := by decide +kernel
theorem dX2_settle_7 : decode cX2_settle 7 = .ok (.invokestatic 48, 3) := by decide +kernel
theorem dX2_settle_10 : decode cX2_settle 10 = .ok (.iconst 0, 1) := by decide +kernel
theorem dX2_settle_11 : decode cX2_settle 11 = .ok (.istore_n 3, 1) := by decide +kernel
theorem dX2_settle_12 : decode cX2_settle 12 = .ok (.iload_n 3, 1) := by decide +kernel
theorem dX2_settle_13 : decode cX2_settle 13 = .ok (.iload_n 2, 1) := by decide +kernel
theorem dX2_settle_14 : decode cX2_settle 14 = .ok (.if_icmp .gt 16, 3) := by decide +kernel
theorem dX2_settle_17 : decode cX2_settle 17 = .ok (.aload_n 0, 1) := by decide +kernel
theorem dX2_settle_18 : decode cX2_settle 18 = .ok (.getfield 34, 3) := by decide +kernel
theorem dX2_settle_21 : decode cX2_settle 21 = .ok (.iload_n 3, 1) := by decide +kernel
theorem dX2_settle_22 : decode cX2_settle 22 = .ok (.iconst 0, 1) := by decide +kernel
theorem dX2_settle_23 : decode cX2_settle 23 = .ok (.bastore, 1) := by decide +kernel
theorem dX2_settle_24 : decode cX2_settle 24 = .ok (.iinc 3 1, 3) := by decide +kernel
theorem dX2_settle_27 : decode cX2_settle 27 = .ok (.goto (-15), 3) := by decide +kernel
theorem dX2_settle_30 : decode cX2_settle 30 = .ok (.aload_n 0, 1) := by decide +kernel
theorem dX2_settle_31 : decode cX2_settle 31 = .ok (.getfield 28, 3) := by decide +kernel
theorem dX2_settle_34 : decode cX2_settle 34 = .ok (.iconst 0, 1) := by decide +kernel
theorem dX2_settle_35 : decode cX2_settle 35 = .ok (.iload_n 1, 1) := by decide +kernel
theorem dX2_settle_36 : decode cX2_settle 36 = .ok (.iastore, 1) := by decide +kernel
theorem dX2_settle_37 : decode cX2_settle 37 = .ok (.iconst 0, 1) := by decide +kernel
theorem dX2_settle_38 : decode cX2_settle 38 = .ok (.istore_n 3, 1) := by decide +kernel
theorem dX2_settle_39 : decode cX2_settle 39 = .ok (.iconst 0, 1) := by decide +kernel
theorem dX2_settle_40 : decode cX2_settle 40 = .ok (.istore 4, 2) := by decide +kernel
theorem dX2_settle_42 : decode cX2_settle 42 = .ok (.iload 4, 2) := by decide +kernel
theorem dX2_settle_44 : decode cX2_settle 44 = .ok (.iload_n 2, 1) := by decide +kernel
theorem dX2_settle_45 : decode cX2_settle 45 = .ok (.if_icmp .gt 25, 3) := by decide +kernel
theorem dX2_settle_48 : decode cX2_settle 48 = .ok (.aload_n 0, 1) := by decide +kernel
theorem dX2_settle_49 : decode cX2_settle 49 = .ok (.getfield 28, 3) := by decide +kernel
theorem dX2_settle_52 : decode cX2_settle 52 = .ok (.iload_n 3, 1) := by decide +kernel
theorem dX2_settle_53 : decode cX2_settle 53 = .ok (.iaload, 1) := by decide +kernel
theorem dX2_settle_54 : decode cX2_settle 54 = .ok (.ifCond .eq 16, 3) := by decide +kernel
theorem dX2_settle_57 : decode cX2_settle 57 = .ok (.aload_n 0, 1) := by decide +kernel
theorem dX2_settle_58 : decode cX2_settle 58 = .ok (.iload_n 3, 1) := by decide +kernel
theorem dX2_settle_59 : decode cX2_settle 59 = .ok (.iload_n 2, 1) := by decide +kernel
theorem dX2_settle_60 : decode cX2_settle 60 = .ok (.invokevirtual 75, 3) := by decide +kernel
theorem dX2_settle_63 : decode cX2_settle 63 = .ok (.istore_n 3, 1) := by decide +kernel
theorem dX2_settle_64 : decode cX2_settle 64 = .ok (.iinc 4 1, 3) := by decide +kernel
theorem dX2_settle_67 : decode cX2_settle 67 = .ok (.goto (-25), 3) := by decide +kernel
theorem dX2_settle_70 : decode cX2_settle 70 = .ok (.iconst 0, 1) := by decide +kernel
theorem dX2_settle_71 : decode cX2_settle 71 = .ok (.istore 4, 2) := by decide +kernel
theorem dX2_settle_73 : decode cX2_settle 73 = .ok (.iload 4, 2) := by decide +kernel
theorem dX2_settle_75 : decode cX2_settle 75 = .ok (.iload_n 2, 1) := by decide +kernel
theorem dX2_settle_76 : decode cX2_settle 76 = .ok (.if_icmp .gt 37, 3) := by decide +kernel
theorem dX2_settle_79 : decode cX2_settle 79 = .ok (.iload_n 3, 1) := by decide +kernel
theorem dX2_settle_80 : decode cX2_settle 80 = .ok (.ifCond .eq 33, 3) := by decide +kernel
theorem dX2_settle_83 : decode cX2_settle 83 = .ok (.aload_n 0, 1) := by decide +kernel
theorem dX2_settle_84 : decode cX2_settle 84 = .ok (.getfield 28, 3) := by decide +kernel
theorem dX2_settle_87 : decode cX2_settle 87 = .ok (.iload_n 3, 1) := by decide +kernel
theorem dX2_settle_88 : decode cX2_settle 88 = .ok (.aload_n 0, 1) := by decide +kernel
theorem dX2_settle_89 : decode cX2_settle 89 = .ok (.getfield 28, 3) := by decide +kernel
theorem dX2_settle_92 : decode cX2_settle 92 = .ok (.aload_n 0, 1) := by decide +kernel
theorem dX2_settle_93 : decode cX2_settle 93 = .ok (.getfield 31, 3) := by decide +kernel
theorem dX2_settle_96 : decode cX2_settle 96 = .ok (.iload_n 3, 1) := by decide +kernel
theorem dX2_settle_97 : decode cX2_settle 97 = .ok (.iaload, 1) := by decide +kernel
theorem dX2_settle_98 : decode cX2_settle 98 = .ok (.iaload, 1) := by decide +kernel
theorem dX2_settle_99 : decode cX2_settle 99 = .ok (.iastore, 1) := by decide +kernel
theorem dX2_settle_100 : decode cX2_settle 100 = .ok (.aload_n 0, 1) := by decide +kernel
theorem dX2_settle_101 : decode cX2_settle 101 = .ok (.getfield 31, 3) := by decide +kernel
theorem dX2_settle_104 : decode cX2_settle 104 = .ok (.iload_n 3, 1) := by decide +kernel
theorem dX2_settle_105 : decode cX2_settle 105 = .ok (.iaload, 1) := by decide +kernel
theorem dX2_settle_106 : decode cX2_settle 106 = .ok (.istore_n 3, 1) := by decide +kernel
theorem dX2_settle_107 : decode cX2_settle 107 = .ok (.iinc 4 1, 3) := by decide +kernel
theorem dX2_settle_110 : decode cX2_settle 110 = .ok (.goto (-37), 3) := by decide +kernel
theorem dX2_settle_113 : decode cX2_settle 113 = .ok (.return_, 1) := by decide +kernel
theorem dX2_advance_0 : decode cX2_advance 0 = .ok (.aload_n 0, 1) := by decide +kernel
theorem dX2_advance_1 : decode cX2_advance 1 = .ok (.getfield 34, 3) := by decide +kernel
theorem dX2_advance_4 : decode cX2_advance 4 = .ok (.iload_n 1, 1) := by decide +kernel
theorem dX2_advance_5 : decode cX2_advance 5 = .ok (.iconst 1, 1) := by decide +kernel
theorem dX2_advance_6 : decode cX2_advance 6 = .ok (.bastore, 1) := by decide +kernel
theorem dX2_advance_7 : decode cX2_advance 7 = .ok (.aload_n 0, 1) := by decide +kernel
theorem dX2_advance_8 : decode cX2_advance 8 = .ok (.getfield 28, 3) := by decide +kernel
theorem dX2_advance_11 : decode cX2_advance 11 = .ok (.iload_n 1, 1) := by decide +kernel
theorem dX2_advance_12 : decode cX2_advance 12 = .ok (.iaload, 1) := by decide +kernel
theorem dX2_advance_13 : decode cX2_advance 13 = .ok (.istore_n 3, 1) := by decide +kernel
theorem dX2_advance_14 : decode cX2_advance 14 = .ok (.ldc2_w 73, 3) := by decide +kernel
theorem dX2_advance_17 : decode cX2_advance 17 = .ok (.lstore 4, 2) := by decide +kernel
theorem dX2_advance_19 : decode cX2_advance 19 = .ok (.iconst 0, 1) := by decide +kernel
theorem dX2_advance_20 : decode cX2_advance 20 = .ok (.istore 6, 2) := by decide +kernel
theorem dX2_advance_22 : decode cX2_advance 22 = .ok (.iconst 1, 1) := by decide +kernel
theorem dX2_advance_23 : decode cX2_advance 23 = .ok (.istore 7, 2) := by decide +kernel
theorem dX2_advance_25 : decode cX2_advance 25 = .ok (.iload 7, 2) := by decide +kernel
theorem dX2_advance_27 : decode cX2_advance 27 = .ok (.iload_n 2, 1) := by decide +kernel
theorem dX2_advance_28 : decode cX2_advance 28 = .ok (.if_icmp .gt 107, 3) := by decide +kernel
theorem dX2_advance_31 : decode cX2_advance 31 = .ok (.aload_n 0, 1) := by decide +kernel
theorem dX2_advance_32 : decode cX2_advance 32 = .ok (.getfield 34, 3) := by decide +kernel
theorem dX2_advance_35 : decode cX2_advance 35 = .ok (.iload 7, 2) := by decide +kernel
theorem dX2_advance_37 : decode cX2_advance 37 = .ok (.baload, 1) := by decide +kernel
theorem dX2_advance_38 : decode cX2_advance 38 = .ok (.ifCond .eq 6, 3) := by decide +kernel
theorem dX2_advance_41 : decode cX2_advance 41 = .ok (.goto 88, 3) := by decide +kernel
theorem dX2_advance_44 : decode cX2_advance 44 = .ok (.aload_n 0, 1) := by decide +kernel
theorem dX2_advance_45 : decode cX2_advance 45 = .ok (.getfield 15, 3) := by decide +kernel
theorem dX2_advance_48 : decode cX2_advance 48 = .ok (.iload_n 3, 1) := by decide +kernel
theorem dX2_advance_49 : decode cX2_advance 49 = .ok (.bipush 9, 2) := by decide +kernel
theorem dX2_advance_51 : decode cX2_advance 51 = .ok (.imul, 1) := by decide +kernel
theorem dX2_advance_52 : decode cX2_advance 52 = .ok (.iload 7, 2) := by decide +kernel
theorem dX2_advance_54 : decode cX2_advance 54 = .ok (.iadd, 1) := by decide +kernel
theorem dX2_advance_55 : decode cX2_advance 55 = .ok (.laload, 1) := by decide +kernel
theorem dX2_advance_56 : decode cX2_advance 56 = .ok (.aload_n 0, 1) := by decide +kernel
theorem dX2_advance_57 : decode cX2_advance 57 = .ok (.getfield 19, 3) := by decide +kernel
theorem dX2_advance_60 : decode cX2_advance 60 = .ok (.iload_n 3, 1) := by decide +kernel
theorem dX2_advance_61 : decode cX2_advance 61 = .ok (.laload, 1) := by decide +kernel
theorem dX2_advance_62 : decode cX2_advance 62 = .ok (.lsub, 1) := by decide +kernel
theorem dX2_advance_63 : decode cX2_advance 63 = .ok (.aload_n 0, 1) := by decide +kernel
theorem dX2_advance_64 : decode cX2_advance 64 = .ok (.getfield 22, 3) := by decide +kernel
theorem dX2_advance_67 : decode cX2_advance 67 = .ok (.iload 7, 2) := by decide +kernel
