theorem dX6_plate_46 : decode cX6_plate 46 = .ok (.goto (-23), 3) := by decide +kernel
theorem dX6_plate_49 : decode cX6_plate 49 = .ok (.aload_n 0, 1) := by decide +kernel
theorem dX6_plate_50 : decode cX6_plate 50 = .ok (.getfield 13, 3) := by decide +kernel
theorem dX6_plate_53 : decode cX6_plate 53 = .ok (.aload_n 0, 1) := by decide +kernel
theorem dX6_plate_54 : decode cX6_plate 54 = .ok (.getfield 48, 3) := by decide +kernel
theorem dX6_plate_57 : decode cX6_plate 57 = .ok (.iload_n 1, 1) := by decide +kernel
theorem dX6_plate_58 : decode cX6_plate 58 = .ok (.iastore, 1) := by decide +kernel
theorem dX6_plate_59 : decode cX6_plate 59 = .ok (.aload_n 0, 1) := by decide +kernel
theorem dX6_plate_60 : decode cX6_plate 60 = .ok (.getfield 17, 3) := by decide +kernel
theorem dX6_plate_63 : decode cX6_plate 63 = .ok (.aload_n 0, 1) := by decide +kernel
theorem dX6_plate_64 : decode cX6_plate 64 = .ok (.getfield 48, 3) := by decide +kernel
theorem dX6_plate_67 : decode cX6_plate 67 = .ok (.iconst 0, 1) := by decide +kernel
theorem dX6_plate_68 : decode cX6_plate 68 = .ok (.iastore, 1) := by decide +kernel
theorem dX6_plate_69 : decode cX6_plate 69 = .ok (.aload_n 0, 1) := by decide +kernel
theorem dX6_plate_70 : decode cX6_plate 70 = .ok (.dup, 1) := by decide +kernel
theorem dX6_plate_71 : decode cX6_plate 71 = .ok (.getfield 48, 3) := by decide +kernel
theorem dX6_plate_74 : decode cX6_plate 74 = .ok (.iconst 1, 1) := by decide +kernel
theorem dX6_plate_75 : decode cX6_plate 75 = .ok (.iadd, 1) := by decide +kernel
theorem dX6_plate_76 : decode cX6_plate 76 = .ok (.putfield 48, 3) := by decide +kernel
theorem dX6_plate_79 : decode cX6_plate 79 = .ok (.aload_n 0, 1) := by decide +kernel
theorem dX6_plate_80 : decode cX6_plate 80 = .ok (.invokevirtual 55, 3) := by decide +kernel
theorem dX6_plate_83 : decode cX6_plate 83 = .ok (.aload_n 0, 1) := by decide +kernel
theorem dX6_plate_84 : decode cX6_plate 84 = .ok (.getfield 48, 3) := by decide +kernel
theorem dX6_plate_87 : decode cX6_plate 87 = .ok (.iconst 1, 1) := by decide +kernel
theorem dX6_plate_88 : decode cX6_plate 88 = .ok (.isub, 1) := by decide +kernel
theorem dX6_plate_89 : decode cX6_plate 89 = .ok (.ireturn, 1) := by decide +kernel
theorem dX6_spot_0 : decode cX6_spot 0 = .ok (.aload_n 0, 1) := by decide +kernel
theorem dX6_spot_1 : decode cX6_spot 1 = .ok (.iload_n 1, 1) := by decide +kernel
theorem dX6_spot_2 : decode cX6_spot 2 = .ok (.invokevirtual 58, 3) := by decide +kernel
theorem dX6_spot_5 : decode cX6_spot 5 = .ok (.ifCond .eq 36, 3) := by decide +kernel
theorem dX6_spot_8 : decode cX6_spot 8 = .ok (.iload_n 2, 1) := by decide +kernel
theorem dX6_spot_9 : decode cX6_spot 9 = .ok (.iconst 0, 1) := by decide +kernel
theorem dX6_spot_10 : decode cX6_spot 10 = .ok (.sipush 999, 3) := by decide +kernel
theorem dX6_spot_13 : decode cX6_spot 13 = .ok (.invokestatic 51, 3) := by decide +kernel
theorem dX6_spot_16 : decode cX6_spot 16 = .ok (.ifCond .eq 25, 3) := by decide +kernel
theorem dX6_spot_19 : decode cX6_spot 19 = .ok (.iload_n 3, 1) := by decide +kernel
theorem dX6_spot_20 : decode cX6_spot 20 = .ok (.iconst 0, 1) := by decide +kernel
theorem dX6_spot_21 : decode cX6_spot 21 = .ok (.sipush 999, 3) := by decide +kernel
theorem dX6_spot_24 : decode cX6_spot 24 = .ok (.invokestatic 51, 3) := by decide +kernel
theorem dX6_spot_27 : decode cX6_spot 27 = .ok (.ifCond .eq 14, 3) := by decide +kernel
theorem dX6_spot_30 : decode cX6_spot 30 = .ok (.aload_n 0, 1) := by decide +kernel
theorem dX6_spot_31 : decode cX6_spot 31 = .ok (.getfield 17, 3) := by decide +kernel
theorem dX6_spot_34 : decode cX6_spot 34 = .ok (.iload_n 1, 1) := by decide +kernel
theorem dX6_spot_35 : decode cX6_spot 35 = .ok (.iaload, 1) := by decide +kernel
theorem dX6_spot_36 : decode cX6_spot 36 = .ok (.bipush 8, 2) := by decide +kernel
theorem dX6_spot_38 : decode cX6_spot 38 = .ok (.if_icmp .ne 5, 3) := by decide +kernel
theorem dX6_spot_41 : decode cX6_spot 41 = .ok (.iconst (-1), 1) := by decide +kernel
theorem dX6_spot_42 : decode cX6_spot 42 = .ok (.ireturn, 1) := by decide +kernel
theorem dX6_spot_43 : decode cX6_spot 43 = .ok (.iconst 0, 1) := by decide +kernel
theorem dX6_spot_44 : decode cX6_spot 44 = .ok (.istore 4, 2) := by decide +kernel
theorem dX6_spot_46 : decode cX6_spot 46 = .ok (.iload 4, 2) := by decide +kernel
theorem dX6_spot_48 : decode cX6_spot 48 = .ok (.aload_n 0, 1) := by decide +kernel
theorem dX6_spot_49 : decode cX6_spot 49 = .ok (.getfield 17, 3) := by decide +kernel
theorem dX6_spot_52 : decode cX6_spot 52 = .ok (.iload_n 1, 1) := by decide +kernel
theorem dX6_spot_53 : decode cX6_spot 53 = .ok (.iaload, 1) := by decide +kernel
theorem dX6_spot_54 : decode cX6_spot 54 = .ok (.if_icmp .ge 43, 3) := by decide +kernel
theorem dX6_spot_57 : decode cX6_spot 57 = .ok (.aload_n 0, 1) := by decide +kernel
theorem dX6_spot_58 : decode cX6_spot 58 = .ok (.getfield 20, 3) := by decide +kernel
theorem dX6_spot_61 : decode cX6_spot 61 = .ok (.bipush 8, 2) := by decide +kernel
theorem dX6_spot_63 : decode cX6_spot 63 = .ok (.iload_n 1, 1) := by decide +kernel
theorem dX6_spot_64 : decode cX6_spot 64 = .ok (.imul, 1) := by decide +kernel
theorem dX6_spot_65 : decode cX6_spot 65 = .ok (.iload 4, 2) := by decide +kernel
theorem dX6_spot_67 : decode cX6_spot 67 = .ok (.iadd, 1) := by decide +kernel
theorem dX6_spot_68 : decode cX6_spot 68 = .ok (.iaload, 1) := by decide +kernel
theorem dX6_spot_69 : decode cX6_spot 69 = .ok (.iload_n 2, 1) := by decide +kernel
theorem dX6_spot_70 : decode cX6_spot 70 = .ok (.if_icmp .ne 21, 3) := by decide +kernel
theorem dX6_spot_73 : decode cX6_spot 73 = .ok (.aload_n 0, 1) := by decide +kernel
theorem dX6_spot_74 : decode cX6_spot 74 = .ok (.getfield 23, 3) := by decide +kernel
theorem dX6_spot_77 : decode cX6_spot 77 = .ok (.bipush 8, 2) := by decide +kernel
theorem dX6_spot_79 : decode cX6_spot 79 = .ok (.iload_n 1, 1) := by decide +kernel
theorem dX6_spot_80 : decode cX6_spot 80 = .ok (.imul, 1) := by decide +kernel
theorem dX6_spot_81 : decode cX6_spot 81 = .ok (.iload 4, 2) := by decide +kernel
theorem dX6_spot_83 : decode cX6_spot 83 = .ok (.iadd, 1) := by decide +kernel
theorem dX6_spot_84 : decode cX6_spot 84 = .ok (.iaload, 1) := by decide +kernel
theorem dX6_spot_85 : decode cX6_spot 85 = .ok (.iload_n 3, 1) := by decide +kernel
theorem dX6_spot_86 : decode cX6_spot 86 = .ok (.if_icmp .ne 5, 3) := by decide +kernel
theorem dX6_spot_89 : decode cX6_spot 89 = .ok (.iconst (-1), 1) := by decide +kernel
theorem dX6_spot_90 : decode cX6_spot 90 = .ok (.ireturn, 1) := by decide +kernel
theorem dX6_spot_91 : decode cX6_spot 91 = .ok (.iinc 4 1, 3) := by decide +kernel
theorem dX6_spot_94 : decode cX6_spot 94 = .ok (.goto (-48), 3) := by decide +kernel
theorem dX6_spot_97 : decode cX6_spot 97 = .ok (.aload_n 0, 1) := by decide +kernel
theorem dX6_spot_98 : decode cX6_spot 98 = .ok (.getfield 20, 3) := by decide +kernel
theorem dX6_spot_101 : decode cX6_spot 101 = .ok (.bipush 8, 2) := by decide +kernel
theorem dX6_spot_103 : decode cX6_spot 103 = .ok (.iload_n 1, 1) := by decide +kernel
theorem dX6_spot_104 : decode cX6_spot 104 = .ok (.imul, 1) := by decide +kernel
theorem dX6_spot_105 : decode cX6_spot 105 = .ok (.aload_n 0, 1) := by decide +kernel
theorem dX6_spot_106 : decode cX6_spot 106 = .ok (.getfield 17, 3) := by decide +kernel
theorem dX6_spot_109 : decode cX6_spot 109 = .ok (.iload_n 1, 1) := by decide +kernel
theorem dX6_spot_110 : decode cX6_spot 110 = .ok (.iaload, 1) := by decide +kernel
theorem dX6_spot_111 : decode cX6_spot 111 = .ok (.iadd, 1) := by decide +kernel
theorem dX6_spot_112 : decode cX6_spot 112 = .ok (.iload_n 2, 1) := by decide +kernel
theorem dX6_spot_113 : decode cX6_spot 113 = .ok (.iastore, 1) := by decide +kernel
theorem dX6_spot_114 : decode cX6_spot 114 = .ok (.aload_n 0, 1) := by decide +kernel
theorem dX6_spot_115 : decode cX6_spot 115 = .ok (.getfield 23, 3) := by decide +kernel
theorem dX6_spot_118 : decode cX6_spot 118 = .ok (.bipush 8, 2) := by decide +kernel
theorem dX6_spot_120 : decode cX6_spot 120 = .ok (.iload_n 1, 1) := by decide +kernel
theorem dX6_spot_121 : decode cX6_spot 121 = .ok (.imul, 1) := by decide +kernel
theorem dX6_spot_122 : decode cX6_spot 122 = .ok (.aload_n 0, 1) := by decide +kernel
theorem dX6_spot_123 : decode cX6_spot 123 = .ok (.getfield 17, 3) := by decide +kernel
theorem dX6_spot_126 : decode cX6_spot 126 = .ok (.iload_n 1, 1) := by decide +kernel
theorem dX6_spot_127 : decode cX6_spot 127 = .ok (.iaload, 1) := by decide +kernel
theorem dX6_spot_128 : decode cX6_spot 128 = .ok (.iadd, 1) := by decide +kernel
theorem dX6_spot_129 : decode cX6_spot 129 = .ok (.iload_n 3, 1) := by decide +kernel
theorem dX6_spot_130 : decode cX6_spot 130 = .ok (.iastore, 1) := by decide +kernel
theorem dX6_spot_131 : decode cX6_spot 131 = .ok (.aload_n 0, 1) := by decide +kernel
theorem dX6_spot_132 : decode cX6_spot 132 = .ok (.getfield 17, 3) := by decide +kernel
theorem dX6_spot_135 : decode cX6_spot 135 = .ok (.iload_n 1, 1) := by decide +kernel
theorem dX6_spot_136 : decode cX6_spot 136 = .ok (.dup2, 1) := by decide +kernel
theorem dX6_spot_137 : decode cX6_spot 137 = .ok (.iaload, 1) := by decide +kernel
theorem dX6_spot_138 : decode cX6_spot 138 = .ok (.iconst 1, 1) := by decide +kernel
theorem dX6_spot_139 : decode cX6_spot 139 = .ok (.iadd, 1) := by decide +kernel
theorem dX6_spot_140 : decode cX6_spot 140 = .ok (.iastore, 1) := by decide +kernel
theorem dX6_spot_141 : decode cX6_spot 141 = .ok (.aload_n 0, 1) := by decide +kernel
theorem dX6_spot_142 : decode cX6_spot 142 = .ok (.invokevirtual 55, 3) := by decide +kernel
theorem dX6_spot_145 : decode cX6_spot 145 = .ok (.aload_n 0, 1) := by decide +kernel
theorem dX6_spot_146 : decode cX6_spot 146 = .ok (.getfield 17, 3) := by decide +kernel
theorem dX6_spot_149 : decode cX6_spot 149 = .ok (.iload_n 1, 1) := by decide +kernel
theorem dX6_spot_150 : decode cX6_spot 150 = .ok (.iaload, 1) := by decide +kernel
theorem dX6_spot_151 : decode cX6_spot 151 = .ok (.iconst 1, 1) := by decide +kernel
theorem dX6_spot_152 : decode cX6_spot 152 = .ok (.isub, 1) := by decide +kernel
theorem dX6_spot_153 : decode cX6_spot 153 = .ok (.ireturn, 1) := by decide +kernel
theorem dX6_wipe_0 : decode cX6_wipe 0 = .ok (.aload_n 0, 1) := by decide +kernel
theorem dX6_wipe_1 : decode cX6_wipe 1 = .ok (.iload_n 1, 1) := by decide +kernel
theorem dX6_wipe_2 : decode cX6_wipe 2 = .ok (.invokevirtual 58, 3) := by decide +kernel
theorem dX6_wipe_5 : decode cX6_wipe 5 = .ok (.ifCond .eq 19, 3) := by decide +kernel
theorem dX6_wipe_8 : decode cX6_wipe 8 = .ok (.iload_n 2, 1) := by decide +kernel
theorem dX6_wipe_9 : decode cX6_wipe 9 = .ok (.iconst 0, 1) := by decide +kernel
theorem dX6_wipe_10 : decode cX6_wipe 10 = .ok (.aload_n 0, 1) := by decide +kernel
theorem dX6_wipe_11 : decode cX6_wipe 11 = .ok (.getfield 17, 3) := by decide +kernel
theorem dX6_wipe_14 : decode cX6_wipe 14 = .ok (.iload_n 1, 1) := by decide +kernel
theorem dX6_wipe_15 : decode cX6_wipe 15 = .ok (.iaload, 1) := by decide +kernel
theorem dX6_wipe_16 : decode cX6_wipe 16 = .ok (.iconst 1, 1) := by decide +kernel
theorem dX6_wipe_17 : decode cX6_wipe 17 = .ok (.isub, 1) := by decide +kernel
theorem dX6_wipe_18 : decode cX6_wipe 18 = .ok (.invokestatic 51, 3) := by decide +kernel
theorem dX6_wipe_21 : decode cX6_wipe 21 = .ok (.ifCond .ne 5, 3) := by decide +kernel
theorem dX6_wipe_24 : decode cX6_wipe 24 = .ok (.iconst 0, 1) := by decide +kernel
theorem dX6_wipe_25 : decode cX6_wipe 25 = .ok (.ireturn, 1) := by decide +kernel
theorem dX6_wipe_26 : decode cX6_wipe 26 = .ok (.aload_n 0, 1) := by decide +kernel
theorem dX6_wipe_27 : decode cX6_wipe 27 = .ok (.getfield 17, 3) := by decide +kernel
theorem dX6_wipe_30 : decode cX6_wipe 30 = .ok (.iload_n 1, 1) := by decide +kernel
theorem dX6_wipe_31 : decode cX6_wipe 31 = .ok (.dup2, 1) := by decide +kernel
theorem dX6_wipe_32 : decode cX6_wipe 32 = .ok (.iaload, 1) := by decide +kernel
theorem dX6_wipe_33 : decode cX6_wipe 33 = .ok (.iconst 1, 1) := by decide +kernel
theorem dX6_wipe_34 : decode cX6_wipe 34 = .ok (.isub, 1) := by decide +kernel
theorem dX6_wipe_35 : decode cX6_wipe 35 = .ok (.iastore, 1) := by decide +kernel
theorem dX6_wipe_36 : decode cX6_wipe 36 = .ok (.iload_n 2, 1) := by decide +kernel
theorem dX6_wipe_37 : decode cX6_wipe 37 = .ok (.istore_n 3, 1) := by decide +kernel
theorem dX6_wipe_38 : decode cX6_wipe 38 = .ok (.iload_n 3, 1) := by decide +kernel
theorem dX6_wipe_39 : decode cX6_wipe 39 = .ok (.aload_n 0, 1) := by decide +kernel
theorem dX6_wipe_40 : decode cX6_wipe 40 = .ok (.getfield 17, 3) := by decide +kernel
theorem dX6_wipe_43 : decode cX6_wipe 43 = .ok (.iload_n 1, 1) := by decide +kernel
theorem dX6_wipe_44 : decode cX6_wipe 44 = .ok (.iaload, 1) := by decide +kernel
theorem dX6_wipe_45 : decode cX6_wipe 45 = .ok (.if_icmp .ge 57, 3) := by decide +kernel
theorem dX6_wipe_48 : decode cX6_wipe 48 = .ok (.aload_n 0, 1) := by decide +kernel
theorem dX6_wipe_49 : decode cX6_wipe 49 = .ok (.getfield 20, 3) := by decide +kernel
theorem dX6_wipe_52 : decode cX6_wipe 52 = .ok (.bipush 8, 2) := by decide +kernel
theorem dX6_wipe_54 : decode cX6_wipe 54 = .ok (.iload_n 1, 1) := by decide +kernel
theorem dX6_wipe_55 : decode cX6_wipe 55 = .ok (.imul, 1) := by decide +kernel
theorem dX6_wipe_56 : decode cX6_wipe 56 = .ok (.iload_n 3, 1) := by decide +kernel
theorem dX6_wipe_57 : decode cX6_wipe 57 = .ok (.iadd, 1) := by decide +kernel
theorem dX6_wipe_58 : decode cX6_wipe 58 = .ok (.aload_n 0, 1) := by decide +kernel
theorem dX6_wipe_59 : decode cX6_wipe 59 = .ok (.getfield 20, 3) := by decide +kernel
theorem dX6_wipe_62 : decode cX6_wipe 62 = .ok (.bipush 8, 2) := by decide +kernel
theorem dX6_wipe_64 : decode cX6_wipe 64 = .ok (.iload_n 1, 1) := by decide +kernel
theorem dX6_wipe_65 : decode cX6_wipe 65 = .ok (.imul, 1) := by decide +kernel
theorem dX6_wipe_66 : decode cX6_wipe 66 = .ok (.iload_n 3, 1) := by decide +kernel
theorem dX6_wipe_67 : decode cX6_wipe 67 = .ok (.iadd, 1) := by decide +kernel
theorem dX6_wipe_68 : decode cX6_wipe 68 = .ok (.iconst 1, 1) := by decide +kernel
theorem dX6_wipe_69 : decode cX6_wipe 69 = .ok (.iadd, 1) := by decide +kernel
theorem dX6_wipe_70 : decode cX6_wipe 70 = .ok (.iaload, 1) := by decide +kernel
theorem dX6_wipe_71 : decode cX6_wipe 71 = .ok (.iastore, 1) := by decide +kernel
theorem dX6_wipe_72 : decode cX6_wipe 72 = .ok (.aload_n 0, 1) := by decide +kernel
theorem dX6_wipe_73 : decode cX6_wipe 73 = .ok (.getfield 23, 3) := by decide +kernel
theorem dX6_wipe_76 : decode cX6_wipe 76 = .ok (.bipush 8, 2) := by decide +kernel
theorem dX6_wipe_78 : decode cX6_wipe 78 = .ok (.iload_n 1, 1) := by decide +kernel
theorem dX6_wipe_79 : decode cX6_wipe 79 = .ok (.imul, 1) := by decide +kernel
theorem dX6_wipe_80 : decode cX6_wipe 80 = .ok (.iload_n 3, 1) := by decide +kernel
theorem dX6_wipe_81 : decode cX6_wipe 81 = .ok (.iadd, 1) := by decide +kernel
theorem dX6_wipe_82 : decode cX6_wipe 82 = .ok (.aload_n 0, 1) := by decide +kernel
theorem dX6_wipe_83 : decode cX6_wipe 83 = .ok (.getfield 23, 3) := by decide +kernel
theorem dX6_wipe_86 : decode cX6_wipe 86 = .ok (.bipush 8, 2) := by decide +kernel
theorem dX6_wipe_88 : decode cX6_wipe 88 = .ok (.iload_n 1, 1) := by decide +kernel
theorem dX6_wipe_89 : decode cX6_wipe 89 = .ok (.imul, 1) := by decide +kernel
theorem dX6_wipe_90 : decode cX6_wipe 90 = .ok (.iload_n 3, 1) := by decide +kernel
theorem dX6_wipe_91 : decode cX6_wipe 91 = .ok (.iadd, 1) := by decide +kernel
theorem dX6_wipe_92 : decode cX6_wipe 92 = .ok (.iconst 1, 1) := by decide +kernel
theorem dX6_wipe_93 : decode cX6_wipe 93 = .ok (.iadd, 1) := by decide +kernel
theorem dX6_wipe_94 : decode cX6_wipe 94 = .ok (.iaload, 1) := by decide +kernel
theorem dX6_wipe_95 : decode cX6_wipe 95 = .ok (.iastore, 1) := by decide +kernel
theorem dX6_wipe_96 : decode cX6_wipe 96 = .ok (.iinc 3 1, 3) := by decide +kernel
theorem dX6_wipe_99 : decode cX6_wipe 99 = .ok (.goto (-61), 3) := by decide +kernel
theorem dX6_wipe_102 : decode cX6_wipe 102 = .ok (.aload_n 0, 1) := by decide +kernel
theorem dX6_wipe_103 : decode cX6_wipe 103 = .ok (.invokevirtual 55, 3) := by decide +kernel
theorem dX6_wipe_106 : decode cX6_wipe 106 = .ok (.iconst 1, 1) := by decide +kernel
theorem dX6_wipe_107 : decode cX6_wipe 107 = .ok (.ireturn, 1) := by decide +kernel
theorem dX6_reach_0 : decode cX6_reach 0 = .ok (.iload_n 1, 1) := by decide +kernel
theorem dX6_reach_1 : decode cX6_reach 1 = .ok (.iconst 0, 1) := by decide +kernel
theorem dX6_reach_2 : decode cX6_reach 2 = .ok (.bipush 50, 2) := by decide +kernel
theorem dX6_reach_4 : decode cX6_reach 4 = .ok (.invokestatic 51, 3) := by decide +kernel
theorem dX6_reach_7 : decode cX6_reach 7 = .ok (.ifCond .ne 5, 3) := by decide +kernel
theorem dX6_reach_10 : decode cX6_reach 10 = .ok (.iconst 0, 1) := by decide +kernel
theorem dX6_reach_11 : decode cX6_reach 11 = .ok (.ireturn, 1) := by decide +kernel
theorem dX6_reach_12 : decode cX6_reach 12 = .ok (.aload_n 0, 1) := by decide +kernel
theorem dX6_reach_13 : decode cX6_reach 13 = .ok (.iload_n 1, 1) := by decide +kernel
theorem dX6_reach_14 : decode cX6_reach 14 = .ok (.putfield 7, 3) := by decide +kernel
theorem dX6_reach_17 : decode cX6_reach 17 = .ok (.aload_n 0, 1) := by decide +kernel
theorem dX6_reach_18 : decode cX6_reach 18 = .ok (.invokevirtual 55, 3) := by decide +kernel
theorem dX6_reach_21 : decode cX6_reach 21 = .ok (.iconst 1, 1) := by decide +kernel
theorem dX6_reach_22 : decode cX6_reach 22 = .ok (.ireturn, 1) := by decide +kernel
theorem dX6_turnX_0 : decode cX6_turnX 0 = .ok (.iload_n 0, 1) := by decide +kernel
theorem dX6_turnX_1 : decode cX6_turnX 1 = .ok (.ifCond .ne 7, 3) := by decide +kernel
theorem dX6_turnX_4 : decode cX6_turnX 4 = .ok (.iload_n 1, 1) := by decide +kernel
theorem dX6_turnX_5 : decode cX6_turnX 5 = .ok (.goto 24, 3) := by decide +kernel
theorem dX6_turnX_8 : decode cX6_turnX 8 = .ok (.iload_n 0, 1) := by decide +kernel
theorem dX6_turnX_9 : decode cX6_turnX 9 = .ok (.iconst 1, 1) := by decide +kernel
theorem dX6_turnX_10 : decode cX6_turnX 10 = .ok (.if_icmp .ne 8, 3) := by decide +kernel
theorem dX6_turnX_13 : decode cX6_turnX 13 = .ok (.iload_n 2, 1) := by decide +kernel
theorem dX6_turnX_14 : decode cX6_turnX 14 = .ok (.ineg, 1) := by decide +kernel
theorem dX6_turnX_15 : decode cX6_turnX 15 = .ok (.goto 14, 3) := by decide +kernel
theorem dX6_turnX_18 : decode cX6_turnX 18 = .ok (.iload_n 0, 1) := by decide +kernel
theorem dX6_turnX_19 : decode cX6_turnX 19 = .ok (.iconst 2, 1) := by decide +kernel
theorem dX6_turnX_20 : decode cX6_turnX 20 = .ok (.if_icmp .ne 8, 3) := by decide +kernel
theorem dX6_turnX_23 : decode cX6_turnX 23 = .ok (.iload_n 1, 1) := by decide +kernel
theorem dX6_turnX_24 : decode cX6_turnX 24 = .ok (.ineg, 1) := by decide +kernel
theorem dX6_turnX_25 : decode cX6_turnX 25 = .ok (.goto 4, 3) := by decide +kernel
theorem dX6_turnX_28 : decode cX6_turnX 28 = .ok (.iload_n 2, 1) := by decide +kernel
theorem dX6_turnX_29 : decode cX6_turnX 29 = .ok (.ireturn, 1) := by decide +kernel
theorem dX6_turnY_0 : decode cX6_turnY 0 = .ok (.iload_n 0, 1) := by decide +kernel
theorem dX6_turnY_1 : decode cX6_turnY 1 = .ok (.ifCond .ne 7, 3) := by decide +kernel
theorem dX6_turnY_4 : decode cX6_turnY 4 = .ok (.iload_n 2, 1) := by decide +kernel
theorem dX6_turnY_5 : decode cX6_turnY 5 = .ok (.goto 24, 3) := by decide +kernel
theorem dX6_turnY_8 : decode cX6_turnY 8 = .ok (.iload_n 0, 1) := by decide +kernel
theorem dX6_turnY_9 : decode cX6_turnY 9 = .ok (.iconst 1, 1) := by decide +kernel
theorem dX6_turnY_10 : decode cX6_turnY 10 = .ok (.if_icmp .ne 7, 3) := by decide +kernel
theorem dX6_turnY_13 : decode cX6_turnY 13 = .ok (.iload_n 1, 1) := by decide +kernel
theorem dX6_turnY_14 : decode cX6_turnY 14 = .ok (.goto 15, 3) := by decide +kernel
theorem dX6_turnY_17 : decode cX6_turnY 17 = .ok (.iload_n 0, 1) := by decide +kernel
theorem dX6_turnY_18 : decode cX6_turnY 18 = .ok (.iconst 2, 1) := by decide +kernel
theorem dX6_turnY_19 : decode cX6_turnY 19 = .ok (.if_icmp .ne 8, 3) := by decide +kernel
theorem dX6_turnY_22 : decode cX6_turnY 22 = .ok (.iload_n 2, 1) := by decide +kernel
theorem dX6_turnY_23 : decode cX6_turnY 23 = .ok (.ineg, 1) := by decide +kernel
theorem dX6_turnY_24 : decode cX6_turnY 24 = .ok (.goto 5, 3) := by decide +kernel
theorem dX6_turnY_27 : decode cX6_turnY 27 = .ok (.iload_n 1, 1) := by decide +kernel
theorem dX6_turnY_28 : decode cX6_turnY 28 = .ok (.ineg, 1) := by decide +kernel
theorem dX6_turnY_29 : decode cX6_turnY 29 = .ok (.ireturn, 1) := by decide +kernel
theorem dX6_abs_0 : decode cX6_abs 0 = .ok (.iload_n 0, 1) := by decide +kernel
theorem dX6_abs_1 : decode cX6_abs 1 = .ok (.ifCond .ge 8, 3) := by decide +kernel
theorem dX6_abs_4 : decode cX6_abs 4 = .ok (.iload_n 0, 1) := by decide +kernel
theorem dX6_abs_5 : decode cX6_abs 5 = .ok (.ineg, 1) := by decide +kernel
theorem dX6_abs_6 : decode cX6_abs 6 = .ok (.goto 4, 3) := by decide +kernel
theorem dX6_abs_9 : decode cX6_abs 9 = .ok (.iload_n 0, 1) := by decide +kernel
theorem dX6_abs_10 : decode cX6_abs 10 = .ok (.ireturn, 1) := by decide +kernel
theorem dX6_apart_0 : decode cX6_apart 0 = .ok (.iload_n 0, 1) := by decide +kernel
theorem dX6_apart_1 : decode cX6_apart 1 = .ok (.iload_n 2, 1) := by decide +kernel
theorem dX6_apart_2 : decode cX6_apart 2 = .ok (.isub, 1) := by decide +kernel
theorem dX6_apart_3 : decode cX6_apart 3 = .ok (.invokestatic 62, 3) := by decide +kernel
theorem dX6_apart_6 : decode cX6_apart 6 = .ok (.iload_n 1, 1) := by decide +kernel
theorem dX6_apart_7 : decode cX6_apart 7 = .ok (.iload_n 3, 1) := by decide +kernel
theorem dX6_apart_8 : decode cX6_apart 8 = .ok (.isub, 1) := by decide +kernel
theorem dX6_apart_9 : decode cX6_apart 9 = .ok (.invokestatic 62, 3) := by decide +kernel
theorem dX6_apart_12 : decode cX6_apart 12 = .ok (.if_icmp .le 12, 3) := by decide +kernel
theorem dX6_apart_15 : decode cX6_apart 15 = .ok (.iload_n 0, 1) := by decide +kernel
theorem dX6_apart_16 : decode cX6_apart 16 = .ok (.iload_n 2, 1) := by decide +kernel
theorem dX6_apart_17 : decode cX6_apart 17 = .ok (.isub, 1) := by decide +kernel
theorem dX6_apart_18 : decode cX6_apart 18 = .ok (.invokestatic 62, 3) := by decide +kernel
theorem dX6_apart_21 : decode cX6_apart 21 = .ok (.goto 9, 3) := by decide +kernel
theorem dX6_apart_24 : decode cX6_apart 24 = .ok (.iload_n 1, 1) := by decide +kernel
theorem dX6_apart_25 : decode cX6_apart 25 = .ok (.iload_n 3, 1) := by decide +kernel
theorem dX6_apart_26 : decode cX6_apart 26 = .ok (.isub, 1) := by decide +kernel
theorem dX6_apart_27 : decode cX6_apart 27 = .ok (.invokestatic 62, 3) := by decide +kernel
theorem dX6_apart_30 : decode cX6_apart 30 = .ok (.ireturn, 1) := by decide +kernel
theorem dX6_comes_0 : decode cX6_comes 0 = .ok (.iconst 0, 1) := by decide +kernel
theorem dX6_comes_1 : decode cX6_comes 1 = .ok (.istore 6, 2) := by decide +kernel
theorem dX6_comes_3 : decode cX6_comes 3 = .ok (.iload 6, 2) := by decide +kernel
theorem dX6_comes_5 : decode cX6_comes 5 = .ok (.aload_n 0, 1) := by decide +kernel
theorem dX6_comes_6 : decode cX6_comes 6 = .ok (.getfield 17, 3) := by decide +kernel
theorem dX6_comes_9 : decode cX6_comes 9 = .ok (.iload_n 1, 1) := by decide +kernel
theorem dX6_comes_10 : decode cX6_comes 10 = .ok (.iaload, 1) := by decide +kernel
theorem dX6_comes_11 : decode cX6_comes 11 = .ok (.if_icmp .ge 89, 3) := by decide +kernel
theorem dX6_comes_14 : decode cX6_comes 14 = .ok (.aload_n 0, 1) := by decide +kernel
theorem dX6_comes_15 : decode cX6_comes 15 = .ok (.getfield 36, 3) := by decide +kernel
theorem dX6_comes_18 : decode cX6_comes 18 = .ok (.iload 6, 2) := by decide +kernel
theorem dX6_comes_20 : decode cX6_comes 20 = .ok (.iload_n 3, 1) := by decide +kernel
theorem dX6_comes_21 : decode cX6_comes 21 = .ok (.iload_n 2, 1) := by decide +kernel
theorem dX6_comes_22 : decode cX6_comes 22 = .ok (.aload_n 0, 1) := by decide +kernel
theorem dX6_comes_23 : decode cX6_comes 23 = .ok (.getfield 20, 3) := by decide +kernel
theorem dX6_comes_26 : decode cX6_comes 26 = .ok (.bipush 8, 2) := by decide +kernel
theorem dX6_comes_28 : decode cX6_comes 28 = .ok (.iload_n 1, 1) := by decide +kernel
theorem dX6_comes_29 : decode cX6_comes 29 = .ok (.imul, 1) := by decide +kernel
theorem dX6_comes_30 : decode cX6_comes 30 = .ok (.iload 6, 2) := by decide +kernel
theorem dX6_comes_32 : decode cX6_comes 32 = .ok (.iadd, 1) := by decide +kernel
theorem dX6_comes_33 : decode cX6_comes 33 = .ok (.iaload, 1) := by decide +kernel
theorem dX6_comes_34 : decode cX6_comes 34 = .ok (.aload_n 0, 1) := by decide +kernel
theorem dX6_comes_35 : decode cX6_comes 35 = .ok (.getfield 23, 3) := by decide +kernel
theorem dX6_comes_38 : decode cX6_comes 38 = .ok (.bipush 8, 2) := by decide +kernel
theorem dX6_comes_40 : decode cX6_comes 40 = .ok (.iload_n 1, 1) := by decide +kernel
theorem dX6_comes_41 : decode cX6_comes 41 = .ok (.imul, 1) := by decide +kernel
theorem dX6_comes_42 : decode cX6_comes 42 = .ok (.iload 6, 2) := by decide +kernel
theorem dX6_comes_44 : decode cX6_comes 44 = .ok (.iadd, 1) := by decide +kernel
theorem dX6_comes_45 : decode cX6_comes 45 = .ok (.iaload, 1) := by decide +kernel
theorem dX6_comes_46 : decode cX6_comes 46 = .ok (.invokestatic 66, 3) := by decide +kernel
theorem dX6_comes_49 : decode cX6_comes 49 = .ok (.imul, 1) := by decide +kernel
theorem dX6_comes_50 : decode cX6_comes 50 = .ok (.iload 4, 2) := by decide +kernel
theorem dX6_comes_52 : decode cX6_comes 52 = .ok (.iadd, 1) := by decide +kernel
theorem dX6_comes_53 : decode cX6_comes 53 = .ok (.iastore, 1) := by decide +kernel
theorem dX6_comes_54 : decode cX6_comes 54 = .ok (.aload_n 0, 1) := by decide +kernel
theorem dX6_comes_55 : decode cX6_comes 55 = .ok (.getfield 39, 3) := by decide +kernel
theorem dX6_comes_58 : decode cX6_comes 58 = .ok (.iload 6, 2) := by decide +kernel
theorem dX6_comes_60 : decode cX6_comes 60 = .ok (.iload_n 3, 1) := by decide +kernel
theorem dX6_comes_61 : decode cX6_comes 61 = .ok (.iload_n 2, 1) := by decide +kernel
theorem dX6_comes_62 : decode cX6_comes 62 = .ok (.aload_n 0, 1) := by decide +kernel
theorem dX6_comes_63 : decode cX6_comes 63 = .ok (.getfield 20, 3) := by decide +kernel
theorem dX6_comes_66 : decode cX6_comes 66 = .ok (.bipush 8, 2) := by decide +kernel
theorem dX6_comes_68 : decode cX6_comes 68 = .ok (.iload_n 1, 1) := by decide +kernel
theorem dX6_comes_69 : decode cX6_comes 69 = .ok (.imul, 1) := by decide +kernel
theorem dX6_comes_70 : decode cX6_comes 70 = .ok (.iload 6, 2) := by decide +kernel
theorem dX6_comes_72 : decode cX6_comes 72 = .ok (.iadd, 1) := by decide +kernel
theorem dX6_comes_73 : decode cX6_comes 73 = .ok (.iaload, 1) := by decide +kernel
theorem dX6_comes_74 : decode cX6_comes 74 = .ok (.aload_n 0, 1) := by decide +kernel
theorem dX6_comes_75 : decode cX6_comes 75 = .ok (.getfield 23, 3) := by decide +kernel
theorem dX6_comes_78 : decode cX6_comes 78 = .ok (.bipush 8, 2) := by decide +kernel
theorem dX6_comes_80 : decode cX6_comes 80 = .ok (.iload_n 1, 1) := by decide +kernel
theorem dX6_comes_81 : decode cX6_comes 81 = .ok (.imul, 1) := by decide +kernel
theorem dX6_comes_82 : decode cX6_comes 82 = .ok (.iload 6, 2) := by decide +kernel
theorem dX6_comes_84 : decode cX6_comes 84 = .ok (.iadd, 1) := by decide +kernel
theorem dX6_comes_85 : decode cX6_comes 85 = .ok (.iaload, 1) := by decide +kernel
theorem dX6_comes_86 : decode cX6_comes 86 = .ok (.invokestatic 70, 3) := by decide +kernel
theorem dX6_comes_89 : decode cX6_comes 89 = .ok (.imul, 1) := by decide +kernel
theorem dX6_comes_90 : decode cX6_comes 90 = .ok (.iload 5, 2) := by decide +kernel
theorem dX6_comes_92 : decode cX6_comes 92 = .ok (.iadd, 1) := by decide +kernel
theorem dX6_comes_93 : decode cX6_comes 93 = .ok (.iastore, 1) := by decide +kernel
theorem dX6_comes_94 : decode cX6_comes 94 = .ok (.iinc 6 1, 3) := by decide +kernel
theorem dX6_comes_97 : decode cX6_comes 97 = .ok (.goto (-94), 3) := by decide +kernel
theorem dX6_comes_100 : decode cX6_comes 100 = .ok (.return_, 1) := by decide +kernel
theorem dX6_farTo_0 : decode cX6_farTo 0 = .ok (.aload_n 0, 1) := by decide +kernel
theorem dX6_farTo_1 : decode cX6_farTo 1 = .ok (.getfield 20, 3) := by decide +kernel
theorem dX6_farTo_4 : decode cX6_farTo 4 = .ok (.bipush 8, 2) := by decide +kernel
theorem dX6_farTo_6 : decode cX6_farTo 6 = .ok (.iload_n 1, 1) := by decide +kernel
theorem dX6_farTo_7 : decode cX6_farTo 7 = .ok (.imul, 1) := by decide +kernel
theorem dX6_farTo_8 : decode cX6_farTo 8 = .ok (.iload_n 2, 1) := by decide +kernel
theorem dX6_farTo_9 : decode cX6_farTo 9 = .ok (.iadd, 1) := by decide +kernel
theorem dX6_farTo_10 : decode cX6_farTo 10 = .ok (.iaload, 1) := by decide +kernel
theorem dX6_farTo_11 : decode cX6_farTo 11 = .ok (.aload_n 0, 1) := by decide +kernel
theorem dX6_farTo_12 : decode cX6_farTo 12 = .ok (.getfield 23, 3) := by decide +kernel
theorem dX6_farTo_15 : decode cX6_farTo 15 = .ok (.bipush 8, 2) := by decide +kernel
theorem dX6_farTo_17 : decode cX6_farTo 17 = .ok (.iload_n 1, 1) := by decide +kernel
theorem dX6_farTo_18 : decode cX6_farTo 18 = .ok (.imul, 1) := by decide +kernel
theorem dX6_farTo_19 : decode cX6_farTo 19 = .ok (.iload_n 2, 1) := by decide +kernel
theorem dX6_farTo_20 : decode cX6_farTo 20 = .ok (.iadd, 1) := by decide +kernel
theorem dX6_farTo_21 : decode cX6_farTo 21 = .ok (.iaload, 1) := by decide +kernel
theorem dX6_farTo_22 : decode cX6_farTo 22 = .ok (.aload_n 0, 1) := by decide +kernel
theorem dX6_farTo_23 : decode cX6_farTo 23 = .ok (.getfield 36, 3) := by decide +kernel
theorem dX6_farTo_26 : decode cX6_farTo 26 = .ok (.iload_n 3, 1) := by decide +kernel
theorem dX6_farTo_27 : decode cX6_farTo 27 = .ok (.iaload, 1) := by decide +kernel
theorem dX6_farTo_28 : decode cX6_farTo 28 = .ok (.aload_n 0, 1) := by decide +kernel
theorem dX6_farTo_29 : decode cX6_farTo 29 = .ok (.getfield 39, 3) := by decide +kernel
theorem dX6_farTo_32 : decode cX6_farTo 32 = .ok (.iload_n 3, 1) := by decide +kernel
theorem dX6_farTo_33 : decode cX6_farTo 33 = .ok (.iaload, 1) := by decide +kernel
theorem dX6_farTo_34 : decode cX6_farTo 34 = .ok (.invokestatic 73, 3) := by decide +kernel
theorem dX6_farTo_37 : decode cX6_farTo 37 = .ok (.ireturn, 1) := by decide +kernel
theorem dX6_near_0 : decode cX6_near 0 = .ok (.iconst 0, 1) := by decide +kernel
theorem dX6_near_1 : decode cX6_near 1 = .ok (.istore_n 3, 1) := by decide +kernel
theorem dX6_near_2 : decode cX6_near 2 = .ok (.iconst 0, 1) := by decide +kernel
theorem dX6_near_3 : decode cX6_near 3 = .ok (.istore 4, 2) := by decide +kernel
theorem dX6_near_5 : decode cX6_near 5 = .ok (.iload 4, 2) := by decide +kernel
theorem dX6_near_7 : decode cX6_near 7 = .ok (.aload_n 0, 1) := by decide +kernel
theorem dX6_near_8 : decode cX6_near 8 = .ok (.getfield 17, 3) := by decide +kernel
theorem dX6_near_11 : decode cX6_near 11 = .ok (.iload_n 2, 1) := by decide +kernel
theorem dX6_near_12 : decode cX6_near 12 = .ok (.iaload, 1) := by decide +kernel
theorem dX6_near_13 : decode cX6_near 13 = .ok (.if_icmp .ge 73, 3) := by decide +kernel
theorem dX6_near_16 : decode cX6_near 16 = .ok (.iconst 0, 1) := by decide +kernel
theorem dX6_near_17 : decode cX6_near 17 = .ok (.istore 5, 2) := by decide +kernel
theorem dX6_near_19 : decode cX6_near 19 = .ok (.iconst 0, 1) := by decide +kernel
theorem dX6_near_20 : decode cX6_near 20 = .ok (.istore 6, 2) := by decide +kernel
theorem dX6_near_22 : decode cX6_near 22 = .ok (.iload 6, 2) := by decide +kernel
theorem dX6_near_24 : decode cX6_near 24 = .ok (.aload_n 0, 1) := by decide +kernel
theorem dX6_near_25 : decode cX6_near 25 = .ok (.getfield 17, 3) := by decide +kernel
theorem dX6_near_28 : decode cX6_near 28 = .ok (.iload_n 1, 1) := by decide +kernel
theorem dX6_near_29 : decode cX6_near 29 = .ok (.iaload, 1) := by decide +kernel
theorem dX6_near_30 : decode cX6_near 30 = .ok (.if_icmp .ge 37, 3) := by decide +kernel
theorem dX6_near_33 : decode cX6_near 33 = .ok (.iload 5, 2) := by decide +kernel
theorem dX6_near_35 : decode cX6_near 35 = .ok (.ifCond .ne 19, 3) := by decide +kernel
theorem dX6_near_38 : decode cX6_near 38 = .ok (.aload_n 0, 1) := by decide +kernel
theorem dX6_near_39 : decode cX6_near 39 = .ok (.iload_n 1, 1) := by decide +kernel
theorem dX6_near_40 : decode cX6_near 40 = .ok (.iload 6, 2) := by decide +kernel
theorem dX6_near_42 : decode cX6_near 42 = .ok (.iload 4, 2) := by decide +kernel
theorem dX6_near_44 : decode cX6_near 44 = .ok (.invokevirtual 77, 3) := by decide +kernel
theorem dX6_near_47 : decode cX6_near 47 = .ok (.aload_n 0, 1) := by decide +kernel
theorem dX6_near_48 : decode cX6_near 48 = .ok (.getfield 7, 3) := by decide +kernel
theorem dX6_near_51 : decode cX6_near 51 = .ok (.if_icmp .gt 7, 3) := by decide +kernel
theorem dX6_near_54 : decode cX6_near 54 = .ok (.iconst 1, 1) := by decide +kernel
theorem dX6_near_55 : decode cX6_near 55 = .ok (.goto 4, 3) := by decide +kernel
theorem dX6_near_58 : decode cX6_near 58 = .ok (.iconst 0, 1) := by decide +kernel
theorem dX6_near_59 : decode cX6_near 59 = .ok (.istore 5, 2) := by decide +kernel
theorem dX6_near_61 : decode cX6_near 61 = .ok (.iinc 6 1, 3) := by decide +kernel
theorem dX6_near_64 : decode cX6_near 64 = .ok (.goto (-42), 3) := by decide +kernel
theorem dX6_near_67 : decode cX6_near 67 = .ok (.iload_n 3, 1) := by decide +kernel
theorem dX6_near_68 : decode cX6_near 68 = .ok (.iload 5, 2) := by decide +kernel
theorem dX6_near_70 : decode cX6_near 70 = .ok (.ifCond .eq 7, 3) := by decide +kernel
theorem dX6_near_73 : decode cX6_near 73 = .ok (.iconst 1, 1) := by decide +kernel
theorem dX6_near_74 : decode cX6_near 74 = .ok (.goto 4, 3) := by decide +kernel
theorem dX6_near_77 : decode cX6_near 77 = .ok (.iconst 0, 1) := by decide +kernel
theorem dX6_near_78 : decode cX6_near 78 = .ok (.iadd, 1) := by decide +kernel
theorem dX6_near_79 : decode cX6_near 79 = .ok (.istore_n 3, 1) := by decide +kernel
theorem dX6_near_80 : decode cX6_near 80 = .ok (.iinc 4 1, 3) := by decide +kernel
theorem dX6_near_83 : decode cX6_near 83 = .ok (.goto (-78), 3) := by decide +kernel
theorem dX6_near_86 : decode cX6_near 86 = .ok (.iload_n 3, 1) := by decide +kernel
theorem dX6_near_87 : decode cX6_near 87 = .ok (.ireturn, 1) := by decide +kernel
theorem dX6_weighs_0 : decode cX6_weighs 0 = .ok (.iconst 1, 1) := by decide +kernel
theorem dX6_weighs_1 : decode cX6_weighs 1 = .ok (.aload_n 0, 1) := by decide +kernel
theorem dX6_weighs_2 : decode cX6_weighs 2 = .ok (.getfield 17, 3) := by decide +kernel
theorem dX6_weighs_5 : decode cX6_weighs 5 = .ok (.iload_n 1, 1) := by decide +kernel
theorem dX6_weighs_6 : decode cX6_weighs 6 = .ok (.iaload, 1) := by decide +kernel
theorem dX6_weighs_7 : decode cX6_weighs 7 = .ok (.ishl, 1) := by decide +kernel
theorem dX6_weighs_8 : decode cX6_weighs 8 = .ok (.istore_n 3, 1) := by decide +kernel
theorem dX6_weighs_9 : decode cX6_weighs 9 = .ok (.iconst 0, 1) := by decide +kernel
theorem dX6_weighs_10 : decode cX6_weighs 10 = .ok (.istore 4, 2) := by decide +kernel
theorem dX6_weighs_12 : decode cX6_weighs 12 = .ok (.iload 4, 2) := by decide +kernel
theorem dX6_weighs_14 : decode cX6_weighs 14 = .ok (.iload_n 3, 1) := by decide +kernel
theorem dX6_weighs_15 : decode cX6_weighs 15 = .ok (.if_icmp .ge 28, 3) := by decide +kernel
theorem dX6_weighs_18 : decode cX6_weighs 18 = .ok (.aload_n 0, 1) := by decide +kernel
theorem dX6_weighs_19 : decode cX6_weighs 19 = .ok (.getfield 42, 3) := by decide +kernel
theorem dX6_weighs_22 : decode cX6_weighs 22 = .ok (.sipush 256, 3) := by decide +kernel
theorem dX6_weighs_25 : decode cX6_weighs 25 = .ok (.aload_n 0, 1) := by decide +kernel
theorem dX6_weighs_26 : decode cX6_weighs 26 = .ok (.getfield 17, 3) := by decide +kernel
theorem dX6_weighs_29 : decode cX6_weighs 29 = .ok (.iload_n 2, 1) := by decide +kernel
theorem dX6_weighs_30 : decode cX6_weighs 30 = .ok (.iaload, 1) := by decide +kernel
theorem dX6_weighs_31 : decode cX6_weighs 31 = .ok (.imul, 1) := by decide +kernel
theorem dX6_weighs_32 : decode cX6_weighs 32 = .ok (.iload 4, 2) := by decide +kernel
theorem dX6_weighs_34 : decode cX6_weighs 34 = .ok (.iadd, 1) := by decide +kernel
theorem dX6_weighs_35 : decode cX6_weighs 35 = .ok (.iconst 0, 1) := by decide +kernel
theorem dX6_weighs_36 : decode cX6_weighs 36 = .ok (.iastore, 1) := by decide +kernel
theorem dX6_weighs_37 : decode cX6_weighs 37 = .ok (.iinc 4 1, 3) := by decide +kernel
theorem dX6_weighs_40 : decode cX6_weighs 40 = .ok (.goto (-28), 3) := by decide +kernel
theorem dX6_weighs_43 : decode cX6_weighs 43 = .ok (.aload_n 0, 1) := by decide +kernel
theorem dX6_weighs_44 : decode cX6_weighs 44 = .ok (.getfield 17, 3) := by decide +kernel
theorem dX6_weighs_47 : decode cX6_weighs 47 = .ok (.iload_n 2, 1) := by decide +kernel
theorem dX6_weighs_48 : decode cX6_weighs 48 = .ok (.iaload, 1) := by decide +kernel
theorem dX6_weighs_49 : decode cX6_weighs 49 = .ok (.iconst 1, 1) := by decide +kernel
theorem dX6_weighs_50 : decode cX6_weighs 50 = .ok (.isub, 1) := by decide +kernel
theorem dX6_weighs_51 : decode cX6_weighs 51 = .ok (.istore 4, 2) := by decide +kernel
theorem dX6_weighs_53 : decode cX6_weighs 53 = .ok (.iload 4, 2) := by decide +kernel
theorem dX6_weighs_55 : decode cX6_weighs 55 = .ok (.ifCond .lt 161, 3) := by decide +kernel
theorem dX6_weighs_58 : decode cX6_weighs 58 = .ok (.iconst 0, 1) := by decide +kernel
theorem dX6_weighs_59 : decode cX6_weighs 59 = .ok (.istore 5, 2) := by decide +kernel
theorem dX6_weighs_61 : decode cX6_weighs 61 = .ok (.iload 5, 2) := by decide +kernel
theorem dX6_weighs_63 : decode cX6_weighs 63 = .ok (.iload_n 3, 1) := by decide +kernel
theorem dX6_weighs_64 : decode cX6_weighs 64 = .ok (.if_icmp .ge 146, 3) := by decide +kernel
theorem dX6_weighs_67 : decode cX6_weighs 67 = .ok (.aload_n 0, 1) := by decide +kernel
theorem dX6_weighs_68 : decode cX6_weighs 68 = .ok (.getfield 42, 3) := by decide +kernel
theorem dX6_weighs_71 : decode cX6_weighs 71 = .ok (.sipush 256, 3) := by decide +kernel
theorem dX6_weighs_74 : decode cX6_weighs 74 = .ok (.iload 4, 2) := by decide +kernel
theorem dX6_weighs_76 : decode cX6_weighs 76 = .ok (.iconst 1, 1) := by decide +kernel
theorem dX6_weighs_77 : decode cX6_weighs 77 = .ok (.iadd, 1) := by decide +kernel
theorem dX6_weighs_78 : decode cX6_weighs 78 = .ok (.imul, 1) := by decide +kernel
theorem dX6_weighs_79 : decode cX6_weighs 79 = .ok (.iload 5, 2) := by decide +kernel
theorem dX6_weighs_81 : decode cX6_weighs 81 = .ok (.iadd, 1) := by decide +kernel
theorem dX6_weighs_82 : decode cX6_weighs 82 = .ok (.iaload, 1) := by decide +kernel
theorem dX6_weighs_83 : decode cX6_weighs 83 = .ok (.istore 6, 2) := by decide +kernel
theorem dX6_weighs_85 : decode cX6_weighs 85 = .ok (.iconst 0, 1) := by decide +kernel
theorem dX6_weighs_86 : decode cX6_weighs 86 = .ok (.istore 7, 2) := by decide +kernel
theorem dX6_weighs_88 : decode cX6_weighs 88 = .ok (.iload 7, 2) := by decide +kernel
theorem dX6_weighs_90 : decode cX6_weighs 90 = .ok (.aload_n 0, 1) := by decide +kernel
theorem dX6_weighs_91 : decode cX6_weighs 91 = .ok (.getfield 17, 3) := by decide +kernel
theorem dX6_weighs_94 : decode cX6_weighs 94 = .ok (.iload_n 1, 1) := by decide +kernel
theorem dX6_weighs_95 : decode cX6_weighs 95 = .ok (.iaload, 1) := by decide +kernel
theorem dX6_weighs_96 : decode cX6_weighs 96 = .ok (.if_icmp .ge 92, 3) := by decide +kernel
theorem dX6_weighs_99 : decode cX6_weighs 99 = .ok (.iload 5, 2) := by decide +kernel
theorem dX6_weighs_101 : decode cX6_weighs 101 = .ok (.iload 7, 2) := by decide +kernel
theorem dX6_weighs_103 : decode cX6_weighs 103 = .ok (.ishr, 1) := by decide +kernel
theorem dX6_weighs_104 : decode cX6_weighs 104 = .ok (.iconst 1, 1) := by decide +kernel
theorem dX6_weighs_105 : decode cX6_weighs 105 = .ok (.iand, 1) := by decide +kernel
theorem dX6_weighs_106 : decode cX6_weighs 106 = .ok (.iconst 1, 1) := by decide +kernel
theorem dX6_weighs_107 : decode cX6_weighs 107 = .ok (.if_icmp .eq 75, 3) := by decide +kernel
theorem dX6_weighs_110 : decode cX6_weighs 110 = .ok (.aload_n 0, 1) := by decide +kernel
theorem dX6_weighs_111 : decode cX6_weighs 111 = .ok (.iload_n 1, 1) := by decide +kernel
theorem dX6_weighs_112 : decode cX6_weighs 112 = .ok (.iload 7, 2) := by decide +kernel
theorem dX6_weighs_114 : decode cX6_weighs 114 = .ok (.iload 4, 2) := by decide +kernel
theorem dX6_weighs_116 : decode cX6_weighs 116 = .ok (.invokevirtual 77, 3) := by decide +kernel
theorem dX6_weighs_119 : decode cX6_weighs 119 = .ok (.aload_n 0, 1) := by decide +kernel
theorem dX6_weighs_120 : decode cX6_weighs 120 = .ok (.getfield 7, 3) := by decide +kernel
theorem dX6_weighs_123 : decode cX6_weighs 123 = .ok (.if_icmp .le 6, 3) := by decide +kernel
theorem dX6_weighs_126 : decode cX6_weighs 126 = .ok (.goto 56, 3) := by decide +kernel
theorem dX6_weighs_129 : decode cX6_weighs 129 = .ok (.sipush 1000, 3) := by decide +kernel
theorem dX6_weighs_132 : decode cX6_weighs 132 = .ok (.aload_n 0, 1) := by decide +kernel
theorem dX6_weighs_133 : decode cX6_weighs 133 = .ok (.iload_n 1, 1) := by decide +kernel
theorem dX6_weighs_134 : decode cX6_weighs 134 = .ok (.iload 7, 2) := by decide +kernel
theorem dX6_weighs_136 : decode cX6_weighs 136 = .ok (.iload 4, 2) := by decide +kernel
theorem dX6_weighs_138 : decode cX6_weighs 138 = .ok (.invokevirtual 77, 3) := by decide +kernel
theorem dX6_weighs_141 : decode cX6_weighs 141 = .ok (.isub, 1) := by decide +kernel
theorem dX6_weighs_142 : decode cX6_weighs 142 = .ok (.aload_n 0, 1) := by decide +kernel
theorem dX6_weighs_143 : decode cX6_weighs 143 = .ok (.getfield 42, 3) := by decide +kernel
theorem dX6_weighs_146 : decode cX6_weighs 146 = .ok (.sipush 256, 3) := by decide +kernel
theorem dX6_weighs_149 : decode cX6_weighs 149 = .ok (.iload 4, 2) := by decide +kernel
theorem dX6_weighs_151 : decode cX6_weighs 151 = .ok (.iconst 1, 1) := by decide +kernel
theorem dX6_weighs_152 : decode cX6_weighs 152 = .ok (.iadd, 1) := by decide +kernel
theorem dX6_weighs_153 : decode cX6_weighs 153 = .ok (.imul, 1) := by decide +kernel
theorem dX6_weighs_154 : decode cX6_weighs 154 = .ok (.iload 5, 2) := by decide +kernel
theorem dX6_weighs_156 : decode cX6_weighs 156 = .ok (.iconst 1, 1) := by decide +kernel
theorem dX6_weighs_157 : decode cX6_weighs 157 = .ok (.iload 7, 2) := by decide +kernel
theorem dX6_weighs_159 : decode cX6_weighs 159 = .ok (.ishl, 1) := by decide +kernel
theorem dX6_weighs_160 : decode cX6_weighs 160 = .ok (.ior, 1) := by decide +kernel
theorem dX6_weighs_161 : decode cX6_weighs 161 = .ok (.iadd, 1) := by decide +kernel
theorem dX6_weighs_162 : decode cX6_weighs 162 = .ok (.iaload, 1) := by decide +kernel
theorem dX6_weighs_163 : decode cX6_weighs 163 = .ok (.iadd, 1) := by decide +kernel
theorem dX6_weighs_164 : decode cX6_weighs 164 = .ok (.istore 8, 2) := by decide +kernel
theorem dX6_weighs_166 : decode cX6_weighs 166 = .ok (.iload 8, 2) := by decide +kernel
theorem dX6_weighs_168 : decode cX6_weighs 168 = .ok (.iload 6, 2) := by decide +kernel
theorem dX6_weighs_170 : decode cX6_weighs 170 = .ok (.if_icmp .le 8, 3) := by decide +kernel
theorem dX6_weighs_173 : decode cX6_weighs 173 = .ok (.iload 8, 2) := by decide +kernel
theorem dX6_weighs_175 : decode cX6_weighs 175 = .ok (.goto 5, 3) := by decide +kernel
theorem dX6_weighs_178 : decode cX6_weighs 178 = .ok (.iload 6, 2) := by decide +kernel
theorem dX6_weighs_180 : decode cX6_weighs 180 = .ok (.istore 6, 2) := by decide +kernel
theorem dX6_weighs_182 : decode cX6_weighs 182 = .ok (.iinc 7 1, 3) := by decide +kernel
theorem dX6_weighs_185 : decode cX6_weighs 185 = .ok (.goto (-97), 3) := by decide +kernel
theorem dX6_weighs_188 : decode cX6_weighs 188 = .ok (.aload_n 0, 1) := by decide +kernel
theorem dX6_weighs_189 : decode cX6_weighs 189 = .ok (.getfield 42, 3) := by decide +kernel
theorem dX6_weighs_192 : decode cX6_weighs 192 = .ok (.sipush 256, 3) := by decide +kernel
theorem dX6_weighs_195 : decode cX6_weighs 195 = .ok (.iload 4, 2) := by decide +kernel
theorem dX6_weighs_197 : decode cX6_weighs 197 = .ok (.imul, 1) := by decide +kernel
theorem dX6_weighs_198 : decode cX6_weighs 198 = .ok (.iload 5, 2) := by decide +kernel
theorem dX6_weighs_200 : decode cX6_weighs 200 = .ok (.iadd, 1) := by decide +kernel
theorem dX6_weighs_201 : decode cX6_weighs 201 = .ok (.iload 6, 2) := by decide +kernel
theorem dX6_weighs_203 : decode cX6_weighs 203 = .ok (.iastore, 1) := by decide +kernel
theorem dX6_weighs_204 : decode cX6_weighs 204 = .ok (.iinc 5 1, 3) := by decide +kernel
theorem dX6_weighs_207 : decode cX6_weighs 207 = .ok (.goto (-146), 3) := by decide +kernel
theorem dX6_weighs_210 : decode cX6_weighs 210 = .ok (.iinc 4 (-1), 3) := by decide +kernel
theorem dX6_weighs_213 : decode cX6_weighs 213 = .ok (.goto (-160), 3) := by decide +kernel
theorem dX6_weighs_216 : decode cX6_weighs 216 = .ok (.aload_n 0, 1) := by decide +kernel
theorem dX6_weighs_217 : decode cX6_weighs 217 = .ok (.getfield 42, 3) := by decide +kernel
theorem dX6_weighs_220 : decode cX6_weighs 220 = .ok (.iconst 0, 1) := by decide +kernel
theorem dX6_weighs_221 : decode cX6_weighs 221 = .ok (.iaload, 1) := by decide +kernel
theorem dX6_weighs_222 : decode cX6_weighs 222 = .ok (.ireturn, 1) := by decide +kernel
theorem dX6_finds_0 : decode cX6_finds 0 = .ok (.iconst 0, 1) := by decide +kernel
theorem dX6_finds_1 : decode cX6_finds 1 = .ok (.istore_n 3, 1) := by decide +kernel
theorem dX6_finds_2 : decode cX6_finds 2 = .ok (.iconst 0, 1) := by decide +kernel
theorem dX6_finds_3 : decode cX6_finds 3 = .ok (.istore 4, 2) := by decide +kernel
theorem dX6_finds_5 : decode cX6_finds 5 = .ok (.iload 4, 2) := by decide +kernel
theorem dX6_finds_7 : decode cX6_finds 7 = .ok (.aload_n 0, 1) := by decide +kernel
theorem dX6_finds_8 : decode cX6_finds 8 = .ok (.getfield 17, 3) := by decide +kernel
theorem dX6_finds_11 : decode cX6_finds 11 = .ok (.iload_n 2, 1) := by decide +kernel
theorem dX6_finds_12 : decode cX6_finds 12 = .ok (.iaload, 1) := by decide +kernel
theorem dX6_finds_13 : decode cX6_finds 13 = .ok (.if_icmp .ge 159, 3) := by decide +kernel
theorem dX6_finds_16 : decode cX6_finds 16 = .ok (.aload_n 0, 1) := by decide +kernel
theorem dX6_finds_17 : decode cX6_finds 17 = .ok (.getfield 45, 3) := by decide +kernel
theorem dX6_finds_20 : decode cX6_finds 20 = .ok (.iload 4, 2) := by decide +kernel
theorem dX6_finds_22 : decode cX6_finds 22 = .ok (.iconst (-1), 1) := by decide +kernel
theorem dX6_finds_23 : decode cX6_finds 23 = .ok (.iastore, 1) := by decide +kernel
theorem dX6_finds_24 : decode cX6_finds 24 = .ok (.iconst 0, 1) := by decide +kernel
theorem dX6_finds_25 : decode cX6_finds 25 = .ok (.istore 5, 2) := by decide +kernel
theorem dX6_finds_27 : decode cX6_finds 27 = .ok (.iload 5, 2) := by decide +kernel
theorem dX6_finds_29 : decode cX6_finds 29 = .ok (.aload_n 0, 1) := by decide +kernel
theorem dX6_finds_30 : decode cX6_finds 30 = .ok (.getfield 17, 3) := by decide +kernel
theorem dX6_finds_33 : decode cX6_finds 33 = .ok (.iload_n 1, 1) := by decide +kernel
theorem dX6_finds_34 : decode cX6_finds 34 = .ok (.iaload, 1) := by decide +kernel
theorem dX6_finds_35 : decode cX6_finds 35 = .ok (.if_icmp .ge 108, 3) := by decide +kernel
theorem dX6_finds_38 : decode cX6_finds 38 = .ok (.aload_n 0, 1) := by decide +kernel
theorem dX6_finds_39 : decode cX6_finds 39 = .ok (.getfield 45, 3) := by decide +kernel
theorem dX6_finds_42 : decode cX6_finds 42 = .ok (.iload 4, 2) := by decide +kernel
theorem dX6_finds_44 : decode cX6_finds 44 = .ok (.iaload, 1) := by decide +kernel
theorem dX6_finds_45 : decode cX6_finds 45 = .ok (.iconst (-1), 1) := by decide +kernel
theorem dX6_finds_46 : decode cX6_finds 46 = .ok (.if_icmp .ne 97, 3) := by decide +kernel
theorem dX6_finds_49 : decode cX6_finds 49 = .ok (.iload_n 3, 1) := by decide +kernel
theorem dX6_finds_50 : decode cX6_finds 50 = .ok (.iload 5, 2) := by decide +kernel
theorem dX6_finds_52 : decode cX6_finds 52 = .ok (.ishr, 1) := by decide +kernel
theorem dX6_finds_53 : decode cX6_finds 53 = .ok (.iconst 1, 1) := by decide +kernel
theorem dX6_finds_54 : decode cX6_finds 54 = .ok (.iand, 1) := by decide +kernel
theorem dX6_finds_55 : decode cX6_finds 55 = .ok (.iconst 1, 1) := by decide +kernel
theorem dX6_finds_56 : decode cX6_finds 56 = .ok (.if_icmp .eq 81, 3) := by decide +kernel
theorem dX6_finds_59 : decode cX6_finds 59 = .ok (.aload_n 0, 1) := by decide +kernel
theorem dX6_finds_60 : decode cX6_finds 60 = .ok (.iload_n 1, 1) := by decide +kernel
theorem dX6_finds_61 : decode cX6_finds 61 = .ok (.iload 5, 2) := by decide +kernel
theorem dX6_finds_63 : decode cX6_finds 63 = .ok (.iload 4, 2) := by decide +kernel
theorem dX6_finds_65 : decode cX6_finds 65 = .ok (.invokevirtual 77, 3) := by decide +kernel
theorem dX6_finds_68 : decode cX6_finds 68 = .ok (.aload_n 0, 1) := by decide +kernel
theorem dX6_finds_69 : decode cX6_finds 69 = .ok (.getfield 7, 3) := by decide +kernel
theorem dX6_finds_72 : decode cX6_finds 72 = .ok (.if_icmp .le 6, 3) := by decide +kernel
theorem dX6_finds_75 : decode cX6_finds 75 = .ok (.goto 62, 3) := by decide +kernel
theorem dX6_finds_78 : decode cX6_finds 78 = .ok (.sipush 1000, 3) := by decide +kernel
theorem dX6_finds_81 : decode cX6_finds 81 = .ok (.aload_n 0, 1) := by decide +kernel
theorem dX6_finds_82 : decode cX6_finds 82 = .ok (.iload_n 1, 1) := by decide +kernel
theorem dX6_finds_83 : decode cX6_finds 83 = .ok (.iload 5, 2) := by decide +kernel
theorem dX6_finds_85 : decode cX6_finds 85 = .ok (.iload 4, 2) := by decide +kernel
theorem dX6_finds_87 : decode cX6_finds 87 = .ok (.invokevirtual 77, 3) := by decide +kernel
theorem dX6_finds_90 : decode cX6_finds 90 = .ok (.isub, 1) := by decide +kernel
theorem dX6_finds_91 : decode cX6_finds 91 = .ok (.aload_n 0, 1) := by decide +kernel
theorem dX6_finds_92 : decode cX6_finds 92 = .ok (.getfield 42, 3) := by decide +kernel
theorem dX6_finds_95 : decode cX6_finds 95 = .ok (.sipush 256, 3) := by decide +kernel
theorem dX6_finds_98 : decode cX6_finds 98 = .ok (.iload 4, 2) := by decide +kernel
theorem dX6_finds_100 : decode cX6_finds 100 = .ok (.iconst 1, 1) := by decide +kernel
theorem dX6_finds_101 : decode cX6_finds 101 = .ok (.iadd, 1) := by decide +kernel
theorem dX6_finds_102 : decode cX6_finds 102 = .ok (.imul, 1) := by decide +kernel
theorem dX6_finds_103 : decode cX6_finds 103 = .ok (.iload_n 3, 1) := by decide +kernel
theorem dX6_finds_104 : decode cX6_finds 104 = .ok (.iconst 1, 1) := by decide +kernel
theorem dX6_finds_105 : decode cX6_finds 105 = .ok (.iload 5, 2) := by decide +kernel
theorem dX6_finds_107 : decode cX6_finds 107 = .ok (.ishl, 1) := by decide +kernel
theorem dX6_finds_108 : decode cX6_finds 108 = .ok (.ior, 1) := by decide +kernel
theorem dX6_finds_109 : decode cX6_finds 109 = .ok (.iadd, 1) := by decide +kernel
theorem dX6_finds_110 : decode cX6_finds 110 = .ok (.iaload, 1) := by decide +kernel
theorem dX6_finds_111 : decode cX6_finds 111 = .ok (.iadd, 1) := by decide +kernel
theorem dX6_finds_112 : decode cX6_finds 112 = .ok (.aload_n 0, 1) := by decide +kernel
theorem dX6_finds_113 : decode cX6_finds 113 = .ok (.getfield 42, 3) := by decide +kernel
theorem dX6_finds_116 : decode cX6_finds 116 = .ok (.sipush 256, 3) := by decide +kernel
theorem dX6_finds_119 : decode cX6_finds 119 = .ok (.iload 4, 2) := by decide +kernel
theorem dX6_finds_121 : decode cX6_finds 121 = .ok (.imul, 1) := by decide +kernel
theorem dX6_finds_122 : decode cX6_finds 122 = .ok (.iload_n 3, 1) := by decide +kernel
theorem dX6_finds_123 : decode cX6_finds 123 = .ok (.iadd, 1) := by decide +kernel
theorem dX6_finds_124 : decode cX6_finds 124 = .ok (.iaload, 1) := by decide +kernel
theorem dX6_finds_125 : decode cX6_finds 125 = .ok (.if_icmp .ne 12, 3) := by decide +kernel
theorem dX6_finds_128 : decode cX6_finds 128 = .ok (.aload_n 0, 1) := by decide +kernel
theorem dX6_finds_129 : decode cX6_finds 129 = .ok (.getfield 45, 3) := by decide +kernel
theorem dX6_finds_132 : decode cX6_finds 132 = .ok (.iload 4, 2) := by decide +kernel
theorem dX6_finds_134 : decode cX6_finds 134 = .ok (.iload 5, 2) := by decide +kernel
theorem dX6_finds_136 : decode cX6_finds 136 = .ok (.iastore, 1) := by decide +kernel
theorem dX6_finds_137 : decode cX6_finds 137 = .ok (.iinc 5 1, 3) := by decide +kernel
theorem dX6_finds_140 : decode cX6_finds 140 = .ok (.goto (-113), 3) := by decide +kernel
theorem dX6_finds_143 : decode cX6_finds 143 = .ok (.aload_n 0, 1) := by decide +kernel
theorem dX6_finds_144 : decode cX6_finds 144 = .ok (.getfield 45, 3) := by decide +kernel
theorem dX6_finds_147 : decode cX6_finds 147 = .ok (.iload 4, 2) := by decide +kernel
theorem dX6_finds_149 : decode cX6_finds 149 = .ok (.iaload, 1) := by decide +kernel
theorem dX6_finds_150 : decode cX6_finds 150 = .ok (.iconst (-1), 1) := by decide +kernel
theorem dX6_finds_151 : decode cX6_finds 151 = .ok (.if_icmp .eq 15, 3) := by decide +kernel
theorem dX6_finds_154 : decode cX6_finds 154 = .ok (.iload_n 3, 1) := by decide +kernel
theorem dX6_finds_155 : decode cX6_finds 155 = .ok (.iconst 1, 1) := by decide +kernel
theorem dX6_finds_156 : decode cX6_finds 156 = .ok (.aload_n 0, 1) := by decide +kernel
theorem dX6_finds_157 : decode cX6_finds 157 = .ok (.getfield 45, 3) := by decide +kernel
theorem dX6_finds_160 : decode cX6_finds 160 = .ok (.iload 4, 2) := by decide +kernel
theorem dX6_finds_162 : decode cX6_finds 162 = .ok (.iaload, 1) := by decide +kernel
theorem dX6_finds_163 : decode cX6_finds 163 = .ok (.ishl, 1) := by decide +kernel
theorem dX6_finds_164 : decode cX6_finds 164 = .ok (.ior, 1) := by decide +kernel
theorem dX6_finds_165 : decode cX6_finds 165 = .ok (.istore_n 3, 1) := by decide +kernel
theorem dX6_finds_166 : decode cX6_finds 166 = .ok (.iinc 4 1, 3) := by decide +kernel
theorem dX6_finds_169 : decode cX6_finds 169 = .ok (.goto (-164), 3) := by decide +kernel
theorem dX6_finds_172 : decode cX6_finds 172 = .ok (.return_, 1) := by decide +kernel
theorem dX6_count_0 : decode cX6_count 0 = .ok (.iload_n 0, 1) := by decide +kernel
theorem dX6_count_1 : decode cX6_count 1 = .ok (.sipush 1000, 3) := by decide +kernel
theorem dX6_count_4 : decode cX6_count 4 = .ok (.iadd, 1) := by decide +kernel
theorem dX6_count_5 : decode cX6_count 5 = .ok (.iconst 1, 1) := by decide +kernel
theorem dX6_count_6 : decode cX6_count 6 = .ok (.isub, 1) := by decide +kernel
theorem dX6_count_7 : decode cX6_count 7 = .ok (.sipush 1000, 3) := by decide +kernel
theorem dX6_count_10 : decode cX6_count 10 = .ok (.idiv, 1) := by decide +kernel
theorem dX6_count_11 : decode cX6_count 11 = .ok (.ireturn, 1) := by decide +kernel
theorem dX6_lays_0 : decode cX6_lays 0 = .ok (.iconst 5, 1) := by decide +kernel
theorem dX6_lays_1 : decode cX6_lays 1 = .ok (.iload_n 1, 1) := by decide +kernel
theorem dX6_lays_2 : decode cX6_lays 2 = .ok (.imul, 1) := by decide +kernel
theorem dX6_lays_3 : decode cX6_lays 3 = .ok (.iload_n 2, 1) := by decide +kernel
theorem dX6_lays_4 : decode cX6_lays 4 = .ok (.iadd, 1) := by decide +kernel
theorem dX6_lays_5 : decode cX6_lays 5 = .ok (.istore_n 3, 1) := by decide +kernel
theorem dX6_lays_6 : decode cX6_lays 6 = .ok (.aload_n 0, 1) := by decide +kernel
theorem dX6_lays_7 : decode cX6_lays 7 = .ok (.getfield 26, 3) := by decide +kernel
theorem dX6_lays_10 : decode cX6_lays 10 = .ok (.iload_n 3, 1) := by decide +kernel
theorem dX6_lays_11 : decode cX6_lays 11 = .ok (.baload, 1) := by decide +kernel
theorem dX6_lays_12 : decode cX6_lays 12 = .ok (.ifCond .eq 4, 3) := by decide +kernel
theorem dX6_lays_15 : decode cX6_lays 15 = .ok (.return_, 1) := by decide +kernel
theorem dX6_lays_16 : decode cX6_lays 16 = .ok (.aload_n 0, 1) := by decide +kernel
theorem dX6_lays_17 : decode cX6_lays 17 = .ok (.getfield 26, 3) := by decide +kernel
theorem dX6_lays_20 : decode cX6_lays 20 = .ok (.iload_n 3, 1) := by decide +kernel
theorem dX6_lays_21 : decode cX6_lays 21 = .ok (.iconst 1, 1) := by decide +kernel
theorem dX6_lays_22 : decode cX6_lays 22 = .ok (.bastore, 1) := by decide +kernel
theorem dX6_lays_23 : decode cX6_lays 23 = .ok (.iconst (-1), 1) := by decide +kernel
theorem dX6_lays_24 : decode cX6_lays 24 = .ok (.istore 4, 2) := by decide +kernel
theorem dX6_lays_26 : decode cX6_lays 26 = .ok (.iconst 0, 1) := by decide +kernel
theorem dX6_lays_27 : decode cX6_lays 27 = .ok (.istore 5, 2) := by decide +kernel
theorem dX6_lays_29 : decode cX6_lays 29 = .ok (.iload 5, 2) := by decide +kernel
theorem dX6_lays_31 : decode cX6_lays 31 = .ok (.iconst 4, 1) := by decide +kernel
theorem dX6_lays_32 : decode cX6_lays 32 = .ok (.if_icmp .ge 176, 3) := by decide +kernel
theorem dX6_lays_35 : decode cX6_lays 35 = .ok (.iconst 1, 1) := by decide +kernel
theorem dX6_lays_36 : decode cX6_lays 36 = .ok (.istore 6, 2) := by decide +kernel
theorem dX6_lays_38 : decode cX6_lays 38 = .ok (.iload 6, 2) := by decide +kernel
theorem dX6_lays_40 : decode cX6_lays 40 = .ok (.iconst 4, 1) := by decide +kernel
theorem dX6_lays_41 : decode cX6_lays 41 = .ok (.if_icmp .ge 161, 3) := by decide +kernel
theorem dX6_lays_44 : decode cX6_lays 44 = .ok (.iconst 0, 1) := by decide +kernel
theorem dX6_lays_45 : decode cX6_lays 45 = .ok (.istore 7, 2) := by decide +kernel
theorem dX6_lays_47 : decode cX6_lays 47 = .ok (.iload 7, 2) := by decide +kernel
theorem dX6_lays_49 : decode cX6_lays 49 = .ok (.aload_n 0, 1) := by decide +kernel
theorem dX6_lays_50 : decode cX6_lays 50 = .ok (.getfield 17, 3) := by decide +kernel
theorem dX6_lays_53 : decode cX6_lays 53 = .ok (.iload_n 1, 1) := by decide +kernel
theorem dX6_lays_54 : decode cX6_lays 54 = .ok (.iaload, 1) := by decide +kernel
theorem dX6_lays_55 : decode cX6_lays 55 = .ok (.if_icmp .ge 141, 3) := by decide +kernel
theorem dX6_lays_58 : decode cX6_lays 58 = .ok (.iconst 0, 1) := by decide +kernel
theorem dX6_lays_59 : decode cX6_lays 59 = .ok (.istore 8, 2) := by decide +kernel
theorem dX6_lays_61 : decode cX6_lays 61 = .ok (.iload 8, 2) := by decide +kernel
theorem dX6_lays_63 : decode cX6_lays 63 = .ok (.aload_n 0, 1) := by decide +kernel
theorem dX6_lays_64 : decode cX6_lays 64 = .ok (.getfield 17, 3) := by decide +kernel
theorem dX6_lays_67 : decode cX6_lays 67 = .ok (.iload_n 2, 1) := by decide +kernel
theorem dX6_lays_68 : decode cX6_lays 68 = .ok (.iaload, 1) := by decide +kernel
theorem dX6_lays_69 : decode cX6_lays 69 = .ok (.if_icmp .ge 121, 3) := by decide +kernel
theorem dX6_lays_72 : decode cX6_lays 72 = .ok (.aload_n 0, 1) := by decide +kernel
theorem dX6_lays_73 : decode cX6_lays 73 = .ok (.getfield 20, 3) := by decide +kernel
theorem dX6_lays_76 : decode cX6_lays 76 = .ok (.bipush 8, 2) := by decide +kernel
theorem dX6_lays_78 : decode cX6_lays 78 = .ok (.iload_n 1, 1) := by decide +kernel
theorem dX6_lays_79 : decode cX6_lays 79 = .ok (.imul, 1) := by decide +kernel
theorem dX6_lays_80 : decode cX6_lays 80 = .ok (.iload 7, 2) := by decide +kernel
theorem dX6_lays_82 : decode cX6_lays 82 = .ok (.iadd, 1) := by decide +kernel
theorem dX6_lays_83 : decode cX6_lays 83 = .ok (.iaload, 1) := by decide +kernel
theorem dX6_lays_84 : decode cX6_lays 84 = .ok (.iload 6, 2) := by decide +kernel
theorem dX6_lays_86 : decode cX6_lays 86 = .ok (.iload 5, 2) := by decide +kernel
theorem dX6_lays_88 : decode cX6_lays 88 = .ok (.aload_n 0, 1) := by decide +kernel
theorem dX6_lays_89 : decode cX6_lays 89 = .ok (.getfield 20, 3) := by decide +kernel
theorem dX6_lays_92 : decode cX6_lays 92 = .ok (.bipush 8, 2) := by decide +kernel
theorem dX6_lays_94 : decode cX6_lays 94 = .ok (.iload_n 2, 1) := by decide +kernel
theorem dX6_lays_95 : decode cX6_lays 95 = .ok (.imul, 1) := by decide +kernel
theorem dX6_lays_96 : decode cX6_lays 96 = .ok (.iload 8, 2) := by decide +kernel
theorem dX6_lays_98 : decode cX6_lays 98 = .ok (.iadd, 1) := by decide +kernel
theorem dX6_lays_99 : decode cX6_lays 99 = .ok (.iaload, 1) := by decide +kernel
theorem dX6_lays_100 : decode cX6_lays 100 = .ok (.aload_n 0, 1) := by decide +kernel
theorem dX6_lays_101 : decode cX6_lays 101 = .ok (.getfield 23, 3) := by decide +kernel
theorem dX6_lays_104 : decode cX6_lays 104 = .ok (.bipush 8, 2) := by decide +kernel
theorem dX6_lays_106 : decode cX6_lays 106 = .ok (.iload_n 2, 1) := by decide +kernel
theorem dX6_lays_107 : decode cX6_lays 107 = .ok (.imul, 1) := by decide +kernel
theorem dX6_lays_108 : decode cX6_lays 108 = .ok (.iload 8, 2) := by decide +kernel
theorem dX6_lays_110 : decode cX6_lays 110 = .ok (.iadd, 1) := by decide +kernel
theorem dX6_lays_111 : decode cX6_lays 111 = .ok (.iaload, 1) := by decide +kernel
theorem dX6_lays_112 : decode cX6_lays 112 = .ok (.invokestatic 66, 3) := by decide +kernel
theorem dX6_lays_115 : decode cX6_lays 115 = .ok (.imul, 1) := by decide +kernel
theorem dX6_lays_116 : decode cX6_lays 116 = .ok (.isub, 1) := by decide +kernel
theorem dX6_lays_117 : decode cX6_lays 117 = .ok (.istore 9, 2) := by decide +kernel
theorem dX6_lays_119 : decode cX6_lays 119 = .ok (.aload_n 0, 1) := by decide +kernel
theorem dX6_lays_120 : decode cX6_lays 120 = .ok (.getfield 23, 3) := by decide +kernel
theorem dX6_lays_123 : decode cX6_lays 123 = .ok (.bipush 8, 2) := by decide +kernel
theorem dX6_lays_125 : decode cX6_lays 125 = .ok (.iload_n 1, 1) := by decide +kernel
theorem dX6_lays_126 : decode cX6_lays 126 = .ok (.imul, 1) := by decide +kernel
theorem dX6_lays_127 : decode cX6_lays 127 = .ok (.iload 7, 2) := by decide +kernel
theorem dX6_lays_129 : decode cX6_lays 129 = .ok (.iadd, 1) := by decide +kernel
theorem dX6_lays_130 : decode cX6_lays 130 = .ok (.iaload, 1) := by decide +kernel
theorem dX6_lays_131 : decode cX6_lays 131 = .ok (.iload 6, 2) := by decide +kernel
theorem dX6_lays_133 : decode cX6_lays 133 = .ok (.iload 5, 2) := by decide +kernel
theorem dX6_lays_135 : decode cX6_lays 135 = .ok (.aload_n 0, 1) := by decide +kernel
theorem dX6_lays_136 : decode cX6_lays 136 = .ok (.getfield 20, 3) := by decide +kernel
theorem dX6_lays_139 : decode cX6_lays 139 = .ok (.bipush 8, 2) := by decide +kernel
theorem dX6_lays_141 : decode cX6_lays 141 = .ok (.iload_n 2, 1) := by decide +kernel
theorem dX6_lays_142 : decode cX6_lays 142 = .ok (.imul, 1) := by decide +kernel
theorem dX6_lays_143 : decode cX6_lays 143 = .ok (.iload 8, 2) := by decide +kernel
theorem dX6_lays_145 : decode cX6_lays 145 = .ok (.iadd, 1) := by decide +kernel
theorem dX6_lays_146 : decode cX6_lays 146 = .ok (.iaload, 1) := by decide +kernel
theorem dX6_lays_147 : decode cX6_lays 147 = .ok (.aload_n 0, 1) := by decide +kernel
theorem dX6_lays_148 : decode cX6_lays 148 = .ok (.getfield 23, 3) := by decide +kernel
theorem dX6_lays_151 : decode cX6_lays 151 = .ok (.bipush 8, 2) := by decide +kernel
theorem dX6_lays_153 : decode cX6_lays 153 = .ok (.iload_n 2, 1) := by decide +kernel
theorem dX6_lays_154 : decode cX6_lays 154 = .ok (.imul, 1) := by decide +kernel
theorem dX6_lays_155 : decode cX6_lays 155 = .ok (.iload 8, 2) := by decide +kernel
theorem dX6_lays_157 : decode cX6_lays 157 = .ok (.iadd, 1) := by decide +kernel
theorem dX6_lays_158 : decode cX6_lays 158 = .ok (.iaload, 1) := by decide +kernel
theorem dX6_lays_159 : decode cX6_lays 159 = .ok (.invokestatic 70, 3) := by decide +kernel
theorem dX6_lays_162 : decode cX6_lays 162 = .ok (.imul, 1) := by decide +kernel
theorem dX6_lays_163 : decode cX6_lays 163 = .ok (.isub, 1) := by decide +kernel
theorem dX6_lays_164 : decode cX6_lays 164 = .ok (.istore 10, 2) := by decide +kernel
theorem dX6_lays_166 : decode cX6_lays 166 = .ok (.aload_n 0, 1) := by decide +kernel
theorem dX6_lays_167 : decode cX6_lays 167 = .ok (.iload_n 1, 1) := by decide +kernel
theorem dX6_lays_168 : decode cX6_lays 168 = .ok (.iload_n 2, 1) := by decide +kernel
theorem dX6_lays_169 : decode cX6_lays 169 = .ok (.iload 4, 2) := by decide +kernel
theorem dX6_lays_171 : decode cX6_lays 171 = .ok (.iload 5, 2) := by decide +kernel
theorem dX6_lays_173 : decode cX6_lays 173 = .ok (.iload 6, 2) := by decide +kernel
theorem dX6_lays_175 : decode cX6_lays 175 = .ok (.iload 9, 2) := by decide +kernel
theorem dX6_lays_177 : decode cX6_lays 177 = .ok (.iload 10, 2) := by decide +kernel
theorem dX6_lays_179 : decode cX6_lays 179 = .ok (.invokevirtual 80, 3) := by decide +kernel
theorem dX6_lays_182 : decode cX6_lays 182 = .ok (.istore 4, 2) := by decide +kernel
theorem dX6_lays_184 : decode cX6_lays 184 = .ok (.iinc 8 1, 3) := by decide +kernel
theorem dX6_lays_187 : decode cX6_lays 187 = .ok (.goto (-126), 3) := by decide +kernel
theorem dX6_lays_190 : decode cX6_lays 190 = .ok (.iinc 7 1, 3) := by decide +kernel
theorem dX6_lays_193 : decode cX6_lays 193 = .ok (.goto (-146), 3) := by decide +kernel
theorem dX6_lays_196 : decode cX6_lays 196 = .ok (.iinc 6 1, 3) := by decide +kernel
theorem dX6_lays_199 : decode cX6_lays 199 = .ok (.goto (-161), 3) := by decide +kernel
theorem dX6_lays_202 : decode cX6_lays 202 = .ok (.iinc 5 1, 3) := by decide +kernel
theorem dX6_lays_205 : decode cX6_lays 205 = .ok (.goto (-176), 3) := by decide +kernel
theorem dX6_lays_208 : decode cX6_lays 208 = .ok (.aload_n 0, 1) := by decide +kernel
theorem dX6_lays_209 : decode cX6_lays 209 = .ok (.getfield 30, 3) := by decide +kernel
theorem dX6_lays_212 : decode cX6_lays 212 = .ok (.bipush 6, 2) := by decide +kernel
theorem dX6_lays_214 : decode cX6_lays 214 = .ok (.iload_n 3, 1) := by decide +kernel
theorem dX6_lays_215 : decode cX6_lays 215 = .ok (.imul, 1) := by decide +kernel
theorem dX6_lays_216 : decode cX6_lays 216 = .ok (.iload 4, 2) := by decide +kernel
theorem dX6_lays_218 : decode cX6_lays 218 = .ok (.iconst (-1), 1) := by decide +kernel
theorem dX6_lays_219 : decode cX6_lays 219 = .ok (.if_icmp .ne 7, 3) := by decide +kernel
theorem dX6_lays_222 : decode cX6_lays 222 = .ok (.iconst (-1), 1) := by decide +kernel
theorem dX6_lays_223 : decode cX6_lays 223 = .ok (.goto 8, 3) := by decide +kernel
theorem dX6_lays_226 : decode cX6_lays 226 = .ok (.iload 4, 2) := by decide +kernel
theorem dX6_lays_228 : decode cX6_lays 228 = .ok (.invokestatic 84, 3) := by decide +kernel
theorem dX6_lays_231 : decode cX6_lays 231 = .ok (.iastore, 1) := by decide +kernel
theorem dX6_lays_232 : decode cX6_lays 232 = .ok (.iload 4, 2) := by decide +kernel
theorem dX6_lays_234 : decode cX6_lays 234 = .ok (.iconst (-1), 1) := by decide +kernel
theorem dX6_lays_235 : decode cX6_lays 235 = .ok (.if_icmp .eq 26, 3) := by decide +kernel
theorem dX6_lays_238 : decode cX6_lays 238 = .ok (.aload_n 0, 1) := by decide +kernel
theorem dX6_lays_239 : decode cX6_lays 239 = .ok (.getfield 30, 3) := by decide +kernel
theorem dX6_lays_242 : decode cX6_lays 242 = .ok (.bipush 6, 2) := by decide +kernel
theorem dX6_lays_244 : decode cX6_lays 244 = .ok (.iload_n 3, 1) := by decide +kernel
theorem dX6_lays_245 : decode cX6_lays 245 = .ok (.imul, 1) := by decide +kernel
theorem dX6_lays_246 : decode cX6_lays 246 = .ok (.iconst 1, 1) := by decide +kernel
theorem dX6_lays_247 : decode cX6_lays 247 = .ok (.iadd, 1) := by decide +kernel
theorem dX6_lays_248 : decode cX6_lays 248 = .ok (.sipush 1000, 3) := by decide +kernel
theorem dX6_lays_251 : decode cX6_lays 251 = .ok (.iload 4, 2) := by decide +kernel
theorem dX6_lays_253 : decode cX6_lays 253 = .ok (.invokestatic 84, 3) := by decide +kernel
theorem dX6_lays_256 : decode cX6_lays 256 = .ok (.imul, 1) := by decide +kernel
theorem dX6_lays_257 : decode cX6_lays 257 = .ok (.iload 4, 2) := by decide +kernel
theorem dX6_lays_259 : decode cX6_lays 259 = .ok (.isub, 1) := by decide +kernel
theorem dX6_lays_260 : decode cX6_lays 260 = .ok (.iastore, 1) := by decide +kernel
theorem dX6_lays_261 : decode cX6_lays 261 = .ok (.return_, 1) := by decide +kernel
theorem dX6_takes_0 : decode cX6_takes 0 = .ok (.iconst 5, 1) := by decide +kernel
theorem dX6_takes_1 : decode cX6_takes 1 = .ok (.iload_n 1, 1) := by decide +kernel
theorem dX6_takes_2 : decode cX6_takes 2 = .ok (.imul, 1) := by decide +kernel
theorem dX6_takes_3 : decode cX6_takes 3 = .ok (.iload_n 2, 1) := by decide +kernel
theorem dX6_takes_4 : decode cX6_takes 4 = .ok (.iadd, 1) := by decide +kernel
theorem dX6_takes_5 : decode cX6_takes 5 = .ok (.istore 8, 2) := by decide +kernel
theorem dX6_takes_7 : decode cX6_takes 7 = .ok (.aload_n 0, 1) := by decide +kernel
theorem dX6_takes_8 : decode cX6_takes 8 = .ok (.iload_n 2, 1) := by decide +kernel
theorem dX6_takes_9 : decode cX6_takes 9 = .ok (.iload 4, 2) := by decide +kernel
theorem dX6_takes_11 : decode cX6_takes 11 = .ok (.iload 5, 2) := by decide +kernel
theorem dX6_takes_13 : decode cX6_takes 13 = .ok (.iload 6, 2) := by decide +kernel
theorem dX6_takes_15 : decode cX6_takes 15 = .ok (.iload 7, 2) := by decide +kernel
theorem dX6_takes_17 : decode cX6_takes 17 = .ok (.invokevirtual 87, 3) := by decide +kernel
theorem dX6_takes_20 : decode cX6_takes 20 = .ok (.iload_n 3, 1) := by decide +kernel
theorem dX6_takes_21 : decode cX6_takes 21 = .ok (.iconst (-1), 1) := by decide +kernel
theorem dX6_takes_22 : decode cX6_takes 22 = .ok (.if_icmp .eq 18, 3) := by decide +kernel
theorem dX6_takes_25 : decode cX6_takes 25 = .ok (.aload_n 0, 1) := by decide +kernel
theorem dX6_takes_26 : decode cX6_takes 26 = .ok (.iload_n 1, 1) := by decide +kernel
theorem dX6_takes_27 : decode cX6_takes 27 = .ok (.iload_n 2, 1) := by decide +kernel
theorem dX6_takes_28 : decode cX6_takes 28 = .ok (.invokevirtual 91, 3) := by decide +kernel
theorem dX6_takes_31 : decode cX6_takes 31 = .ok (.iload_n 3, 1) := by decide +kernel
theorem dX6_takes_32 : decode cX6_takes 32 = .ok (.invokestatic 84, 3) := by decide +kernel
theorem dX6_takes_35 : decode cX6_takes 35 = .ok (.if_icmp .ge 5, 3) := by decide +kernel
theorem dX6_takes_38 : decode cX6_takes 38 = .ok (.iload_n 3, 1) := by decide +kernel
theorem dX6_takes_39 : decode cX6_takes 39 = .ok (.ireturn, 1) := by decide +kernel
theorem dX6_takes_40 : decode cX6_takes 40 = .ok (.aload_n 0, 1) := by decide +kernel
theorem dX6_takes_41 : decode cX6_takes 41 = .ok (.iload_n 1, 1) := by decide +kernel
theorem dX6_takes_42 : decode cX6_takes 42 = .ok (.iload_n 2, 1) := by decide +kernel
theorem dX6_takes_43 : decode cX6_takes 43 = .ok (.invokevirtual 95, 3) := by decide +kernel
theorem dX6_takes_46 : decode cX6_takes 46 = .ok (.istore 9, 2) := by decide +kernel
theorem dX6_takes_48 : decode cX6_takes 48 = .ok (.iload 9, 2) := by decide +kernel
theorem dX6_takes_50 : decode cX6_takes 50 = .ok (.iload_n 3, 1) := by decide +kernel
theorem dX6_takes_51 : decode cX6_takes 51 = .ok (.if_icmp .gt 94, 3) := by decide +kernel
theorem dX6_takes_54 : decode cX6_takes 54 = .ok (.iload 9, 2) := by decide +kernel
theorem dX6_takes_56 : decode cX6_takes 56 = .ok (.iload_n 3, 1) := by decide +kernel
theorem dX6_takes_57 : decode cX6_takes 57 = .ok (.if_icmp .ne 92, 3) := by decide +kernel
theorem dX6_takes_60 : decode cX6_takes 60 = .ok (.iload 4, 2) := by decide +kernel
theorem dX6_takes_62 : decode cX6_takes 62 = .ok (.aload_n 0, 1) := by decide +kernel
theorem dX6_takes_63 : decode cX6_takes 63 = .ok (.getfield 30, 3) := by decide +kernel
theorem dX6_takes_66 : decode cX6_takes 66 = .ok (.bipush 6, 2) := by decide +kernel
theorem dX6_takes_68 : decode cX6_takes 68 = .ok (.iload 8, 2) := by decide +kernel
theorem dX6_takes_70 : decode cX6_takes 70 = .ok (.imul, 1) := by decide +kernel
theorem dX6_takes_71 : decode cX6_takes 71 = .ok (.iconst 2, 1) := by decide +kernel
theorem dX6_takes_72 : decode cX6_takes 72 = .ok (.iadd, 1) := by decide +kernel
theorem dX6_takes_73 : decode cX6_takes 73 = .ok (.iaload, 1) := by decide +kernel
theorem dX6_takes_74 : decode cX6_takes 74 = .ok (.if_icmp .ne 75, 3) := by decide +kernel
theorem dX6_takes_77 : decode cX6_takes 77 = .ok (.iload 5, 2) := by decide +kernel
theorem dX6_takes_79 : decode cX6_takes 79 = .ok (.aload_n 0, 1) := by decide +kernel
theorem dX6_takes_80 : decode cX6_takes 80 = .ok (.getfield 30, 3) := by decide +kernel
theorem dX6_takes_83 : decode cX6_takes 83 = .ok (.bipush 6, 2) := by decide +kernel
theorem dX6_takes_85 : decode cX6_takes 85 = .ok (.iload 8, 2) := by decide +kernel
theorem dX6_takes_87 : decode cX6_takes 87 = .ok (.imul, 1) := by decide +kernel
theorem dX6_takes_88 : decode cX6_takes 88 = .ok (.iconst 3, 1) := by decide +kernel
theorem dX6_takes_89 : decode cX6_takes 89 = .ok (.iadd, 1) := by decide +kernel
theorem dX6_takes_90 : decode cX6_takes 90 = .ok (.iaload, 1) := by decide +kernel
theorem dX6_takes_91 : decode cX6_takes 91 = .ok (.if_icmp .ne 58, 3) := by decide +kernel
theorem dX6_takes_94 : decode cX6_takes 94 = .ok (.iload 6, 2) := by decide +kernel
theorem dX6_takes_96 : decode cX6_takes 96 = .ok (.aload_n 0, 1) := by decide +kernel
theorem dX6_takes_97 : decode cX6_takes 97 = .ok (.getfield 30, 3) := by decide +kernel
theorem dX6_takes_100 : decode cX6_takes 100 = .ok (.bipush 6, 2) := by decide +kernel
theorem dX6_takes_102 : decode cX6_takes 102 = .ok (.iload 8, 2) := by decide +kernel
theorem dX6_takes_104 : decode cX6_takes 104 = .ok (.imul, 1) := by decide +kernel
theorem dX6_takes_105 : decode cX6_takes 105 = .ok (.iconst 4, 1) := by decide +kernel
theorem dX6_takes_106 : decode cX6_takes 106 = .ok (.iadd, 1) := by decide +kernel
theorem dX6_takes_107 : decode cX6_takes 107 = .ok (.iaload, 1) := by decide +kernel
theorem dX6_takes_108 : decode cX6_takes 108 = .ok (.if_icmp .lt 37, 3) := by decide +kernel
theorem dX6_takes_111 : decode cX6_takes 111 = .ok (.iload 6, 2) := by decide +kernel
theorem dX6_takes_113 : decode cX6_takes 113 = .ok (.aload_n 0, 1) := by decide +kernel
theorem dX6_takes_114 : decode cX6_takes 114 = .ok (.getfield 30, 3) := by decide +kernel
theorem dX6_takes_117 : decode cX6_takes 117 = .ok (.bipush 6, 2) := by decide +kernel
theorem dX6_takes_119 : decode cX6_takes 119 = .ok (.iload 8, 2) := by decide +kernel
theorem dX6_takes_121 : decode cX6_takes 121 = .ok (.imul, 1) := by decide +kernel
theorem dX6_takes_122 : decode cX6_takes 122 = .ok (.iconst 4, 1) := by decide +kernel
theorem dX6_takes_123 : decode cX6_takes 123 = .ok (.iadd, 1) := by decide +kernel
theorem dX6_takes_124 : decode cX6_takes 124 = .ok (.iaload, 1) := by decide +kernel
theorem dX6_takes_125 : decode cX6_takes 125 = .ok (.if_icmp .ne 24, 3) := by decide +kernel
theorem dX6_takes_128 : decode cX6_takes 128 = .ok (.iload 7, 2) := by decide +kernel
theorem dX6_takes_130 : decode cX6_takes 130 = .ok (.aload_n 0, 1) := by decide +kernel
theorem dX6_takes_131 : decode cX6_takes 131 = .ok (.getfield 30, 3) := by decide +kernel
theorem dX6_takes_134 : decode cX6_takes 134 = .ok (.bipush 6, 2) := by decide +kernel
theorem dX6_takes_136 : decode cX6_takes 136 = .ok (.iload 8, 2) := by decide +kernel
theorem dX6_takes_138 : decode cX6_takes 138 = .ok (.imul, 1) := by decide +kernel
theorem dX6_takes_139 : decode cX6_takes 139 = .ok (.iconst 5, 1) := by decide +kernel
theorem dX6_takes_140 : decode cX6_takes 140 = .ok (.iadd, 1) := by decide +kernel
theorem dX6_takes_141 : decode cX6_takes 141 = .ok (.iaload, 1) := by decide +kernel
theorem dX6_takes_142 : decode cX6_takes 142 = .ok (.if_icmp .ge 7, 3) := by decide +kernel
theorem dX6_takes_145 : decode cX6_takes 145 = .ok (.iconst 1, 1) := by decide +kernel
theorem dX6_takes_146 : decode cX6_takes 146 = .ok (.goto 4, 3) := by decide +kernel
theorem dX6_takes_149 : decode cX6_takes 149 = .ok (.iconst 0, 1) := by decide +kernel
theorem dX6_takes_150 : decode cX6_takes 150 = .ok (.istore 10, 2) := by decide +kernel
theorem dX6_takes_152 : decode cX6_takes 152 = .ok (.iload 10, 2) := by decide +kernel
theorem dX6_takes_154 : decode cX6_takes 154 = .ok (.ifCond .ne 5, 3) := by decide +kernel
theorem dX6_takes_157 : decode cX6_takes 157 = .ok (.iload_n 3, 1) := by decide +kernel
theorem dX6_takes_158 : decode cX6_takes 158 = .ok (.ireturn, 1) := by decide +kernel
theorem dX6_takes_159 : decode cX6_takes 159 = .ok (.aload_n 0, 1) := by decide +kernel
theorem dX6_takes_160 : decode cX6_takes 160 = .ok (.getfield 30, 3) := by decide +kernel
theorem dX6_takes_163 : decode cX6_takes 163 = .ok (.bipush 6, 2) := by decide +kernel
theorem dX6_takes_165 : decode cX6_takes 165 = .ok (.iload 8, 2) := by decide +kernel
theorem dX6_takes_167 : decode cX6_takes 167 = .ok (.imul, 1) := by decide +kernel
theorem dX6_takes_168 : decode cX6_takes 168 = .ok (.iconst 2, 1) := by decide +kernel
theorem dX6_takes_169 : decode cX6_takes 169 = .ok (.iadd, 1) := by decide +kernel
theorem dX6_takes_170 : decode cX6_takes 170 = .ok (.iload 4, 2) := by decide +kernel
theorem dX6_takes_172 : decode cX6_takes 172 = .ok (.iastore, 1) := by decide +kernel
theorem dX6_takes_173 : decode cX6_takes 173 = .ok (.aload_n 0, 1) := by decide +kernel
