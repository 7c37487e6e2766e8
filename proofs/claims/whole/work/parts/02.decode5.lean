theorem dX6_look_112 : decode cX6_look 112 = .ok (.invokevirtual 113, 3) := by decide +kernel
theorem dX6_look_115 : decode cX6_look 115 = .ok (.if_icmp .ge 23, 3) := by decide +kernel
theorem dX6_look_118 : decode cX6_look 118 = .ok (.aload_n 0, 1) := by decide +kernel
theorem dX6_look_119 : decode cX6_look 119 = .ok (.iload_n 3, 1) := by decide +kernel
theorem dX6_look_120 : decode cX6_look 120 = .ok (.invokevirtual 143, 3) := by decide +kernel
theorem dX6_look_123 : decode cX6_look 123 = .ok (.istore 4, 2) := by decide +kernel
theorem dX6_look_125 : decode cX6_look 125 = .ok (.iload_n 2, 1) := by decide +kernel
theorem dX6_look_126 : decode cX6_look 126 = .ok (.aload_n 0, 1) := by decide +kernel
theorem dX6_look_127 : decode cX6_look 127 = .ok (.getfield 131, 3) := by decide +kernel
theorem dX6_look_130 : decode cX6_look 130 = .ok (.iadd, 1) := by decide +kernel
theorem dX6_look_131 : decode cX6_look 131 = .ok (.istore_n 2, 1) := by decide +kernel
theorem dX6_look_132 : decode cX6_look 132 = .ok (.iinc 3 1, 3) := by decide +kernel
theorem dX6_look_135 : decode cX6_look 135 = .ok (.goto (-25), 3) := by decide +kernel
theorem dX6_look_138 : decode cX6_look 138 = .ok (.iload_n 2, 1) := by decide +kernel
theorem dX6_look_139 : decode cX6_look 139 = .ok (.ireturn, 1) := by decide +kernel
theorem dX6_look_140 : decode cX6_look 140 = .ok (.iconst (-1), 1) := by decide +kernel
theorem dX6_look_141 : decode cX6_look 141 = .ok (.ireturn, 1) := by decide +kernel
theorem dX6_of_0 : decode cX6_of 0 = .ok (.aload_n 0, 1) := by decide +kernel
theorem dX6_of_1 : decode cX6_of 1 = .ok (.iload_n 1, 1) := by decide +kernel
theorem dX6_of_2 : decode cX6_of 2 = .ok (.invokevirtual 58, 3) := by decide +kernel
theorem dX6_of_5 : decode cX6_of 5 = .ok (.ifCond .ne 5, 3) := by decide +kernel
theorem dX6_of_8 : decode cX6_of 8 = .ok (.iconst (-1), 1) := by decide +kernel
theorem dX6_of_9 : decode cX6_of 9 = .ok (.ireturn, 1) := by decide +kernel
theorem dX6_of_10 : decode cX6_of 10 = .ok (.iload_n 2, 1) := by decide +kernel
theorem dX6_of_11 : decode cX6_of 11 = .ok (.ifCond .ne 10, 3) := by decide +kernel
theorem dX6_of_14 : decode cX6_of 14 = .ok (.aload_n 0, 1) := by decide +kernel
theorem dX6_of_15 : decode cX6_of 15 = .ok (.getfield 13, 3) := by decide +kernel
theorem dX6_of_18 : decode cX6_of 18 = .ok (.iload_n 1, 1) := by decide +kernel
theorem dX6_of_19 : decode cX6_of 19 = .ok (.iaload, 1) := by decide +kernel
theorem dX6_of_20 : decode cX6_of 20 = .ok (.ireturn, 1) := by decide +kernel
theorem dX6_of_21 : decode cX6_of 21 = .ok (.iload_n 2, 1) := by decide +kernel
theorem dX6_of_22 : decode cX6_of 22 = .ok (.iconst 1, 1) := by decide +kernel
theorem dX6_of_23 : decode cX6_of 23 = .ok (.if_icmp .ne 10, 3) := by decide +kernel
theorem dX6_of_26 : decode cX6_of 26 = .ok (.aload_n 0, 1) := by decide +kernel
theorem dX6_of_27 : decode cX6_of 27 = .ok (.getfield 17, 3) := by decide +kernel
theorem dX6_of_30 : decode cX6_of 30 = .ok (.iload_n 1, 1) := by decide +kernel
theorem dX6_of_31 : decode cX6_of 31 = .ok (.iaload, 1) := by decide +kernel
theorem dX6_of_32 : decode cX6_of 32 = .ok (.ireturn, 1) := by decide +kernel
theorem dX6_of_33 : decode cX6_of 33 = .ok (.iload_n 2, 1) := by decide +kernel
theorem dX6_of_34 : decode cX6_of 34 = .ok (.bipush 10, 2) := by decide +kernel
theorem dX6_of_36 : decode cX6_of 36 = .ok (.bipush 9, 2) := by decide +kernel
theorem dX6_of_38 : decode cX6_of 38 = .ok (.iconst 2, 1) := by decide +kernel
theorem dX6_of_39 : decode cX6_of 39 = .ok (.aload_n 0, 1) := by decide +kernel
theorem dX6_of_40 : decode cX6_of 40 = .ok (.getfield 17, 3) := by decide +kernel
theorem dX6_of_43 : decode cX6_of 43 = .ok (.iload_n 1, 1) := by decide +kernel
theorem dX6_of_44 : decode cX6_of 44 = .ok (.iaload, 1) := by decide +kernel
theorem dX6_of_45 : decode cX6_of 45 = .ok (.imul, 1) := by decide +kernel
theorem dX6_of_46 : decode cX6_of 46 = .ok (.iadd, 1) := by decide +kernel
theorem dX6_of_47 : decode cX6_of 47 = .ok (.invokestatic 51, 3) := by decide +kernel
theorem dX6_of_50 : decode cX6_of 50 = .ok (.ifCond .ne 5, 3) := by decide +kernel
theorem dX6_of_53 : decode cX6_of 53 = .ok (.iconst (-1), 1) := by decide +kernel
theorem dX6_of_54 : decode cX6_of 54 = .ok (.ireturn, 1) := by decide +kernel
theorem dX6_of_55 : decode cX6_of 55 = .ok (.iload_n 2, 1) := by decide +kernel
theorem dX6_of_56 : decode cX6_of 56 = .ok (.bipush 10, 2) := by decide +kernel
theorem dX6_of_58 : decode cX6_of 58 = .ok (.isub, 1) := by decide +kernel
theorem dX6_of_59 : decode cX6_of 59 = .ok (.iconst 2, 1) := by decide +kernel
theorem dX6_of_60 : decode cX6_of 60 = .ok (.idiv, 1) := by decide +kernel
theorem dX6_of_61 : decode cX6_of 61 = .ok (.istore_n 3, 1) := by decide +kernel
theorem dX6_of_62 : decode cX6_of 62 = .ok (.iload_n 2, 1) := by decide +kernel
theorem dX6_of_63 : decode cX6_of 63 = .ok (.iconst 2, 1) := by decide +kernel
theorem dX6_of_64 : decode cX6_of 64 = .ok (.irem, 1) := by decide +kernel
theorem dX6_of_65 : decode cX6_of 65 = .ok (.ifCond .ne 17, 3) := by decide +kernel
theorem dX6_of_68 : decode cX6_of 68 = .ok (.aload_n 0, 1) := by decide +kernel
theorem dX6_of_69 : decode cX6_of 69 = .ok (.getfield 20, 3) := by decide +kernel
theorem dX6_of_72 : decode cX6_of 72 = .ok (.bipush 8, 2) := by decide +kernel
theorem dX6_of_74 : decode cX6_of 74 = .ok (.iload_n 1, 1) := by decide +kernel
theorem dX6_of_75 : decode cX6_of 75 = .ok (.imul, 1) := by decide +kernel
theorem dX6_of_76 : decode cX6_of 76 = .ok (.iload_n 3, 1) := by decide +kernel
theorem dX6_of_77 : decode cX6_of 77 = .ok (.iadd, 1) := by decide +kernel
theorem dX6_of_78 : decode cX6_of 78 = .ok (.iaload, 1) := by decide +kernel
theorem dX6_of_79 : decode cX6_of 79 = .ok (.goto 14, 3) := by decide +kernel
theorem dX6_of_82 : decode cX6_of 82 = .ok (.aload_n 0, 1) := by decide +kernel
theorem dX6_of_83 : decode cX6_of 83 = .ok (.getfield 23, 3) := by decide +kernel
theorem dX6_of_86 : decode cX6_of 86 = .ok (.bipush 8, 2) := by decide +kernel
theorem dX6_of_88 : decode cX6_of 88 = .ok (.iload_n 1, 1) := by decide +kernel
theorem dX6_of_89 : decode cX6_of 89 = .ok (.imul, 1) := by decide +kernel
theorem dX6_of_90 : decode cX6_of 90 = .ok (.iload_n 3, 1) := by decide +kernel
theorem dX6_of_91 : decode cX6_of 91 = .ok (.iadd, 1) := by decide +kernel
theorem dX6_of_92 : decode cX6_of 92 = .ok (.iaload, 1) := by decide +kernel
theorem dX6_of_93 : decode cX6_of 93 = .ok (.ireturn, 1) := by decide +kernel
theorem dX6_slipped_0 : decode cX6_slipped 0 = .ok (.iload_n 0, 1) := by decide +kernel
theorem dX6_slipped_1 : decode cX6_slipped 1 = .ok (.bipush 100, 2) := by decide +kernel
theorem dX6_slipped_3 : decode cX6_slipped 3 = .ok (.idiv, 1) := by decide +kernel
theorem dX6_slipped_4 : decode cX6_slipped 4 = .ok (.istore_n 2, 1) := by decide +kernel
theorem dX6_slipped_5 : decode cX6_slipped 5 = .ok (.iload_n 0, 1) := by decide +kernel
theorem dX6_slipped_6 : decode cX6_slipped 6 = .ok (.bipush 10, 2) := by decide +kernel
theorem dX6_slipped_8 : decode cX6_slipped 8 = .ok (.idiv, 1) := by decide +kernel
theorem dX6_slipped_9 : decode cX6_slipped 9 = .ok (.bipush 10, 2) := by decide +kernel
theorem dX6_slipped_11 : decode cX6_slipped 11 = .ok (.irem, 1) := by decide +kernel
theorem dX6_slipped_12 : decode cX6_slipped 12 = .ok (.istore_n 3, 1) := by decide +kernel
theorem dX6_slipped_13 : decode cX6_slipped 13 = .ok (.iload_n 0, 1) := by decide +kernel
theorem dX6_slipped_14 : decode cX6_slipped 14 = .ok (.bipush 10, 2) := by decide +kernel
theorem dX6_slipped_16 : decode cX6_slipped 16 = .ok (.irem, 1) := by decide +kernel
theorem dX6_slipped_17 : decode cX6_slipped 17 = .ok (.istore 4, 2) := by decide +kernel
theorem dX6_slipped_19 : decode cX6_slipped 19 = .ok (.iload_n 1, 1) := by decide +kernel
theorem dX6_slipped_20 : decode cX6_slipped 20 = .ok (.ifCond .ne 18, 3) := by decide +kernel
theorem dX6_slipped_23 : decode cX6_slipped 23 = .ok (.bipush 100, 2) := by decide +kernel
theorem dX6_slipped_25 : decode cX6_slipped 25 = .ok (.iload_n 3, 1) := by decide +kernel
theorem dX6_slipped_26 : decode cX6_slipped 26 = .ok (.imul, 1) := by decide +kernel
theorem dX6_slipped_27 : decode cX6_slipped 27 = .ok (.bipush 10, 2) := by decide +kernel
theorem dX6_slipped_29 : decode cX6_slipped 29 = .ok (.iload_n 2, 1) := by decide +kernel
theorem dX6_slipped_30 : decode cX6_slipped 30 = .ok (.imul, 1) := by decide +kernel
theorem dX6_slipped_31 : decode cX6_slipped 31 = .ok (.iadd, 1) := by decide +kernel
theorem dX6_slipped_32 : decode cX6_slipped 32 = .ok (.iload 4, 2) := by decide +kernel
theorem dX6_slipped_34 : decode cX6_slipped 34 = .ok (.iadd, 1) := by decide +kernel
theorem dX6_slipped_35 : decode cX6_slipped 35 = .ok (.goto 15, 3) := by decide +kernel
theorem dX6_slipped_38 : decode cX6_slipped 38 = .ok (.bipush 100, 2) := by decide +kernel
theorem dX6_slipped_40 : decode cX6_slipped 40 = .ok (.iload_n 2, 1) := by decide +kernel
theorem dX6_slipped_41 : decode cX6_slipped 41 = .ok (.imul, 1) := by decide +kernel
theorem dX6_slipped_42 : decode cX6_slipped 42 = .ok (.bipush 10, 2) := by decide +kernel
theorem dX6_slipped_44 : decode cX6_slipped 44 = .ok (.iload 4, 2) := by decide +kernel
theorem dX6_slipped_46 : decode cX6_slipped 46 = .ok (.imul, 1) := by decide +kernel
theorem dX6_slipped_47 : decode cX6_slipped 47 = .ok (.iadd, 1) := by decide +kernel
theorem dX6_slipped_48 : decode cX6_slipped 48 = .ok (.iload_n 3, 1) := by decide +kernel
theorem dX6_slipped_49 : decode cX6_slipped 49 = .ok (.iadd, 1) := by decide +kernel
theorem dX6_slipped_50 : decode cX6_slipped 50 = .ok (.ireturn, 1) := by decide +kernel
theorem dX6_isPaired_0 : decode cX6_isPaired 0 = .ok (.iconst 0, 1) := by decide +kernel
theorem dX6_isPaired_1 : decode cX6_isPaired 1 = .ok (.istore 4, 2) := by decide +kernel
theorem dX6_isPaired_3 : decode cX6_isPaired 3 = .ok (.iconst 0, 1) := by decide +kernel
theorem dX6_isPaired_4 : decode cX6_isPaired 4 = .ok (.istore 5, 2) := by decide +kernel
theorem dX6_isPaired_6 : decode cX6_isPaired 6 = .ok (.iload 5, 2) := by decide +kernel
theorem dX6_isPaired_8 : decode cX6_isPaired 8 = .ok (.aload_n 0, 1) := by decide +kernel
theorem dX6_isPaired_9 : decode cX6_isPaired 9 = .ok (.getfield 17, 3) := by decide +kernel
theorem dX6_isPaired_12 : decode cX6_isPaired 12 = .ok (.iload_n 2, 1) := by decide +kernel
theorem dX6_isPaired_13 : decode cX6_isPaired 13 = .ok (.iaload, 1) := by decide +kernel
theorem dX6_isPaired_14 : decode cX6_isPaired 14 = .ok (.if_icmp .ge 41, 3) := by decide +kernel
theorem dX6_isPaired_17 : decode cX6_isPaired 17 = .ok (.iload 4, 2) := by decide +kernel
theorem dX6_isPaired_19 : decode cX6_isPaired 19 = .ok (.ifCond .ne 23, 3) := by decide +kernel
theorem dX6_isPaired_22 : decode cX6_isPaired 22 = .ok (.aload_n 0, 1) := by decide +kernel
theorem dX6_isPaired_23 : decode cX6_isPaired 23 = .ok (.getfield 33, 3) := by decide +kernel
theorem dX6_isPaired_26 : decode cX6_isPaired 26 = .ok (.bipush 8, 2) := by decide +kernel
theorem dX6_isPaired_28 : decode cX6_isPaired 28 = .ok (.iconst 5, 1) := by decide +kernel
theorem dX6_isPaired_29 : decode cX6_isPaired 29 = .ok (.iload_n 1, 1) := by decide +kernel
theorem dX6_isPaired_30 : decode cX6_isPaired 30 = .ok (.imul, 1) := by decide +kernel
theorem dX6_isPaired_31 : decode cX6_isPaired 31 = .ok (.iload_n 2, 1) := by decide +kernel
theorem dX6_isPaired_32 : decode cX6_isPaired 32 = .ok (.iadd, 1) := by decide +kernel
theorem dX6_isPaired_33 : decode cX6_isPaired 33 = .ok (.imul, 1) := by decide +kernel
theorem dX6_isPaired_34 : decode cX6_isPaired 34 = .ok (.iload 5, 2) := by decide +kernel
theorem dX6_isPaired_36 : decode cX6_isPaired 36 = .ok (.iadd, 1) := by decide +kernel
theorem dX6_isPaired_37 : decode cX6_isPaired 37 = .ok (.iaload, 1) := by decide +kernel
theorem dX6_isPaired_38 : decode cX6_isPaired 38 = .ok (.iload_n 3, 1) := by decide +kernel
theorem dX6_isPaired_39 : decode cX6_isPaired 39 = .ok (.if_icmp .ne 7, 3) := by decide +kernel
theorem dX6_isPaired_42 : decode cX6_isPaired 42 = .ok (.iconst 1, 1) := by decide +kernel
theorem dX6_isPaired_43 : decode cX6_isPaired 43 = .ok (.goto 4, 3) := by decide +kernel
theorem dX6_isPaired_46 : decode cX6_isPaired 46 = .ok (.iconst 0, 1) := by decide +kernel
theorem dX6_isPaired_47 : decode cX6_isPaired 47 = .ok (.istore 4, 2) := by decide +kernel
theorem dX6_isPaired_49 : decode cX6_isPaired 49 = .ok (.iinc 5 1, 3) := by decide +kernel
theorem dX6_isPaired_52 : decode cX6_isPaired 52 = .ok (.goto (-46), 3) := by decide +kernel
theorem dX6_isPaired_55 : decode cX6_isPaired 55 = .ok (.iload 4, 2) := by decide +kernel
theorem dX6_isPaired_57 : decode cX6_isPaired 57 = .ok (.ireturn, 1) := by decide +kernel
theorem dX6_slip_0 : decode cX6_slip 0 = .ok (.aload_n 0, 1) := by decide +kernel
theorem dX6_slip_1 : decode cX6_slip 1 = .ok (.invokevirtual 109, 3) := by decide +kernel
theorem dX6_slip_4 : decode cX6_slip 4 = .ok (.istore 4, 2) := by decide +kernel
theorem dX6_slip_6 : decode cX6_slip 6 = .ok (.aload_n 0, 1) := by decide +kernel
theorem dX6_slip_7 : decode cX6_slip 7 = .ok (.iload_n 1, 1) := by decide +kernel
theorem dX6_slip_8 : decode cX6_slip 8 = .ok (.invokevirtual 58, 3) := by decide +kernel
theorem dX6_slip_11 : decode cX6_slip 11 = .ok (.ifCond .eq 64, 3) := by decide +kernel
theorem dX6_slip_14 : decode cX6_slip 14 = .ok (.iload_n 1, 1) := by decide +kernel
theorem dX6_slip_15 : decode cX6_slip 15 = .ok (.iload 4, 2) := by decide +kernel
theorem dX6_slip_17 : decode cX6_slip 17 = .ok (.if_icmp .eq 58, 3) := by decide +kernel
theorem dX6_slip_20 : decode cX6_slip 20 = .ok (.iload_n 2, 1) := by decide +kernel
theorem dX6_slip_21 : decode cX6_slip 21 = .ok (.iconst 0, 1) := by decide +kernel
theorem dX6_slip_22 : decode cX6_slip 22 = .ok (.aload_n 0, 1) := by decide +kernel
theorem dX6_slip_23 : decode cX6_slip 23 = .ok (.getfield 17, 3) := by decide +kernel
theorem dX6_slip_26 : decode cX6_slip 26 = .ok (.iload_n 1, 1) := by decide +kernel
theorem dX6_slip_27 : decode cX6_slip 27 = .ok (.iaload, 1) := by decide +kernel
theorem dX6_slip_28 : decode cX6_slip 28 = .ok (.iconst 1, 1) := by decide +kernel
theorem dX6_slip_29 : decode cX6_slip 29 = .ok (.isub, 1) := by decide +kernel
theorem dX6_slip_30 : decode cX6_slip 30 = .ok (.invokestatic 51, 3) := by decide +kernel
theorem dX6_slip_33 : decode cX6_slip 33 = .ok (.ifCond .eq 42, 3) := by decide +kernel
theorem dX6_slip_36 : decode cX6_slip 36 = .ok (.iload_n 3, 1) := by decide +kernel
theorem dX6_slip_37 : decode cX6_slip 37 = .ok (.iconst 0, 1) := by decide +kernel
theorem dX6_slip_38 : decode cX6_slip 38 = .ok (.iconst 2, 1) := by decide +kernel
theorem dX6_slip_39 : decode cX6_slip 39 = .ok (.invokestatic 51, 3) := by decide +kernel
theorem dX6_slip_42 : decode cX6_slip 42 = .ok (.ifCond .eq 33, 3) := by decide +kernel
theorem dX6_slip_45 : decode cX6_slip 45 = .ok (.aload_n 0, 1) := by decide +kernel
theorem dX6_slip_46 : decode cX6_slip 46 = .ok (.iload 4, 2) := by decide +kernel
theorem dX6_slip_48 : decode cX6_slip 48 = .ok (.iload_n 1, 1) := by decide +kernel
theorem dX6_slip_49 : decode cX6_slip 49 = .ok (.invokevirtual 105, 3) := by decide +kernel
theorem dX6_slip_52 : decode cX6_slip 52 = .ok (.ifCond .eq 23, 3) := by decide +kernel
theorem dX6_slip_55 : decode cX6_slip 55 = .ok (.aload_n 0, 1) := by decide +kernel
theorem dX6_slip_56 : decode cX6_slip 56 = .ok (.getfield 33, 3) := by decide +kernel
theorem dX6_slip_59 : decode cX6_slip 59 = .ok (.bipush 8, 2) := by decide +kernel
theorem dX6_slip_61 : decode cX6_slip 61 = .ok (.iconst 5, 1) := by decide +kernel
theorem dX6_slip_62 : decode cX6_slip 62 = .ok (.iload 4, 2) := by decide +kernel
theorem dX6_slip_64 : decode cX6_slip 64 = .ok (.imul, 1) := by decide +kernel
theorem dX6_slip_65 : decode cX6_slip 65 = .ok (.iload_n 1, 1) := by decide +kernel
theorem dX6_slip_66 : decode cX6_slip 66 = .ok (.iadd, 1) := by decide +kernel
theorem dX6_slip_67 : decode cX6_slip 67 = .ok (.imul, 1) := by decide +kernel
theorem dX6_slip_68 : decode cX6_slip 68 = .ok (.iload_n 2, 1) := by decide +kernel
theorem dX6_slip_69 : decode cX6_slip 69 = .ok (.iadd, 1) := by decide +kernel
theorem dX6_slip_70 : decode cX6_slip 70 = .ok (.iaload, 1) := by decide +kernel
theorem dX6_slip_71 : decode cX6_slip 71 = .ok (.iconst (-1), 1) := by decide +kernel
theorem dX6_slip_72 : decode cX6_slip 72 = .ok (.if_icmp .eq 5, 3) := by decide +kernel
theorem dX6_slip_75 : decode cX6_slip 75 = .ok (.iconst (-1), 1) := by decide +kernel
theorem dX6_slip_76 : decode cX6_slip 76 = .ok (.ireturn, 1) := by decide +kernel
theorem dX6_slip_77 : decode cX6_slip 77 = .ok (.bipush 6, 2) := by decide +kernel
theorem dX6_slip_79 : decode cX6_slip 79 = .ok (.iconst 5, 1) := by decide +kernel
theorem dX6_slip_80 : decode cX6_slip 80 = .ok (.iload 4, 2) := by decide +kernel
theorem dX6_slip_82 : decode cX6_slip 82 = .ok (.imul, 1) := by decide +kernel
theorem dX6_slip_83 : decode cX6_slip 83 = .ok (.iload_n 1, 1) := by decide +kernel
theorem dX6_slip_84 : decode cX6_slip 84 = .ok (.iadd, 1) := by decide +kernel
theorem dX6_slip_85 : decode cX6_slip 85 = .ok (.imul, 1) := by decide +kernel
theorem dX6_slip_86 : decode cX6_slip 86 = .ok (.istore 5, 2) := by decide +kernel
theorem dX6_slip_88 : decode cX6_slip 88 = .ok (.iconst 1, 1) := by decide +kernel
theorem dX6_slip_89 : decode cX6_slip 89 = .ok (.istore 6, 2) := by decide +kernel
theorem dX6_slip_91 : decode cX6_slip 91 = .ok (.iload 6, 2) := by decide +kernel
theorem dX6_slip_93 : decode cX6_slip 93 = .ok (.iconst 3, 1) := by decide +kernel
theorem dX6_slip_94 : decode cX6_slip 94 = .ok (.if_icmp .ge 271, 3) := by decide +kernel
theorem dX6_slip_97 : decode cX6_slip 97 = .ok (.iconst 0, 1) := by decide +kernel
theorem dX6_slip_98 : decode cX6_slip 98 = .ok (.istore 7, 2) := by decide +kernel
theorem dX6_slip_100 : decode cX6_slip 100 = .ok (.iload 7, 2) := by decide +kernel
theorem dX6_slip_102 : decode cX6_slip 102 = .ok (.iconst 2, 1) := by decide +kernel
theorem dX6_slip_103 : decode cX6_slip 103 = .ok (.if_icmp .ge 256, 3) := by decide +kernel
theorem dX6_slip_106 : decode cX6_slip 106 = .ok (.iload 6, 2) := by decide +kernel
theorem dX6_slip_108 : decode cX6_slip 108 = .ok (.iconst 1, 1) := by decide +kernel
theorem dX6_slip_109 : decode cX6_slip 109 = .ok (.if_icmp .ne 22, 3) := by decide +kernel
theorem dX6_slip_112 : decode cX6_slip 112 = .ok (.aload_n 0, 1) := by decide +kernel
theorem dX6_slip_113 : decode cX6_slip 113 = .ok (.getfield 20, 3) := by decide +kernel
theorem dX6_slip_116 : decode cX6_slip 116 = .ok (.bipush 8, 2) := by decide +kernel
theorem dX6_slip_118 : decode cX6_slip 118 = .ok (.iload_n 1, 1) := by decide +kernel
theorem dX6_slip_119 : decode cX6_slip 119 = .ok (.imul, 1) := by decide +kernel
theorem dX6_slip_120 : decode cX6_slip 120 = .ok (.iload_n 2, 1) := by decide +kernel
theorem dX6_slip_121 : decode cX6_slip 121 = .ok (.iadd, 1) := by decide +kernel
theorem dX6_slip_122 : decode cX6_slip 122 = .ok (.iaload, 1) := by decide +kernel
theorem dX6_slip_123 : decode cX6_slip 123 = .ok (.iload 7, 2) := by decide +kernel
theorem dX6_slip_125 : decode cX6_slip 125 = .ok (.invokestatic 159, 3) := by decide +kernel
theorem dX6_slip_128 : decode cX6_slip 128 = .ok (.goto 14, 3) := by decide +kernel
theorem dX6_slip_131 : decode cX6_slip 131 = .ok (.aload_n 0, 1) := by decide +kernel
theorem dX6_slip_132 : decode cX6_slip 132 = .ok (.getfield 20, 3) := by decide +kernel
theorem dX6_slip_135 : decode cX6_slip 135 = .ok (.bipush 8, 2) := by decide +kernel
theorem dX6_slip_137 : decode cX6_slip 137 = .ok (.iload_n 1, 1) := by decide +kernel
theorem dX6_slip_138 : decode cX6_slip 138 = .ok (.imul, 1) := by decide +kernel
theorem dX6_slip_139 : decode cX6_slip 139 = .ok (.iload_n 2, 1) := by decide +kernel
theorem dX6_slip_140 : decode cX6_slip 140 = .ok (.iadd, 1) := by decide +kernel
theorem dX6_slip_141 : decode cX6_slip 141 = .ok (.iaload, 1) := by decide +kernel
theorem dX6_slip_142 : decode cX6_slip 142 = .ok (.istore 8, 2) := by decide +kernel
theorem dX6_slip_144 : decode cX6_slip 144 = .ok (.iload 6, 2) := by decide +kernel
theorem dX6_slip_146 : decode cX6_slip 146 = .ok (.iconst 2, 1) := by decide +kernel
theorem dX6_slip_147 : decode cX6_slip 147 = .ok (.if_icmp .ne 22, 3) := by decide +kernel
theorem dX6_slip_150 : decode cX6_slip 150 = .ok (.aload_n 0, 1) := by decide +kernel
theorem dX6_slip_151 : decode cX6_slip 151 = .ok (.getfield 23, 3) := by decide +kernel
theorem dX6_slip_154 : decode cX6_slip 154 = .ok (.bipush 8, 2) := by decide +kernel
theorem dX6_slip_156 : decode cX6_slip 156 = .ok (.iload_n 1, 1) := by decide +kernel
theorem dX6_slip_157 : decode cX6_slip 157 = .ok (.imul, 1) := by decide +kernel
theorem dX6_slip_158 : decode cX6_slip 158 = .ok (.iload_n 2, 1) := by decide +kernel
theorem dX6_slip_159 : decode cX6_slip 159 = .ok (.iadd, 1) := by decide +kernel
theorem dX6_slip_160 : decode cX6_slip 160 = .ok (.iaload, 1) := by decide +kernel
theorem dX6_slip_161 : decode cX6_slip 161 = .ok (.iload 7, 2) := by decide +kernel
theorem dX6_slip_163 : decode cX6_slip 163 = .ok (.invokestatic 159, 3) := by decide +kernel
theorem dX6_slip_166 : decode cX6_slip 166 = .ok (.goto 14, 3) := by decide +kernel
theorem dX6_slip_169 : decode cX6_slip 169 = .ok (.aload_n 0, 1) := by decide +kernel
theorem dX6_slip_170 : decode cX6_slip 170 = .ok (.getfield 23, 3) := by decide +kernel
theorem dX6_slip_173 : decode cX6_slip 173 = .ok (.bipush 8, 2) := by decide +kernel
theorem dX6_slip_175 : decode cX6_slip 175 = .ok (.iload_n 1, 1) := by decide +kernel
theorem dX6_slip_176 : decode cX6_slip 176 = .ok (.imul, 1) := by decide +kernel
theorem dX6_slip_177 : decode cX6_slip 177 = .ok (.iload_n 2, 1) := by decide +kernel
theorem dX6_slip_178 : decode cX6_slip 178 = .ok (.iadd, 1) := by decide +kernel
theorem dX6_slip_179 : decode cX6_slip 179 = .ok (.iaload, 1) := by decide +kernel
theorem dX6_slip_180 : decode cX6_slip 180 = .ok (.istore 9, 2) := by decide +kernel
theorem dX6_slip_182 : decode cX6_slip 182 = .ok (.aload_n 0, 1) := by decide +kernel
theorem dX6_slip_183 : decode cX6_slip 183 = .ok (.getfield 30, 3) := by decide +kernel
theorem dX6_slip_186 : decode cX6_slip 186 = .ok (.iload 5, 2) := by decide +kernel
theorem dX6_slip_188 : decode cX6_slip 188 = .ok (.iconst 3, 1) := by decide +kernel
theorem dX6_slip_189 : decode cX6_slip 189 = .ok (.iadd, 1) := by decide +kernel
theorem dX6_slip_190 : decode cX6_slip 190 = .ok (.iaload, 1) := by decide +kernel
theorem dX6_slip_191 : decode cX6_slip 191 = .ok (.aload_n 0, 1) := by decide +kernel
theorem dX6_slip_192 : decode cX6_slip 192 = .ok (.getfield 30, 3) := by decide +kernel
theorem dX6_slip_195 : decode cX6_slip 195 = .ok (.iload 5, 2) := by decide +kernel
theorem dX6_slip_197 : decode cX6_slip 197 = .ok (.iconst 2, 1) := by decide +kernel
theorem dX6_slip_198 : decode cX6_slip 198 = .ok (.iadd, 1) := by decide +kernel
theorem dX6_slip_199 : decode cX6_slip 199 = .ok (.iaload, 1) := by decide +kernel
theorem dX6_slip_200 : decode cX6_slip 200 = .ok (.iload 8, 2) := by decide +kernel
theorem dX6_slip_202 : decode cX6_slip 202 = .ok (.iload 9, 2) := by decide +kernel
theorem dX6_slip_204 : decode cX6_slip 204 = .ok (.invokestatic 66, 3) := by decide +kernel
theorem dX6_slip_207 : decode cX6_slip 207 = .ok (.imul, 1) := by decide +kernel
theorem dX6_slip_208 : decode cX6_slip 208 = .ok (.aload_n 0, 1) := by decide +kernel
theorem dX6_slip_209 : decode cX6_slip 209 = .ok (.getfield 30, 3) := by decide +kernel
theorem dX6_slip_212 : decode cX6_slip 212 = .ok (.iload 5, 2) := by decide +kernel
theorem dX6_slip_214 : decode cX6_slip 214 = .ok (.iconst 4, 1) := by decide +kernel
theorem dX6_slip_215 : decode cX6_slip 215 = .ok (.iadd, 1) := by decide +kernel
theorem dX6_slip_216 : decode cX6_slip 216 = .ok (.iaload, 1) := by decide +kernel
theorem dX6_slip_217 : decode cX6_slip 217 = .ok (.iadd, 1) := by decide +kernel
theorem dX6_slip_218 : decode cX6_slip 218 = .ok (.istore 10, 2) := by decide +kernel
theorem dX6_slip_220 : decode cX6_slip 220 = .ok (.aload_n 0, 1) := by decide +kernel
theorem dX6_slip_221 : decode cX6_slip 221 = .ok (.getfield 30, 3) := by decide +kernel
theorem dX6_slip_224 : decode cX6_slip 224 = .ok (.iload 5, 2) := by decide +kernel
theorem dX6_slip_226 : decode cX6_slip 226 = .ok (.iconst 3, 1) := by decide +kernel
theorem dX6_slip_227 : decode cX6_slip 227 = .ok (.iadd, 1) := by decide +kernel
theorem dX6_slip_228 : decode cX6_slip 228 = .ok (.iaload, 1) := by decide +kernel
theorem dX6_slip_229 : decode cX6_slip 229 = .ok (.aload_n 0, 1) := by decide +kernel
theorem dX6_slip_230 : decode cX6_slip 230 = .ok (.getfield 30, 3) := by decide +kernel
theorem dX6_slip_233 : decode cX6_slip 233 = .ok (.iload 5, 2) := by decide +kernel
theorem dX6_slip_235 : decode cX6_slip 235 = .ok (.iconst 2, 1) := by decide +kernel
theorem dX6_slip_236 : decode cX6_slip 236 = .ok (.iadd, 1) := by decide +kernel
theorem dX6_slip_237 : decode cX6_slip 237 = .ok (.iaload, 1) := by decide +kernel
theorem dX6_slip_238 : decode cX6_slip 238 = .ok (.iload 8, 2) := by decide +kernel
theorem dX6_slip_240 : decode cX6_slip 240 = .ok (.iload 9, 2) := by decide +kernel
theorem dX6_slip_242 : decode cX6_slip 242 = .ok (.invokestatic 70, 3) := by decide +kernel
theorem dX6_slip_245 : decode cX6_slip 245 = .ok (.imul, 1) := by decide +kernel
theorem dX6_slip_246 : decode cX6_slip 246 = .ok (.aload_n 0, 1) := by decide +kernel
theorem dX6_slip_247 : decode cX6_slip 247 = .ok (.getfield 30, 3) := by decide +kernel
theorem dX6_slip_250 : decode cX6_slip 250 = .ok (.iload 5, 2) := by decide +kernel
theorem dX6_slip_252 : decode cX6_slip 252 = .ok (.iconst 5, 1) := by decide +kernel
theorem dX6_slip_253 : decode cX6_slip 253 = .ok (.iadd, 1) := by decide +kernel
theorem dX6_slip_254 : decode cX6_slip 254 = .ok (.iaload, 1) := by decide +kernel
theorem dX6_slip_255 : decode cX6_slip 255 = .ok (.iadd, 1) := by decide +kernel
theorem dX6_slip_256 : decode cX6_slip 256 = .ok (.istore 11, 2) := by decide +kernel
theorem dX6_slip_258 : decode cX6_slip 258 = .ok (.iconst 0, 1) := by decide +kernel
theorem dX6_slip_259 : decode cX6_slip 259 = .ok (.istore 12, 2) := by decide +kernel
theorem dX6_slip_261 : decode cX6_slip 261 = .ok (.iload 12, 2) := by decide +kernel
theorem dX6_slip_263 : decode cX6_slip 263 = .ok (.aload_n 0, 1) := by decide +kernel
theorem dX6_slip_264 : decode cX6_slip 264 = .ok (.getfield 17, 3) := by decide +kernel
theorem dX6_slip_267 : decode cX6_slip 267 = .ok (.iload 4, 2) := by decide +kernel
theorem dX6_slip_269 : decode cX6_slip 269 = .ok (.iaload, 1) := by decide +kernel
theorem dX6_slip_270 : decode cX6_slip 270 = .ok (.if_icmp .ge 83, 3) := by decide +kernel
theorem dX6_slip_273 : decode cX6_slip 273 = .ok (.aload_n 0, 1) := by decide +kernel
theorem dX6_slip_274 : decode cX6_slip 274 = .ok (.iload 4, 2) := by decide +kernel
theorem dX6_slip_276 : decode cX6_slip 276 = .ok (.iload_n 1, 1) := by decide +kernel
theorem dX6_slip_277 : decode cX6_slip 277 = .ok (.iload 12, 2) := by decide +kernel
theorem dX6_slip_279 : decode cX6_slip 279 = .ok (.invokevirtual 162, 3) := by decide +kernel
theorem dX6_slip_282 : decode cX6_slip 282 = .ok (.ifCond .ne 65, 3) := by decide +kernel
theorem dX6_slip_285 : decode cX6_slip 285 = .ok (.aload_n 0, 1) := by decide +kernel
theorem dX6_slip_286 : decode cX6_slip 286 = .ok (.getfield 20, 3) := by decide +kernel
theorem dX6_slip_289 : decode cX6_slip 289 = .ok (.bipush 8, 2) := by decide +kernel
theorem dX6_slip_291 : decode cX6_slip 291 = .ok (.iload 4, 2) := by decide +kernel
theorem dX6_slip_293 : decode cX6_slip 293 = .ok (.imul, 1) := by decide +kernel
theorem dX6_slip_294 : decode cX6_slip 294 = .ok (.iload 12, 2) := by decide +kernel
theorem dX6_slip_296 : decode cX6_slip 296 = .ok (.iadd, 1) := by decide +kernel
theorem dX6_slip_297 : decode cX6_slip 297 = .ok (.iaload, 1) := by decide +kernel
theorem dX6_slip_298 : decode cX6_slip 298 = .ok (.aload_n 0, 1) := by decide +kernel
theorem dX6_slip_299 : decode cX6_slip 299 = .ok (.getfield 23, 3) := by decide +kernel
theorem dX6_slip_302 : decode cX6_slip 302 = .ok (.bipush 8, 2) := by decide +kernel
theorem dX6_slip_304 : decode cX6_slip 304 = .ok (.iload 4, 2) := by decide +kernel
theorem dX6_slip_306 : decode cX6_slip 306 = .ok (.imul, 1) := by decide +kernel
theorem dX6_slip_307 : decode cX6_slip 307 = .ok (.iload 12, 2) := by decide +kernel
theorem dX6_slip_309 : decode cX6_slip 309 = .ok (.iadd, 1) := by decide +kernel
theorem dX6_slip_310 : decode cX6_slip 310 = .ok (.iaload, 1) := by decide +kernel
theorem dX6_slip_311 : decode cX6_slip 311 = .ok (.iload 10, 2) := by decide +kernel
theorem dX6_slip_313 : decode cX6_slip 313 = .ok (.iload 11, 2) := by decide +kernel
theorem dX6_slip_315 : decode cX6_slip 315 = .ok (.invokestatic 73, 3) := by decide +kernel
theorem dX6_slip_318 : decode cX6_slip 318 = .ok (.aload_n 0, 1) := by decide +kernel
theorem dX6_slip_319 : decode cX6_slip 319 = .ok (.getfield 7, 3) := by decide +kernel
theorem dX6_slip_322 : decode cX6_slip 322 = .ok (.if_icmp .gt 25, 3) := by decide +kernel
theorem dX6_slip_325 : decode cX6_slip 325 = .ok (.iload_n 3, 1) := by decide +kernel
theorem dX6_slip_326 : decode cX6_slip 326 = .ok (.ifCond .ne 8, 3) := by decide +kernel
theorem dX6_slip_329 : decode cX6_slip 329 = .ok (.iload 6, 2) := by decide +kernel
theorem dX6_slip_331 : decode cX6_slip 331 = .ok (.goto 15, 3) := by decide +kernel
theorem dX6_slip_334 : decode cX6_slip 334 = .ok (.iload_n 3, 1) := by decide +kernel
theorem dX6_slip_335 : decode cX6_slip 335 = .ok (.iconst 1, 1) := by decide +kernel
theorem dX6_slip_336 : decode cX6_slip 336 = .ok (.if_icmp .ne 8, 3) := by decide +kernel
theorem dX6_slip_339 : decode cX6_slip 339 = .ok (.iload 7, 2) := by decide +kernel
theorem dX6_slip_341 : decode cX6_slip 341 = .ok (.goto 5, 3) := by decide +kernel
theorem dX6_slip_344 : decode cX6_slip 344 = .ok (.iload 12, 2) := by decide +kernel
theorem dX6_slip_346 : decode cX6_slip 346 = .ok (.ireturn, 1) := by decide +kernel
theorem dX6_slip_347 : decode cX6_slip 347 = .ok (.iinc 12 1, 3) := by decide +kernel
theorem dX6_slip_350 : decode cX6_slip 350 = .ok (.goto (-89), 3) := by decide +kernel
theorem dX6_slip_353 : decode cX6_slip 353 = .ok (.iinc 7 1, 3) := by decide +kernel
theorem dX6_slip_356 : decode cX6_slip 356 = .ok (.goto (-256), 3) := by decide +kernel
theorem dX6_slip_359 : decode cX6_slip 359 = .ok (.iinc 6 1, 3) := by decide +kernel
theorem dX6_slip_362 : decode cX6_slip 362 = .ok (.goto (-271), 3) := by decide +kernel
theorem dX6_slip_365 : decode cX6_slip 365 = .ok (.iconst (-1), 1) := by decide +kernel
theorem dX6_slip_366 : decode cX6_slip 366 = .ok (.ireturn, 1) := by decide +kernel
theorem dJ9_floorDiv_7cf53_0 : decode cJ9_floorDiv_7cf53 0 = .ok (.iload_n 0, 1) := by decide +kernel
theorem dJ9_floorDiv_7cf53_1 : decode cJ9_floorDiv_7cf53 1 = .ok (.iload_n 1, 1) := by decide +kernel
theorem dJ9_floorDiv_7cf53_2 : decode cJ9_floorDiv_7cf53 2 = .ok (.idiv, 1) := by decide +kernel
theorem dJ9_floorDiv_7cf53_3 : decode cJ9_floorDiv_7cf53 3 = .ok (.istore_n 2, 1) := by decide +kernel
theorem dJ9_floorDiv_7cf53_4 : decode cJ9_floorDiv_7cf53 4 = .ok (.iload_n 0, 1) := by decide +kernel
theorem dJ9_floorDiv_7cf53_5 : decode cJ9_floorDiv_7cf53 5 = .ok (.iload_n 1, 1) := by decide +kernel
theorem dJ9_floorDiv_7cf53_6 : decode cJ9_floorDiv_7cf53 6 = .ok (.ixor, 1) := by decide +kernel
theorem dJ9_floorDiv_7cf53_7 : decode cJ9_floorDiv_7cf53 7 = .ok (.ifCond .ge 14, 3) := by decide +kernel
theorem dJ9_floorDiv_7cf53_10 : decode cJ9_floorDiv_7cf53 10 = .ok (.iload_n 2, 1) := by decide +kernel
theorem dJ9_floorDiv_7cf53_11 : decode cJ9_floorDiv_7cf53 11 = .ok (.iload_n 1, 1) := by decide +kernel
theorem dJ9_floorDiv_7cf53_12 : decode cJ9_floorDiv_7cf53 12 = .ok (.imul, 1) := by decide +kernel
theorem dJ9_floorDiv_7cf53_13 : decode cJ9_floorDiv_7cf53 13 = .ok (.iload_n 0, 1) := by decide +kernel
theorem dJ9_floorDiv_7cf53_14 : decode cJ9_floorDiv_7cf53 14 = .ok (.if_icmp .eq 7, 3) := by decide +kernel
theorem dJ9_floorDiv_7cf53_17 : decode cJ9_floorDiv_7cf53 17 = .ok (.iload_n 2, 1) := by decide +kernel
theorem dJ9_floorDiv_7cf53_18 : decode cJ9_floorDiv_7cf53 18 = .ok (.iconst 1, 1) := by decide +kernel
theorem dJ9_floorDiv_7cf53_19 : decode cJ9_floorDiv_7cf53 19 = .ok (.isub, 1) := by decide +kernel
theorem dJ9_floorDiv_7cf53_20 : decode cJ9_floorDiv_7cf53 20 = .ok (.ireturn, 1) := by decide +kernel
theorem dJ9_floorDiv_7cf53_21 : decode cJ9_floorDiv_7cf53 21 = .ok (.iload_n 2, 1) := by decide +kernel
theorem dJ9_floorDiv_7cf53_22 : decode cJ9_floorDiv_7cf53 22 = .ok (.ireturn, 1) := by decide +kernel
theorem dJ9_abs_0f7a4_0 : decode cJ9_abs_0f7a4 0 = .ok (.iload_n 0, 1) := by decide +kernel
theorem dJ9_abs_0f7a4_1 : decode cJ9_abs_0f7a4 1 = .ok (.ifCond .ge 8, 3) := by decide +kernel
theorem dJ9_abs_0f7a4_4 : decode cJ9_abs_0f7a4 4 = .ok (.iload_n 0, 1) := by decide +kernel
theorem dJ9_abs_0f7a4_5 : decode cJ9_abs_0f7a4 5 = .ok (.ineg, 1) := by decide +kernel
theorem dJ9_abs_0f7a4_6 : decode cJ9_abs_0f7a4 6 = .ok (.goto 4, 3) := by decide +kernel
theorem dJ9_abs_0f7a4_9 : decode cJ9_abs_0f7a4 9 = .ok (.iload_n 0, 1) := by decide +kernel
theorem dJ9_abs_0f7a4_10 : decode cJ9_abs_0f7a4 10 = .ok (.ireturn, 1) := by decide +kernel
theorem dJ9_max_7cf53_0 : decode cJ9_max_7cf53 0 = .ok (.iload_n 0, 1) := by decide +kernel
theorem dJ9_max_7cf53_1 : decode cJ9_max_7cf53 1 = .ok (.iload_n 1, 1) := by decide +kernel
theorem dJ9_max_7cf53_2 : decode cJ9_max_7cf53 2 = .ok (.if_icmp .lt 7, 3) := by decide +kernel
theorem dJ9_max_7cf53_5 : decode cJ9_max_7cf53 5 = .ok (.iload_n 0, 1) := by decide +kernel
theorem dJ9_max_7cf53_6 : decode cJ9_max_7cf53 6 = .ok (.goto 4, 3) := by decide +kernel
theorem dJ9_max_7cf53_9 : decode cJ9_max_7cf53 9 = .ok (.iload_n 1, 1) := by decide +kernel
theorem dJ9_max_7cf53_10 : decode cJ9_max_7cf53 10 = .ok (.ireturn, 1) := by decide +kernel
theorem dJ7_fill_d0a16_0 : decode cJ7_fill_d0a16 0 = .ok (.iconst 0, 1) := by decide +kernel
theorem dJ7_fill_d0a16_1 : decode cJ7_fill_d0a16 1 = .ok (.istore_n 3, 1) := by decide +kernel
theorem dJ7_fill_d0a16_2 : decode cJ7_fill_d0a16 2 = .ok (.aload_n 0, 1) := by decide +kernel
theorem dJ7_fill_d0a16_3 : decode cJ7_fill_d0a16 3 = .ok (.arraylength, 1) := by decide +kernel
theorem dJ7_fill_d0a16_4 : decode cJ7_fill_d0a16 4 = .ok (.istore 4, 2) := by decide +kernel
theorem dJ7_fill_d0a16_6 : decode cJ7_fill_d0a16 6 = .ok (.iload_n 3, 1) := by decide +kernel
theorem dJ7_fill_d0a16_7 : decode cJ7_fill_d0a16 7 = .ok (.iload 4, 2) := by decide +kernel
theorem dJ7_fill_d0a16_9 : decode cJ7_fill_d0a16 9 = .ok (.if_icmp .ge 13, 3) := by decide +kernel
theorem dJ7_fill_d0a16_12 : decode cJ7_fill_d0a16 12 = .ok (.aload_n 0, 1) := by decide +kernel
theorem dJ7_fill_d0a16_13 : decode cJ7_fill_d0a16 13 = .ok (.iload_n 3, 1) := by decide +kernel
theorem dJ7_fill_d0a16_14 : decode cJ7_fill_d0a16 14 = .ok (.lload_n 1, 1) := by decide +kernel
theorem dJ7_fill_d0a16_15 : decode cJ7_fill_d0a16 15 = .ok (.lastore, 1) := by decide +kernel
theorem dJ7_fill_d0a16_16 : decode cJ7_fill_d0a16 16 = .ok (.iinc 3 1, 3) := by decide +kernel
theorem dJ7_fill_d0a16_19 : decode cJ7_fill_d0a16 19 = .ok (.goto (-13), 3) := by decide +kernel
theorem dJ7_fill_d0a16_22 : decode cJ7_fill_d0a16 22 = .ok (.return_, 1) := by decide +kernel
theorem dJ7_fill_53178_0 : decode cJ7_fill_53178 0 = .ok (.iconst 0, 1) := by decide +kernel
theorem dJ7_fill_53178_1 : decode cJ7_fill_53178 1 = .ok (.istore_n 2, 1) := by decide +kernel
theorem dJ7_fill_53178_2 : decode cJ7_fill_53178 2 = .ok (.aload_n 0, 1) := by decide +kernel
theorem dJ7_fill_53178_3 : decode cJ7_fill_53178 3 = .ok (.arraylength, 1) := by decide +kernel
theorem dJ7_fill_53178_4 : decode cJ7_fill_53178 4 = .ok (.istore_n 3, 1) := by decide +kernel
theorem dJ7_fill_53178_5 : decode cJ7_fill_53178 5 = .ok (.iload_n 2, 1) := by decide +kernel
theorem dJ7_fill_53178_6 : decode cJ7_fill_53178 6 = .ok (.iload_n 3, 1) := by decide +kernel
theorem dJ7_fill_53178_7 : decode cJ7_fill_53178 7 = .ok (.if_icmp .ge 13, 3) := by decide +kernel
theorem dJ7_fill_53178_10 : decode cJ7_fill_53178 10 = .ok (.aload_n 0, 1) := by decide +kernel
theorem dJ7_fill_53178_11 : decode cJ7_fill_53178 11 = .ok (.iload_n 2, 1) := by decide +kernel
theorem dJ7_fill_53178_12 : decode cJ7_fill_53178 12 = .ok (.iload_n 1, 1) := by decide +kernel
theorem dJ7_fill_53178_13 : decode cJ7_fill_53178 13 = .ok (.iastore, 1) := by decide +kernel
theorem dJ7_fill_53178_14 : decode cJ7_fill_53178 14 = .ok (.iinc 2 1, 3) := by decide +kernel
theorem dJ7_fill_53178_17 : decode cJ7_fill_53178 17 = .ok (.goto (-12), 3) := by decide +kernel
theorem dJ7_fill_53178_20 : decode cJ7_fill_53178 20 = .ok (.return_, 1) := by decide +kernel
theorem dL_law_0 : decode cL_law 0 = .ok (.new 7, 3) := by decide +kernel
theorem dL_law_3 : decode cL_law 3 = .ok (.dup, 1) := by decide +kernel
theorem dL_law_4 : decode cL_law 4 = .ok (.invokespecial 9, 3) := by decide +kernel
theorem dL_law_7 : decode cL_law 7 = .ok (.astore_n 1, 1) := by decide +kernel
theorem dL_law_8 : decode cL_law 8 = .ok (.new 10, 3) := by decide +kernel
theorem dL_law_11 : decode cL_law 11 = .ok (.dup, 1) := by decide +kernel
theorem dL_law_12 : decode cL_law 12 = .ok (.invokespecial 12, 3) := by decide +kernel
theorem dL_law_15 : decode cL_law 15 = .ok (.astore_n 2, 1) := by decide +kernel
theorem dL_law_16 : decode cL_law 16 = .ok (.iconst 0, 1) := by decide +kernel
theorem dL_law_17 : decode cL_law 17 = .ok (.istore_n 3, 1) := by decide +kernel
theorem dL_law_18 : decode cL_law 18 = .ok (.iload_n 3, 1) := by decide +kernel
theorem dL_law_19 : decode cL_law 19 = .ok (.aload_n 0, 1) := by decide +kernel
theorem dL_law_20 : decode cL_law 20 = .ok (.arraylength, 1) := by decide +kernel
theorem dL_law_21 : decode cL_law 21 = .ok (.iconst 4, 1) := by decide +kernel
theorem dL_law_22 : decode cL_law 22 = .ok (.isub, 1) := by decide +kernel
theorem dL_law_23 : decode cL_law 23 = .ok (.if_icmp .gt 579, 3) := by decide +kernel
theorem dL_law_26 : decode cL_law 26 = .ok (.aload_n 0, 1) := by decide +kernel
theorem dL_law_27 : decode cL_law 27 = .ok (.iload_n 3, 1) := by decide +kernel
theorem dL_law_28 : decode cL_law 28 = .ok (.iaload, 1) := by decide +kernel
theorem dL_law_29 : decode cL_law 29 = .ok (.bipush 15, 2) := by decide +kernel
theorem dL_law_31 : decode cL_law 31 = .ok (.iand, 1) := by decide +kernel
theorem dL_law_32 : decode cL_law 32 = .ok (.tableswitch 564 0 13 #[72, 95, 138, 171, 194, 217, 250, 293, 336, 369, 412, 445, 478, 521], 72) := by decide +kernel
theorem dL_law_104 : decode cL_law 104 = .ok (.aload_n 1, 1) := by decide +kernel
theorem dL_law_105 : decode cL_law 105 = .ok (.aload_n 0, 1) := by decide +kernel
theorem dL_law_106 : decode cL_law 106 = .ok (.iload_n 3, 1) := by decide +kernel
theorem dL_law_107 : decode cL_law 107 = .ok (.iconst 1, 1) := by decide +kernel
theorem dL_law_108 : decode cL_law 108 = .ok (.iadd, 1) := by decide +kernel
theorem dL_law_109 : decode cL_law 109 = .ok (.iaload, 1) := by decide +kernel
theorem dL_law_110 : decode cL_law 110 = .ok (.invokevirtual 13, 3) := by decide +kernel
theorem dL_law_113 : decode cL_law 113 = .ok (.aload_n 2, 1) := by decide +kernel
theorem dL_law_114 : decode cL_law 114 = .ok (.aload_n 0, 1) := by decide +kernel
theorem dL_law_115 : decode cL_law 115 = .ok (.iload_n 3, 1) := by decide +kernel
theorem dL_law_116 : decode cL_law 116 = .ok (.iconst 1, 1) := by decide +kernel
theorem dL_law_117 : decode cL_law 117 = .ok (.iadd, 1) := by decide +kernel
theorem dL_law_118 : decode cL_law 118 = .ok (.iaload, 1) := by decide +kernel
theorem dL_law_119 : decode cL_law 119 = .ok (.invokevirtual 17, 3) := by decide +kernel
theorem dL_law_122 : decode cL_law 122 = .ok (.if_icmp .eq 474, 3) := by decide +kernel
theorem dL_law_125 : decode cL_law 125 = .ok (.iconst 0, 1) := by decide +kernel
theorem dL_law_126 : decode cL_law 126 = .ok (.ireturn, 1) := by decide +kernel
theorem dL_law_127 : decode cL_law 127 = .ok (.aload_n 1, 1) := by decide +kernel
theorem dL_law_128 : decode cL_law 128 = .ok (.aload_n 0, 1) := by decide +kernel
theorem dL_law_129 : decode cL_law 129 = .ok (.iload_n 3, 1) := by decide +kernel
theorem dL_law_130 : decode cL_law 130 = .ok (.iconst 1, 1) := by decide +kernel
theorem dL_law_131 : decode cL_law 131 = .ok (.iadd, 1) := by decide +kernel
theorem dL_law_132 : decode cL_law 132 = .ok (.iaload, 1) := by decide +kernel
theorem dL_law_133 : decode cL_law 133 = .ok (.aload_n 0, 1) := by decide +kernel
theorem dL_law_134 : decode cL_law 134 = .ok (.iload_n 3, 1) := by decide +kernel
theorem dL_law_135 : decode cL_law 135 = .ok (.iconst 2, 1) := by decide +kernel
theorem dL_law_136 : decode cL_law 136 = .ok (.iadd, 1) := by decide +kernel
theorem dL_law_137 : decode cL_law 137 = .ok (.iaload, 1) := by decide +kernel
theorem dL_law_138 : decode cL_law 138 = .ok (.aload_n 0, 1) := by decide +kernel
theorem dL_law_139 : decode cL_law 139 = .ok (.iload_n 3, 1) := by decide +kernel
theorem dL_law_140 : decode cL_law 140 = .ok (.iconst 3, 1) := by decide +kernel
theorem dL_law_141 : decode cL_law 141 = .ok (.iadd, 1) := by decide +kernel
theorem dL_law_142 : decode cL_law 142 = .ok (.iaload, 1) := by decide +kernel
theorem dL_law_143 : decode cL_law 143 = .ok (.invokevirtual 18, 3) := by decide +kernel
theorem dL_law_146 : decode cL_law 146 = .ok (.aload_n 2, 1) := by decide +kernel
theorem dL_law_147 : decode cL_law 147 = .ok (.aload_n 0, 1) := by decide +kernel
theorem dL_law_148 : decode cL_law 148 = .ok (.iload_n 3, 1) := by decide +kernel
theorem dL_law_149 : decode cL_law 149 = .ok (.iconst 1, 1) := by decide +kernel
theorem dL_law_150 : decode cL_law 150 = .ok (.iadd, 1) := by decide +kernel
theorem dL_law_151 : decode cL_law 151 = .ok (.iaload, 1) := by decide +kernel
theorem dL_law_152 : decode cL_law 152 = .ok (.aload_n 0, 1) := by decide +kernel
theorem dL_law_153 : decode cL_law 153 = .ok (.iload_n 3, 1) := by decide +kernel
theorem dL_law_154 : decode cL_law 154 = .ok (.iconst 2, 1) := by decide +kernel
theorem dL_law_155 : decode cL_law 155 = .ok (.iadd, 1) := by decide +kernel
theorem dL_law_156 : decode cL_law 156 = .ok (.iaload, 1) := by decide +kernel
theorem dL_law_157 : decode cL_law 157 = .ok (.aload_n 0, 1) := by decide +kernel
theorem dL_law_158 : decode cL_law 158 = .ok (.iload_n 3, 1) := by decide +kernel
theorem dL_law_159 : decode cL_law 159 = .ok (.iconst 3, 1) := by decide +kernel
theorem dL_law_160 : decode cL_law 160 = .ok (.iadd, 1) := by decide +kernel
theorem dL_law_161 : decode cL_law 161 = .ok (.iaload, 1) := by decide +kernel
theorem dL_law_162 : decode cL_law 162 = .ok (.invokevirtual 22, 3) := by decide +kernel
theorem dL_law_165 : decode cL_law 165 = .ok (.if_icmp .eq 431, 3) := by decide +kernel
theorem dL_law_168 : decode cL_law 168 = .ok (.iconst 0, 1) := by decide +kernel
theorem dL_law_169 : decode cL_law 169 = .ok (.ireturn, 1) := by decide +kernel
theorem dL_law_170 : decode cL_law 170 = .ok (.aload_n 1, 1) := by decide +kernel
theorem dL_law_171 : decode cL_law 171 = .ok (.aload_n 0, 1) := by decide +kernel
theorem dL_law_172 : decode cL_law 172 = .ok (.iload_n 3, 1) := by decide +kernel
theorem dL_law_173 : decode cL_law 173 = .ok (.iconst 1, 1) := by decide +kernel
theorem dL_law_174 : decode cL_law 174 = .ok (.iadd, 1) := by decide +kernel
theorem dL_law_175 : decode cL_law 175 = .ok (.iaload, 1) := by decide +kernel
theorem dL_law_176 : decode cL_law 176 = .ok (.aload_n 0, 1) := by decide +kernel
theorem dL_law_177 : decode cL_law 177 = .ok (.iload_n 3, 1) := by decide +kernel
theorem dL_law_178 : decode cL_law 178 = .ok (.iconst 2, 1) := by decide +kernel
theorem dL_law_179 : decode cL_law 179 = .ok (.iadd, 1) := by decide +kernel
theorem dL_law_180 : decode cL_law 180 = .ok (.iaload, 1) := by decide +kernel
theorem dL_law_181 : decode cL_law 181 = .ok (.invokevirtual 23, 3) := by decide +kernel
theorem dL_law_184 : decode cL_law 184 = .ok (.aload_n 2, 1) := by decide +kernel
theorem dL_law_185 : decode cL_law 185 = .ok (.aload_n 0, 1) := by decide +kernel
theorem dL_law_186 : decode cL_law 186 = .ok (.iload_n 3, 1) := by decide +kernel
theorem dL_law_187 : decode cL_law 187 = .ok (.iconst 1, 1) := by decide +kernel
theorem dL_law_188 : decode cL_law 188 = .ok (.iadd, 1) := by decide +kernel
theorem dL_law_189 : decode cL_law 189 = .ok (.iaload, 1) := by decide +kernel
theorem dL_law_190 : decode cL_law 190 = .ok (.aload_n 0, 1) := by decide +kernel
theorem dL_law_191 : decode cL_law 191 = .ok (.iload_n 3, 1) := by decide +kernel
theorem dL_law_192 : decode cL_law 192 = .ok (.iconst 2, 1) := by decide +kernel
theorem dL_law_193 : decode cL_law 193 = .ok (.iadd, 1) := by decide +kernel
theorem dL_law_194 : decode cL_law 194 = .ok (.iaload, 1) := by decide +kernel
theorem dL_law_195 : decode cL_law 195 = .ok (.invokevirtual 27, 3) := by decide +kernel
theorem dL_law_198 : decode cL_law 198 = .ok (.if_icmp .eq 398, 3) := by decide +kernel
theorem dL_law_201 : decode cL_law 201 = .ok (.iconst 0, 1) := by decide +kernel
theorem dL_law_202 : decode cL_law 202 = .ok (.ireturn, 1) := by decide +kernel
theorem dL_law_203 : decode cL_law 203 = .ok (.aload_n 1, 1) := by decide +kernel
theorem dL_law_204 : decode cL_law 204 = .ok (.aload_n 0, 1) := by decide +kernel
theorem dL_law_205 : decode cL_law 205 = .ok (.iload_n 3, 1) := by decide +kernel
theorem dL_law_206 : decode cL_law 206 = .ok (.iconst 1, 1) := by decide +kernel
theorem dL_law_207 : decode cL_law 207 = .ok (.iadd, 1) := by decide +kernel
theorem dL_law_208 : decode cL_law 208 = .ok (.iaload, 1) := by decide +kernel
theorem dL_law_209 : decode cL_law 209 = .ok (.invokevirtual 28, 3) := by decide +kernel
theorem dL_law_212 : decode cL_law 212 = .ok (.aload_n 2, 1) := by decide +kernel
theorem dL_law_213 : decode cL_law 213 = .ok (.aload_n 0, 1) := by decide +kernel
theorem dL_law_214 : decode cL_law 214 = .ok (.iload_n 3, 1) := by decide +kernel
theorem dL_law_215 : decode cL_law 215 = .ok (.iconst 1, 1) := by decide +kernel
theorem dL_law_216 : decode cL_law 216 = .ok (.iadd, 1) := by decide +kernel
theorem dL_law_217 : decode cL_law 217 = .ok (.iaload, 1) := by decide +kernel
theorem dL_law_218 : decode cL_law 218 = .ok (.invokevirtual 32, 3) := by decide +kernel
theorem dL_law_221 : decode cL_law 221 = .ok (.if_icmp .eq 375, 3) := by decide +kernel
theorem dL_law_224 : decode cL_law 224 = .ok (.iconst 0, 1) := by decide +kernel
theorem dL_law_225 : decode cL_law 225 = .ok (.ireturn, 1) := by decide +kernel
theorem dL_law_226 : decode cL_law 226 = .ok (.aload_n 1, 1) := by decide +kernel
theorem dL_law_227 : decode cL_law 227 = .ok (.aload_n 0, 1) := by decide +kernel
theorem dL_law_228 : decode cL_law 228 = .ok (.iload_n 3, 1) := by decide +kernel
theorem dL_law_229 : decode cL_law 229 = .ok (.iconst 1, 1) := by decide +kernel
theorem dL_law_230 : decode cL_law 230 = .ok (.iadd, 1) := by decide +kernel
theorem dL_law_231 : decode cL_law 231 = .ok (.iaload, 1) := by decide +kernel
theorem dL_law_232 : decode cL_law 232 = .ok (.invokevirtual 33, 3) := by decide +kernel
theorem dL_law_235 : decode cL_law 235 = .ok (.aload_n 2, 1) := by decide +kernel
theorem dL_law_236 : decode cL_law 236 = .ok (.aload_n 0, 1) := by decide +kernel
theorem dL_law_237 : decode cL_law 237 = .ok (.iload_n 3, 1) := by decide +kernel
theorem dL_law_238 : decode cL_law 238 = .ok (.iconst 1, 1) := by decide +kernel
theorem dL_law_239 : decode cL_law 239 = .ok (.iadd, 1) := by decide +kernel
theorem dL_law_240 : decode cL_law 240 = .ok (.iaload, 1) := by decide +kernel
theorem dL_law_241 : decode cL_law 241 = .ok (.invokevirtual 36, 3) := by decide +kernel
theorem dL_law_244 : decode cL_law 244 = .ok (.if_icmp .eq 352, 3) := by decide +kernel
theorem dL_law_247 : decode cL_law 247 = .ok (.iconst 0, 1) := by decide +kernel
theorem dL_law_248 : decode cL_law 248 = .ok (.ireturn, 1) := by decide +kernel
theorem dL_law_249 : decode cL_law 249 = .ok (.aload_n 1, 1) := by decide +kernel
theorem dL_law_250 : decode cL_law 250 = .ok (.aload_n 0, 1) := by decide +kernel
theorem dL_law_251 : decode cL_law 251 = .ok (.iload_n 3, 1) := by decide +kernel
theorem dL_law_252 : decode cL_law 252 = .ok (.iconst 1, 1) := by decide +kernel
theorem dL_law_253 : decode cL_law 253 = .ok (.iadd, 1) := by decide +kernel
theorem dL_law_254 : decode cL_law 254 = .ok (.iaload, 1) := by decide +kernel
theorem dL_law_255 : decode cL_law 255 = .ok (.aload_n 0, 1) := by decide +kernel
theorem dL_law_256 : decode cL_law 256 = .ok (.iload_n 3, 1) := by decide +kernel
theorem dL_law_257 : decode cL_law 257 = .ok (.iconst 2, 1) := by decide +kernel
theorem dL_law_258 : decode cL_law 258 = .ok (.iadd, 1) := by decide +kernel
theorem dL_law_259 : decode cL_law 259 = .ok (.iaload, 1) := by decide +kernel
theorem dL_law_260 : decode cL_law 260 = .ok (.invokevirtual 37, 3) := by decide +kernel
theorem dL_law_263 : decode cL_law 263 = .ok (.aload_n 2, 1) := by decide +kernel
theorem dL_law_264 : decode cL_law 264 = .ok (.aload_n 0, 1) := by decide +kernel
theorem dL_law_265 : decode cL_law 265 = .ok (.iload_n 3, 1) := by decide +kernel
theorem dL_law_266 : decode cL_law 266 = .ok (.iconst 1, 1) := by decide +kernel
theorem dL_law_267 : decode cL_law 267 = .ok (.iadd, 1) := by decide +kernel
theorem dL_law_268 : decode cL_law 268 = .ok (.iaload, 1) := by decide +kernel
theorem dL_law_269 : decode cL_law 269 = .ok (.aload_n 0, 1) := by decide +kernel
theorem dL_law_270 : decode cL_law 270 = .ok (.iload_n 3, 1) := by decide +kernel
theorem dL_law_271 : decode cL_law 271 = .ok (.iconst 2, 1) := by decide +kernel
theorem dL_law_272 : decode cL_law 272 = .ok (.iadd, 1) := by decide +kernel
theorem dL_law_273 : decode cL_law 273 = .ok (.iaload, 1) := by decide +kernel
theorem dL_law_274 : decode cL_law 274 = .ok (.invokevirtual 41, 3) := by decide +kernel
theorem dL_law_277 : decode cL_law 277 = .ok (.if_icmp .eq 319, 3) := by decide +kernel
theorem dL_law_280 : decode cL_law 280 = .ok (.iconst 0, 1) := by decide +kernel
theorem dL_law_281 : decode cL_law 281 = .ok (.ireturn, 1) := by decide +kernel
theorem dL_law_282 : decode cL_law 282 = .ok (.aload_n 1, 1) := by decide +kernel
theorem dL_law_283 : decode cL_law 283 = .ok (.aload_n 0, 1) := by decide +kernel
theorem dL_law_284 : decode cL_law 284 = .ok (.iload_n 3, 1) := by decide +kernel
theorem dL_law_285 : decode cL_law 285 = .ok (.iconst 1, 1) := by decide +kernel
theorem dL_law_286 : decode cL_law 286 = .ok (.iadd, 1) := by decide +kernel
theorem dL_law_287 : decode cL_law 287 = .ok (.iaload, 1) := by decide +kernel
theorem dL_law_288 : decode cL_law 288 = .ok (.aload_n 0, 1) := by decide +kernel
theorem dL_law_289 : decode cL_law 289 = .ok (.iload_n 3, 1) := by decide +kernel
theorem dL_law_290 : decode cL_law 290 = .ok (.iconst 2, 1) := by decide +kernel
theorem dL_law_291 : decode cL_law 291 = .ok (.iadd, 1) := by decide +kernel
theorem dL_law_292 : decode cL_law 292 = .ok (.iaload, 1) := by decide +kernel
theorem dL_law_293 : decode cL_law 293 = .ok (.aload_n 0, 1) := by decide +kernel
theorem dL_law_294 : decode cL_law 294 = .ok (.iload_n 3, 1) := by decide +kernel
theorem dL_law_295 : decode cL_law 295 = .ok (.iconst 3, 1) := by decide +kernel
theorem dL_law_296 : decode cL_law 296 = .ok (.iadd, 1) := by decide +kernel
theorem dL_law_297 : decode cL_law 297 = .ok (.iaload, 1) := by decide +kernel
theorem dL_law_298 : decode cL_law 298 = .ok (.invokevirtual 42, 3) := by decide +kernel
theorem dL_law_301 : decode cL_law 301 = .ok (.aload_n 2, 1) := by decide +kernel
theorem dL_law_302 : decode cL_law 302 = .ok (.aload_n 0, 1) := by decide +kernel
theorem dL_law_303 : decode cL_law 303 = .ok (.iload_n 3, 1) := by decide +kernel
theorem dL_law_304 : decode cL_law 304 = .ok (.iconst 1, 1) := by decide +kernel
theorem dL_law_305 : decode cL_law 305 = .ok (.iadd, 1) := by decide +kernel
theorem dL_law_306 : decode cL_law 306 = .ok (.iaload, 1) := by decide +kernel
theorem dL_law_307 : decode cL_law 307 = .ok (.aload_n 0, 1) := by decide +kernel
theorem dL_law_308 : decode cL_law 308 = .ok (.iload_n 3, 1) := by decide +kernel
theorem dL_law_309 : decode cL_law 309 = .ok (.iconst 2, 1) := by decide +kernel
theorem dL_law_310 : decode cL_law 310 = .ok (.iadd, 1) := by decide +kernel
theorem dL_law_311 : decode cL_law 311 = .ok (.iaload, 1) := by decide +kernel
theorem dL_law_312 : decode cL_law 312 = .ok (.aload_n 0, 1) := by decide +kernel
theorem dL_law_313 : decode cL_law 313 = .ok (.iload_n 3, 1) := by decide +kernel
theorem dL_law_314 : decode cL_law 314 = .ok (.iconst 3, 1) := by decide +kernel
theorem dL_law_315 : decode cL_law 315 = .ok (.iadd, 1) := by decide +kernel
theorem dL_law_316 : decode cL_law 316 = .ok (.iaload, 1) := by decide +kernel
theorem dL_law_317 : decode cL_law 317 = .ok (.invokevirtual 45, 3) := by decide +kernel
theorem dL_law_320 : decode cL_law 320 = .ok (.if_icmp .eq 276, 3) := by decide +kernel
theorem dL_law_323 : decode cL_law 323 = .ok (.iconst 0, 1) := by decide +kernel
theorem dL_law_324 : decode cL_law 324 = .ok (.ireturn, 1) := by decide +kernel
theorem dL_law_325 : decode cL_law 325 = .ok (.aload_n 1, 1) := by decide +kernel
theorem dL_law_326 : decode cL_law 326 = .ok (.aload_n 0, 1) := by decide +kernel
theorem dL_law_327 : decode cL_law 327 = .ok (.iload_n 3, 1) := by decide +kernel
theorem dL_law_328 : decode cL_law 328 = .ok (.iconst 1, 1) := by decide +kernel
theorem dL_law_329 : decode cL_law 329 = .ok (.iadd, 1) := by decide +kernel
theorem dL_law_330 : decode cL_law 330 = .ok (.iaload, 1) := by decide +kernel
theorem dL_law_331 : decode cL_law 331 = .ok (.aload_n 0, 1) := by decide +kernel
theorem dL_law_332 : decode cL_law 332 = .ok (.iload_n 3, 1) := by decide +kernel
theorem dL_law_333 : decode cL_law 333 = .ok (.iconst 2, 1) := by decide +kernel
theorem dL_law_334 : decode cL_law 334 = .ok (.iadd, 1) := by decide +kernel
theorem dL_law_335 : decode cL_law 335 = .ok (.iaload, 1) := by decide +kernel
theorem dL_law_336 : decode cL_law 336 = .ok (.aload_n 0, 1) := by decide +kernel
theorem dL_law_337 : decode cL_law 337 = .ok (.iload_n 3, 1) := by decide +kernel
theorem dL_law_338 : decode cL_law 338 = .ok (.iconst 3, 1) := by decide +kernel
theorem dL_law_339 : decode cL_law 339 = .ok (.iadd, 1) := by decide +kernel
theorem dL_law_340 : decode cL_law 340 = .ok (.iaload, 1) := by decide +kernel
theorem dL_law_341 : decode cL_law 341 = .ok (.invokevirtual 46, 3) := by decide +kernel
theorem dL_law_344 : decode cL_law 344 = .ok (.aload_n 2, 1) := by decide +kernel
theorem dL_law_345 : decode cL_law 345 = .ok (.aload_n 0, 1) := by decide +kernel
theorem dL_law_346 : decode cL_law 346 = .ok (.iload_n 3, 1) := by decide +kernel
theorem dL_law_347 : decode cL_law 347 = .ok (.iconst 1, 1) := by decide +kernel
theorem dL_law_348 : decode cL_law 348 = .ok (.iadd, 1) := by decide +kernel
theorem dL_law_349 : decode cL_law 349 = .ok (.iaload, 1) := by decide +kernel
theorem dL_law_350 : decode cL_law 350 = .ok (.aload_n 0, 1) := by decide +kernel
theorem dL_law_351 : decode cL_law 351 = .ok (.iload_n 3, 1) := by decide +kernel
theorem dL_law_352 : decode cL_law 352 = .ok (.iconst 2, 1) := by decide +kernel
theorem dL_law_353 : decode cL_law 353 = .ok (.iadd, 1) := by decide +kernel
theorem dL_law_354 : decode cL_law 354 = .ok (.iaload, 1) := by decide +kernel
theorem dL_law_355 : decode cL_law 355 = .ok (.aload_n 0, 1) := by decide +kernel
theorem dL_law_356 : decode cL_law 356 = .ok (.iload_n 3, 1) := by decide +kernel
theorem dL_law_357 : decode cL_law 357 = .ok (.iconst 3, 1) := by decide +kernel
theorem dL_law_358 : decode cL_law 358 = .ok (.iadd, 1) := by decide +kernel
theorem dL_law_359 : decode cL_law 359 = .ok (.iaload, 1) := by decide +kernel
theorem dL_law_360 : decode cL_law 360 = .ok (.invokevirtual 49, 3) := by decide +kernel
theorem dL_law_363 : decode cL_law 363 = .ok (.if_icmp .eq 233, 3) := by decide +kernel
theorem dL_law_366 : decode cL_law 366 = .ok (.iconst 0, 1) := by decide +kernel
theorem dL_law_367 : decode cL_law 367 = .ok (.ireturn, 1) := by decide +kernel
theorem dL_law_368 : decode cL_law 368 = .ok (.aload_n 1, 1) := by decide +kernel
theorem dL_law_369 : decode cL_law 369 = .ok (.aload_n 0, 1) := by decide +kernel
theorem dL_law_370 : decode cL_law 370 = .ok (.iload_n 3, 1) := by decide +kernel
theorem dL_law_371 : decode cL_law 371 = .ok (.iconst 1, 1) := by decide +kernel
theorem dL_law_372 : decode cL_law 372 = .ok (.iadd, 1) := by decide +kernel
theorem dL_law_373 : decode cL_law 373 = .ok (.iaload, 1) := by decide +kernel
theorem dL_law_374 : decode cL_law 374 = .ok (.aload_n 0, 1) := by decide +kernel
theorem dL_law_375 : decode cL_law 375 = .ok (.iload_n 3, 1) := by decide +kernel
theorem dL_law_376 : decode cL_law 376 = .ok (.iconst 2, 1) := by decide +kernel
theorem dL_law_377 : decode cL_law 377 = .ok (.iadd, 1) := by decide +kernel
theorem dL_law_378 : decode cL_law 378 = .ok (.iaload, 1) := by decide +kernel
theorem dL_law_379 : decode cL_law 379 = .ok (.invokevirtual 50, 3) := by decide +kernel
theorem dL_law_382 : decode cL_law 382 = .ok (.aload_n 2, 1) := by decide +kernel
theorem dL_law_383 : decode cL_law 383 = .ok (.aload_n 0, 1) := by decide +kernel
theorem dL_law_384 : decode cL_law 384 = .ok (.iload_n 3, 1) := by decide +kernel
theorem dL_law_385 : decode cL_law 385 = .ok (.iconst 1, 1) := by decide +kernel
theorem dL_law_386 : decode cL_law 386 = .ok (.iadd, 1) := by decide +kernel
theorem dL_law_387 : decode cL_law 387 = .ok (.iaload, 1) := by decide +kernel
theorem dL_law_388 : decode cL_law 388 = .ok (.aload_n 0, 1) := by decide +kernel
theorem dL_law_389 : decode cL_law 389 = .ok (.iload_n 3, 1) := by decide +kernel
theorem dL_law_390 : decode cL_law 390 = .ok (.iconst 2, 1) := by decide +kernel
theorem dL_law_391 : decode cL_law 391 = .ok (.iadd, 1) := by decide +kernel
theorem dL_law_392 : decode cL_law 392 = .ok (.iaload, 1) := by decide +kernel
theorem dL_law_393 : decode cL_law 393 = .ok (.invokevirtual 53, 3) := by decide +kernel
theorem dL_law_396 : decode cL_law 396 = .ok (.if_icmp .eq 200, 3) := by decide +kernel
theorem dL_law_399 : decode cL_law 399 = .ok (.iconst 0, 1) := by decide +kernel
theorem dL_law_400 : decode cL_law 400 = .ok (.ireturn, 1) := by decide +kernel
theorem dL_law_401 : decode cL_law 401 = .ok (.aload_n 1, 1) := by decide +kernel
theorem dL_law_402 : decode cL_law 402 = .ok (.aload_n 0, 1) := by decide +kernel
theorem dL_law_403 : decode cL_law 403 = .ok (.iload_n 3, 1) := by decide +kernel
theorem dL_law_404 : decode cL_law 404 = .ok (.iconst 1, 1) := by decide +kernel
theorem dL_law_405 : decode cL_law 405 = .ok (.iadd, 1) := by decide +kernel
theorem dL_law_406 : decode cL_law 406 = .ok (.iaload, 1) := by decide +kernel
theorem dL_law_407 : decode cL_law 407 = .ok (.aload_n 0, 1) := by decide +kernel
theorem dL_law_408 : decode cL_law 408 = .ok (.iload_n 3, 1) := by decide +kernel
theorem dL_law_409 : decode cL_law 409 = .ok (.iconst 2, 1) := by decide +kernel
theorem dL_law_410 : decode cL_law 410 = .ok (.iadd, 1) := by decide +kernel
theorem dL_law_411 : decode cL_law 411 = .ok (.iaload, 1) := by decide +kernel
theorem dL_law_412 : decode cL_law 412 = .ok (.aload_n 0, 1) := by decide +kernel
theorem dL_law_413 : decode cL_law 413 = .ok (.iload_n 3, 1) := by decide +kernel
theorem dL_law_414 : decode cL_law 414 = .ok (.iconst 3, 1) := by decide +kernel
theorem dL_law_415 : decode cL_law 415 = .ok (.iadd, 1) := by decide +kernel
theorem dL_law_416 : decode cL_law 416 = .ok (.iaload, 1) := by decide +kernel
theorem dL_law_417 : decode cL_law 417 = .ok (.invokevirtual 54, 3) := by decide +kernel
theorem dL_law_420 : decode cL_law 420 = .ok (.aload_n 2, 1) := by decide +kernel
theorem dL_law_421 : decode cL_law 421 = .ok (.aload_n 0, 1) := by decide +kernel
theorem dL_law_422 : decode cL_law 422 = .ok (.iload_n 3, 1) := by decide +kernel
theorem dL_law_423 : decode cL_law 423 = .ok (.iconst 1, 1) := by decide +kernel
theorem dL_law_424 : decode cL_law 424 = .ok (.iadd, 1) := by decide +kernel
theorem dL_law_425 : decode cL_law 425 = .ok (.iaload, 1) := by decide +kernel
theorem dL_law_426 : decode cL_law 426 = .ok (.aload_n 0, 1) := by decide +kernel
theorem dL_law_427 : decode cL_law 427 = .ok (.iload_n 3, 1) := by decide +kernel
theorem dL_law_428 : decode cL_law 428 = .ok (.iconst 2, 1) := by decide +kernel
theorem dL_law_429 : decode cL_law 429 = .ok (.iadd, 1) := by decide +kernel
theorem dL_law_430 : decode cL_law 430 = .ok (.iaload, 1) := by decide +kernel
theorem dL_law_431 : decode cL_law 431 = .ok (.aload_n 0, 1) := by decide +kernel
theorem dL_law_432 : decode cL_law 432 = .ok (.iload_n 3, 1) := by decide +kernel
theorem dL_law_433 : decode cL_law 433 = .ok (.iconst 3, 1) := by decide +kernel
theorem dL_law_434 : decode cL_law 434 = .ok (.iadd, 1) := by decide +kernel
theorem dL_law_435 : decode cL_law 435 = .ok (.iaload, 1) := by decide +kernel
theorem dL_law_436 : decode cL_law 436 = .ok (.invokevirtual 57, 3) := by decide +kernel
theorem dL_law_439 : decode cL_law 439 = .ok (.if_icmp .eq 157, 3) := by decide +kernel
theorem dL_law_442 : decode cL_law 442 = .ok (.iconst 0, 1) := by decide +kernel
theorem dL_law_443 : decode cL_law 443 = .ok (.ireturn, 1) := by decide +kernel
theorem dL_law_444 : decode cL_law 444 = .ok (.aload_n 1, 1) := by decide +kernel
theorem dL_law_445 : decode cL_law 445 = .ok (.aload_n 0, 1) := by decide +kernel
theorem dL_law_446 : decode cL_law 446 = .ok (.iload_n 3, 1) := by decide +kernel
theorem dL_law_447 : decode cL_law 447 = .ok (.iconst 1, 1) := by decide +kernel
theorem dL_law_448 : decode cL_law 448 = .ok (.iadd, 1) := by decide +kernel
theorem dL_law_449 : decode cL_law 449 = .ok (.iaload, 1) := by decide +kernel
theorem dL_law_450 : decode cL_law 450 = .ok (.aload_n 0, 1) := by decide +kernel
theorem dL_law_451 : decode cL_law 451 = .ok (.iload_n 3, 1) := by decide +kernel
theorem dL_law_452 : decode cL_law 452 = .ok (.iconst 2, 1) := by decide +kernel
theorem dL_law_453 : decode cL_law 453 = .ok (.iadd, 1) := by decide +kernel
theorem dL_law_454 : decode cL_law 454 = .ok (.iaload, 1) := by decide +kernel
theorem dL_law_455 : decode cL_law 455 = .ok (.invokevirtual 58, 3) := by decide +kernel
theorem dL_law_458 : decode cL_law 458 = .ok (.aload_n 2, 1) := by decide +kernel
theorem dL_law_459 : decode cL_law 459 = .ok (.aload_n 0, 1) := by decide +kernel
theorem dL_law_460 : decode cL_law 460 = .ok (.iload_n 3, 1) := by decide +kernel
theorem dL_law_461 : decode cL_law 461 = .ok (.iconst 1, 1) := by decide +kernel
theorem dL_law_462 : decode cL_law 462 = .ok (.iadd, 1) := by decide +kernel
theorem dL_law_463 : decode cL_law 463 = .ok (.iaload, 1) := by decide +kernel
theorem dL_law_464 : decode cL_law 464 = .ok (.aload_n 0, 1) := by decide +kernel
theorem dL_law_465 : decode cL_law 465 = .ok (.iload_n 3, 1) := by decide +kernel
theorem dL_law_466 : decode cL_law 466 = .ok (.iconst 2, 1) := by decide +kernel
theorem dL_law_467 : decode cL_law 467 = .ok (.iadd, 1) := by decide +kernel
theorem dL_law_468 : decode cL_law 468 = .ok (.iaload, 1) := by decide +kernel
theorem dL_law_469 : decode cL_law 469 = .ok (.invokevirtual 61, 3) := by decide +kernel
theorem dL_law_472 : decode cL_law 472 = .ok (.if_icmp .eq 124, 3) := by decide +kernel
theorem dL_law_475 : decode cL_law 475 = .ok (.iconst 0, 1) := by decide +kernel
theorem dL_law_476 : decode cL_law 476 = .ok (.ireturn, 1) := by decide +kernel
theorem dL_law_477 : decode cL_law 477 = .ok (.aload_n 1, 1) := by decide +kernel
theorem dL_law_478 : decode cL_law 478 = .ok (.aload_n 0, 1) := by decide +kernel
theorem dL_law_479 : decode cL_law 479 = .ok (.iload_n 3, 1) := by decide +kernel
theorem dL_law_480 : decode cL_law 480 = .ok (.iconst 1, 1) := by decide +kernel
theorem dL_law_481 : decode cL_law 481 = .ok (.iadd, 1) := by decide +kernel
theorem dL_law_482 : decode cL_law 482 = .ok (.iaload, 1) := by decide +kernel
theorem dL_law_483 : decode cL_law 483 = .ok (.aload_n 0, 1) := by decide +kernel
theorem dL_law_484 : decode cL_law 484 = .ok (.iload_n 3, 1) := by decide +kernel
theorem dL_law_485 : decode cL_law 485 = .ok (.iconst 2, 1) := by decide +kernel
theorem dL_law_486 : decode cL_law 486 = .ok (.iadd, 1) := by decide +kernel
theorem dL_law_487 : decode cL_law 487 = .ok (.iaload, 1) := by decide +kernel
theorem dL_law_488 : decode cL_law 488 = .ok (.invokevirtual 62, 3) := by decide +kernel
theorem dL_law_491 : decode cL_law 491 = .ok (.aload_n 2, 1) := by decide +kernel
theorem dL_law_492 : decode cL_law 492 = .ok (.aload_n 0, 1) := by decide +kernel
theorem dL_law_493 : decode cL_law 493 = .ok (.iload_n 3, 1) := by decide +kernel
theorem dL_law_494 : decode cL_law 494 = .ok (.iconst 1, 1) := by decide +kernel
theorem dL_law_495 : decode cL_law 495 = .ok (.iadd, 1) := by decide +kernel
theorem dL_law_496 : decode cL_law 496 = .ok (.iaload, 1) := by decide +kernel
theorem dL_law_497 : decode cL_law 497 = .ok (.aload_n 0, 1) := by decide +kernel
theorem dL_law_498 : decode cL_law 498 = .ok (.iload_n 3, 1) := by decide +kernel
theorem dL_law_499 : decode cL_law 499 = .ok (.iconst 2, 1) := by decide +kernel
theorem dL_law_500 : decode cL_law 500 = .ok (.iadd, 1) := by decide +kernel
theorem dL_law_501 : decode cL_law 501 = .ok (.iaload, 1) := by decide +kernel
theorem dL_law_502 : decode cL_law 502 = .ok (.invokevirtual 65, 3) := by decide +kernel
theorem dL_law_505 : decode cL_law 505 = .ok (.if_icmp .eq 91, 3) := by decide +kernel
theorem dL_law_508 : decode cL_law 508 = .ok (.iconst 0, 1) := by decide +kernel
theorem dL_law_509 : decode cL_law 509 = .ok (.ireturn, 1) := by decide +kernel
theorem dL_law_510 : decode cL_law 510 = .ok (.aload_n 1, 1) := by decide +kernel
theorem dL_law_511 : decode cL_law 511 = .ok (.aload_n 0, 1) := by decide +kernel
theorem dL_law_512 : decode cL_law 512 = .ok (.iload_n 3, 1) := by decide +kernel
theorem dL_law_513 : decode cL_law 513 = .ok (.iconst 1, 1) := by decide +kernel
theorem dL_law_514 : decode cL_law 514 = .ok (.iadd, 1) := by decide +kernel
theorem dL_law_515 : decode cL_law 515 = .ok (.iaload, 1) := by decide +kernel
theorem dL_law_516 : decode cL_law 516 = .ok (.aload_n 0, 1) := by decide +kernel
theorem dL_law_517 : decode cL_law 517 = .ok (.iload_n 3, 1) := by decide +kernel
theorem dL_law_518 : decode cL_law 518 = .ok (.iconst 2, 1) := by decide +kernel
theorem dL_law_519 : decode cL_law 519 = .ok (.iadd, 1) := by decide +kernel
theorem dL_law_520 : decode cL_law 520 = .ok (.iaload, 1) := by decide +kernel
theorem dL_law_521 : decode cL_law 521 = .ok (.aload_n 0, 1) := by decide +kernel
theorem dL_law_522 : decode cL_law 522 = .ok (.iload_n 3, 1) := by decide +kernel
theorem dL_law_523 : decode cL_law 523 = .ok (.iconst 3, 1) := by decide +kernel
theorem dL_law_524 : decode cL_law 524 = .ok (.iadd, 1) := by decide +kernel
theorem dL_law_525 : decode cL_law 525 = .ok (.iaload, 1) := by decide +kernel
theorem dL_law_526 : decode cL_law 526 = .ok (.invokevirtual 66, 3) := by decide +kernel
theorem dL_law_529 : decode cL_law 529 = .ok (.aload_n 2, 1) := by decide +kernel
theorem dL_law_530 : decode cL_law 530 = .ok (.aload_n 0, 1) := by decide +kernel
theorem dL_law_531 : decode cL_law 531 = .ok (.iload_n 3, 1) := by decide +kernel
theorem dL_law_532 : decode cL_law 532 = .ok (.iconst 1, 1) := by decide +kernel
theorem dL_law_533 : decode cL_law 533 = .ok (.iadd, 1) := by decide +kernel
theorem dL_law_534 : decode cL_law 534 = .ok (.iaload, 1) := by decide +kernel
theorem dL_law_535 : decode cL_law 535 = .ok (.aload_n 0, 1) := by decide +kernel
theorem dL_law_536 : decode cL_law 536 = .ok (.iload_n 3, 1) := by decide +kernel
theorem dL_law_537 : decode cL_law 537 = .ok (.iconst 2, 1) := by decide +kernel
theorem dL_law_538 : decode cL_law 538 = .ok (.iadd, 1) := by decide +kernel
theorem dL_law_539 : decode cL_law 539 = .ok (.iaload, 1) := by decide +kernel
theorem dL_law_540 : decode cL_law 540 = .ok (.aload_n 0, 1) := by decide +kernel
theorem dL_law_541 : decode cL_law 541 = .ok (.iload_n 3, 1) := by decide +kernel
theorem dL_law_542 : decode cL_law 542 = .ok (.iconst 3, 1) := by decide +kernel
theorem dL_law_543 : decode cL_law 543 = .ok (.iadd, 1) := by decide +kernel
theorem dL_law_544 : decode cL_law 544 = .ok (.iaload, 1) := by decide +kernel
theorem dL_law_545 : decode cL_law 545 = .ok (.invokevirtual 69, 3) := by decide +kernel
theorem dL_law_548 : decode cL_law 548 = .ok (.if_icmp .eq 48, 3) := by decide +kernel
theorem dL_law_551 : decode cL_law 551 = .ok (.iconst 0, 1) := by decide +kernel
theorem dL_law_552 : decode cL_law 552 = .ok (.ireturn, 1) := by decide +kernel
theorem dL_law_553 : decode cL_law 553 = .ok (.aload_n 1, 1) := by decide +kernel
theorem dL_law_554 : decode cL_law 554 = .ok (.aload_n 0, 1) := by decide +kernel
theorem dL_law_555 : decode cL_law 555 = .ok (.iload_n 3, 1) := by decide +kernel
theorem dL_law_556 : decode cL_law 556 = .ok (.iconst 1, 1) := by decide +kernel
theorem dL_law_557 : decode cL_law 557 = .ok (.iadd, 1) := by decide +kernel
theorem dL_law_558 : decode cL_law 558 = .ok (.iaload, 1) := by decide +kernel
theorem dL_law_559 : decode cL_law 559 = .ok (.aload_n 0, 1) := by decide +kernel
theorem dL_law_560 : decode cL_law 560 = .ok (.iload_n 3, 1) := by decide +kernel
theorem dL_law_561 : decode cL_law 561 = .ok (.iconst 2, 1) := by decide +kernel
theorem dL_law_562 : decode cL_law 562 = .ok (.iadd, 1) := by decide +kernel
theorem dL_law_563 : decode cL_law 563 = .ok (.iaload, 1) := by decide +kernel
theorem dL_law_564 : decode cL_law 564 = .ok (.aload_n 0, 1) := by decide +kernel
theorem dL_law_565 : decode cL_law 565 = .ok (.iload_n 3, 1) := by decide +kernel
theorem dL_law_566 : decode cL_law 566 = .ok (.iconst 3, 1) := by decide +kernel
theorem dL_law_567 : decode cL_law 567 = .ok (.iadd, 1) := by decide +kernel
theorem dL_law_568 : decode cL_law 568 = .ok (.iaload, 1) := by decide +kernel
theorem dL_law_569 : decode cL_law 569 = .ok (.invokevirtual 70, 3) := by decide +kernel
theorem dL_law_572 : decode cL_law 572 = .ok (.aload_n 2, 1) := by decide +kernel
theorem dL_law_573 : decode cL_law 573 = .ok (.aload_n 0, 1) := by decide +kernel
theorem dL_law_574 : decode cL_law 574 = .ok (.iload_n 3, 1) := by decide +kernel
theorem dL_law_575 : decode cL_law 575 = .ok (.iconst 1, 1) := by decide +kernel
theorem dL_law_576 : decode cL_law 576 = .ok (.iadd, 1) := by decide +kernel
theorem dL_law_577 : decode cL_law 577 = .ok (.iaload, 1) := by decide +kernel
theorem dL_law_578 : decode cL_law 578 = .ok (.aload_n 0, 1) := by decide +kernel
theorem dL_law_579 : decode cL_law 579 = .ok (.iload_n 3, 1) := by decide +kernel
theorem dL_law_580 : decode cL_law 580 = .ok (.iconst 2, 1) := by decide +kernel
theorem dL_law_581 : decode cL_law 581 = .ok (.iadd, 1) := by decide +kernel
theorem dL_law_582 : decode cL_law 582 = .ok (.iaload, 1) := by decide +kernel
theorem dL_law_583 : decode cL_law 583 = .ok (.aload_n 0, 1) := by decide +kernel
theorem dL_law_584 : decode cL_law 584 = .ok (.iload_n 3, 1) := by decide +kernel
theorem dL_law_585 : decode cL_law 585 = .ok (.iconst 3, 1) := by decide +kernel
theorem dL_law_586 : decode cL_law 586 = .ok (.iadd, 1) := by decide +kernel
theorem dL_law_587 : decode cL_law 587 = .ok (.iaload, 1) := by decide +kernel
theorem dL_law_588 : decode cL_law 588 = .ok (.invokevirtual 73, 3) := by decide +kernel
theorem dL_law_591 : decode cL_law 591 = .ok (.if_icmp .eq 5, 3) := by decide +kernel
theorem dL_law_594 : decode cL_law 594 = .ok (.iconst 0, 1) := by decide +kernel
theorem dL_law_595 : decode cL_law 595 = .ok (.ireturn, 1) := by decide +kernel
theorem dL_law_596 : decode cL_law 596 = .ok (.iinc 3 4, 3) := by decide +kernel
theorem dL_law_599 : decode cL_law 599 = .ok (.goto (-581), 3) := by decide +kernel
theorem dL_law_602 : decode cL_law 602 = .ok (.iconst 1, 1) := by decide +kernel
theorem dL_law_603 : decode cL_law 603 = .ok (.ireturn, 1) := by decide +kernel
