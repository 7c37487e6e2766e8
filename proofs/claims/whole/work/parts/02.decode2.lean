theorem dX5_of_17 : decode cX5_of 17 = .ok (.iload_n 2, 1) := by decide +kernel
theorem dX5_of_18 : decode cX5_of 18 = .ok (.ifCond .ne 8, 3) := by decide +kernel
theorem dX5_of_21 : decode cX5_of 21 = .ok (.aload_n 3, 1) := by decide +kernel
theorem dX5_of_22 : decode cX5_of 22 = .ok (.getfield 55, 3) := by decide +kernel
theorem dX5_of_25 : decode cX5_of 25 = .ok (.ireturn, 1) := by decide +kernel
theorem dX5_of_26 : decode cX5_of 26 = .ok (.iload_n 2, 1) := by decide +kernel
theorem dX5_of_27 : decode cX5_of 27 = .ok (.iconst 1, 1) := by decide +kernel
theorem dX5_of_28 : decode cX5_of 28 = .ok (.if_icmp .ne 8, 3) := by decide +kernel
theorem dX5_of_31 : decode cX5_of 31 = .ok (.aload_n 3, 1) := by decide +kernel
theorem dX5_of_32 : decode cX5_of 32 = .ok (.getfield 92, 3) := by decide +kernel
theorem dX5_of_35 : decode cX5_of 35 = .ok (.ireturn, 1) := by decide +kernel
theorem dX5_of_36 : decode cX5_of 36 = .ok (.iload_n 2, 1) := by decide +kernel
theorem dX5_of_37 : decode cX5_of 37 = .ok (.bipush 10, 2) := by decide +kernel
theorem dX5_of_39 : decode cX5_of 39 = .ok (.if_icmp .lt 16, 3) := by decide +kernel
theorem dX5_of_42 : decode cX5_of 42 = .ok (.iload_n 2, 1) := by decide +kernel
theorem dX5_of_43 : decode cX5_of 43 = .ok (.bipush 10, 2) := by decide +kernel
theorem dX5_of_45 : decode cX5_of 45 = .ok (.iconst 2, 1) := by decide +kernel
theorem dX5_of_46 : decode cX5_of 46 = .ok (.aload_n 3, 1) := by decide +kernel
theorem dX5_of_47 : decode cX5_of 47 = .ok (.getfield 92, 3) := by decide +kernel
theorem dX5_of_50 : decode cX5_of 50 = .ok (.imul, 1) := by decide +kernel
theorem dX5_of_51 : decode cX5_of 51 = .ok (.iadd, 1) := by decide +kernel
theorem dX5_of_52 : decode cX5_of 52 = .ok (.if_icmp .lt 5, 3) := by decide +kernel
theorem dX5_of_55 : decode cX5_of 55 = .ok (.iconst (-1), 1) := by decide +kernel
theorem dX5_of_56 : decode cX5_of 56 = .ok (.ireturn, 1) := by decide +kernel
theorem dX5_of_57 : decode cX5_of 57 = .ok (.iload_n 2, 1) := by decide +kernel
theorem dX5_of_58 : decode cX5_of 58 = .ok (.bipush 10, 2) := by decide +kernel
theorem dX5_of_60 : decode cX5_of 60 = .ok (.isub, 1) := by decide +kernel
theorem dX5_of_61 : decode cX5_of 61 = .ok (.iconst 2, 1) := by decide +kernel
theorem dX5_of_62 : decode cX5_of 62 = .ok (.idiv, 1) := by decide +kernel
theorem dX5_of_63 : decode cX5_of 63 = .ok (.istore 4, 2) := by decide +kernel
theorem dX5_of_65 : decode cX5_of 65 = .ok (.iload_n 2, 1) := by decide +kernel
theorem dX5_of_66 : decode cX5_of 66 = .ok (.iconst 2, 1) := by decide +kernel
theorem dX5_of_67 : decode cX5_of 67 = .ok (.irem, 1) := by decide +kernel
theorem dX5_of_68 : decode cX5_of 68 = .ok (.ifCond .ne 13, 3) := by decide +kernel
theorem dX5_of_71 : decode cX5_of 71 = .ok (.aload_n 3, 1) := by decide +kernel
theorem dX5_of_72 : decode cX5_of 72 = .ok (.getfield 95, 3) := by decide +kernel
theorem dX5_of_75 : decode cX5_of 75 = .ok (.iload 4, 2) := by decide +kernel
theorem dX5_of_77 : decode cX5_of 77 = .ok (.iaload, 1) := by decide +kernel
theorem dX5_of_78 : decode cX5_of 78 = .ok (.goto 10, 3) := by decide +kernel
theorem dX5_of_81 : decode cX5_of 81 = .ok (.aload_n 3, 1) := by decide +kernel
theorem dX5_of_82 : decode cX5_of 82 = .ok (.getfield 99, 3) := by decide +kernel
theorem dX5_of_85 : decode cX5_of 85 = .ok (.iload 4, 2) := by decide +kernel
theorem dX5_of_87 : decode cX5_of 87 = .ok (.iaload, 1) := by decide +kernel
theorem dX5_of_88 : decode cX5_of 88 = .ok (.ireturn, 1) := by decide +kernel
theorem dX5_lay_0 : decode cX5_lay 0 = .ok (.aload_n 0, 1) := by decide +kernel
theorem dX5_lay_1 : decode cX5_lay 1 = .ok (.iload_n 1, 1) := by decide +kernel
theorem dX5_lay_2 : decode cX5_lay 2 = .ok (.invokevirtual 58, 3) := by decide +kernel
theorem dX5_lay_5 : decode cX5_lay 5 = .ok (.ifCond .eq 16, 3) := by decide +kernel
theorem dX5_lay_8 : decode cX5_lay 8 = .ok (.aload_n 0, 1) := by decide +kernel
theorem dX5_lay_9 : decode cX5_lay 9 = .ok (.iload_n 2, 1) := by decide +kernel
theorem dX5_lay_10 : decode cX5_lay 10 = .ok (.invokevirtual 58, 3) := by decide +kernel
theorem dX5_lay_13 : decode cX5_lay 13 = .ok (.ifCond .eq 8, 3) := by decide +kernel
theorem dX5_lay_16 : decode cX5_lay 16 = .ok (.iload_n 1, 1) := by decide +kernel
theorem dX5_lay_17 : decode cX5_lay 17 = .ok (.iload_n 2, 1) := by decide +kernel
theorem dX5_lay_18 : decode cX5_lay 18 = .ok (.if_icmp .ne 7, 3) := by decide +kernel
theorem dX5_lay_21 : decode cX5_lay 21 = .ok (.sipush (-10000), 3) := by decide +kernel
theorem dX5_lay_24 : decode cX5_lay 24 = .ok (.ireturn, 1) := by decide +kernel
theorem dX5_lay_25 : decode cX5_lay 25 = .ok (.aload_n 0, 1) := by decide +kernel
theorem dX5_lay_26 : decode cX5_lay 26 = .ok (.iload_n 1, 1) := by decide +kernel
theorem dX5_lay_27 : decode cX5_lay 27 = .ok (.iload_n 2, 1) := by decide +kernel
theorem dX5_lay_28 : decode cX5_lay 28 = .ok (.invokevirtual 102, 3) := by decide +kernel
theorem dX5_lay_31 : decode cX5_lay 31 = .ok (.astore 4, 2) := by decide +kernel
theorem dX5_lay_33 : decode cX5_lay 33 = .ok (.aload 4, 2) := by decide +kernel
theorem dX5_lay_35 : decode cX5_lay 35 = .ok (.getfield 106, 3) := by decide +kernel
theorem dX5_lay_38 : decode cX5_lay 38 = .ok (.ifCond .ne 7, 3) := by decide +kernel
theorem dX5_lay_41 : decode cX5_lay 41 = .ok (.sipush (-10000), 3) := by decide +kernel
theorem dX5_lay_44 : decode cX5_lay 44 = .ok (.ireturn, 1) := by decide +kernel
theorem dX5_lay_45 : decode cX5_lay 45 = .ok (.iload_n 3, 1) := by decide +kernel
theorem dX5_lay_46 : decode cX5_lay 46 = .ok (.tableswitch 74 0 5 #[38, 44, 50, 56, 62, 68], 38) := by decide +kernel
theorem dX5_lay_84 : decode cX5_lay 84 = .ok (.aload 4, 2) := by decide +kernel
theorem dX5_lay_86 : decode cX5_lay 86 = .ok (.getfield 106, 3) := by decide +kernel
theorem dX5_lay_89 : decode cX5_lay 89 = .ok (.ireturn, 1) := by decide +kernel
theorem dX5_lay_90 : decode cX5_lay 90 = .ok (.aload 4, 2) := by decide +kernel
theorem dX5_lay_92 : decode cX5_lay 92 = .ok (.getfield 107, 3) := by decide +kernel
theorem dX5_lay_95 : decode cX5_lay 95 = .ok (.ireturn, 1) := by decide +kernel
theorem dX5_lay_96 : decode cX5_lay 96 = .ok (.aload 4, 2) := by decide +kernel
theorem dX5_lay_98 : decode cX5_lay 98 = .ok (.getfield 110, 3) := by decide +kernel
theorem dX5_lay_101 : decode cX5_lay 101 = .ok (.ireturn, 1) := by decide +kernel
theorem dX5_lay_102 : decode cX5_lay 102 = .ok (.aload 4, 2) := by decide +kernel
theorem dX5_lay_104 : decode cX5_lay 104 = .ok (.getfield 113, 3) := by decide +kernel
theorem dX5_lay_107 : decode cX5_lay 107 = .ok (.ireturn, 1) := by decide +kernel
theorem dX5_lay_108 : decode cX5_lay 108 = .ok (.aload 4, 2) := by decide +kernel
theorem dX5_lay_110 : decode cX5_lay 110 = .ok (.getfield 116, 3) := by decide +kernel
theorem dX5_lay_113 : decode cX5_lay 113 = .ok (.ireturn, 1) := by decide +kernel
theorem dX5_lay_114 : decode cX5_lay 114 = .ok (.aload 4, 2) := by decide +kernel
theorem dX5_lay_116 : decode cX5_lay 116 = .ok (.getfield 119, 3) := by decide +kernel
theorem dX5_lay_119 : decode cX5_lay 119 = .ok (.ireturn, 1) := by decide +kernel
theorem dX5_lay_120 : decode cX5_lay 120 = .ok (.sipush (-10000), 3) := by decide +kernel
theorem dX5_lay_123 : decode cX5_lay 123 = .ok (.ireturn, 1) := by decide +kernel
theorem dX5_pair_0 : decode cX5_pair 0 = .ok (.aload_n 0, 1) := by decide +kernel
theorem dX5_pair_1 : decode cX5_pair 1 = .ok (.iload_n 1, 1) := by decide +kernel
theorem dX5_pair_2 : decode cX5_pair 2 = .ok (.invokevirtual 58, 3) := by decide +kernel
theorem dX5_pair_5 : decode cX5_pair 5 = .ok (.ifCond .eq 17, 3) := by decide +kernel
theorem dX5_pair_8 : decode cX5_pair 8 = .ok (.aload_n 0, 1) := by decide +kernel
theorem dX5_pair_9 : decode cX5_pair 9 = .ok (.iload_n 2, 1) := by decide +kernel
theorem dX5_pair_10 : decode cX5_pair 10 = .ok (.iload_n 3, 1) := by decide +kernel
theorem dX5_pair_11 : decode cX5_pair 11 = .ok (.invokevirtual 72, 3) := by decide +kernel
theorem dX5_pair_14 : decode cX5_pair 14 = .ok (.ifCond .eq 8, 3) := by decide +kernel
theorem dX5_pair_17 : decode cX5_pair 17 = .ok (.iload_n 1, 1) := by decide +kernel
theorem dX5_pair_18 : decode cX5_pair 18 = .ok (.iload_n 2, 1) := by decide +kernel
theorem dX5_pair_19 : decode cX5_pair 19 = .ok (.if_icmp .ne 5, 3) := by decide +kernel
theorem dX5_pair_22 : decode cX5_pair 22 = .ok (.iconst (-1), 1) := by decide +kernel
theorem dX5_pair_23 : decode cX5_pair 23 = .ok (.ireturn, 1) := by decide +kernel
theorem dX5_pair_24 : decode cX5_pair 24 = .ok (.aload_n 0, 1) := by decide +kernel
theorem dX5_pair_25 : decode cX5_pair 25 = .ok (.iload_n 1, 1) := by decide +kernel
theorem dX5_pair_26 : decode cX5_pair 26 = .ok (.iload_n 2, 1) := by decide +kernel
theorem dX5_pair_27 : decode cX5_pair 27 = .ok (.invokevirtual 102, 3) := by decide +kernel
theorem dX5_pair_30 : decode cX5_pair 30 = .ok (.getfield 122, 3) := by decide +kernel
theorem dX5_pair_33 : decode cX5_pair 33 = .ok (.iload_n 3, 1) := by decide +kernel
theorem dX5_pair_34 : decode cX5_pair 34 = .ok (.iaload, 1) := by decide +kernel
theorem dX5_pair_35 : decode cX5_pair 35 = .ok (.ireturn, 1) := by decide +kernel
theorem dX5_track_0 : decode cX5_track 0 = .ok (.aload_n 0, 1) := by decide +kernel
theorem dX5_track_1 : decode cX5_track 1 = .ok (.iload_n 1, 1) := by decide +kernel
theorem dX5_track_2 : decode cX5_track 2 = .ok (.invokevirtual 125, 3) := by decide +kernel
theorem dX5_track_5 : decode cX5_track 5 = .ok (.ifCond .eq 11, 3) := by decide +kernel
theorem dX5_track_8 : decode cX5_track 8 = .ok (.aload_n 0, 1) := by decide +kernel
theorem dX5_track_9 : decode cX5_track 9 = .ok (.iload_n 2, 1) := by decide +kernel
theorem dX5_track_10 : decode cX5_track 10 = .ok (.invokevirtual 58, 3) := by decide +kernel
theorem dX5_track_13 : decode cX5_track 13 = .ok (.ifCond .ne 5, 3) := by decide +kernel
theorem dX5_track_16 : decode cX5_track 16 = .ok (.iconst (-1), 1) := by decide +kernel
theorem dX5_track_17 : decode cX5_track 17 = .ok (.ireturn, 1) := by decide +kernel
theorem dX5_track_18 : decode cX5_track 18 = .ok (.aload_n 0, 1) := by decide +kernel
theorem dX5_track_19 : decode cX5_track 19 = .ok (.invokevirtual 83, 3) := by decide +kernel
theorem dX5_track_22 : decode cX5_track 22 = .ok (.aload_n 0, 1) := by decide +kernel
theorem dX5_track_23 : decode cX5_track 23 = .ok (.getfield 33, 3) := by decide +kernel
theorem dX5_track_26 : decode cX5_track 26 = .ok (.getfield 128, 3) := by decide +kernel
theorem dX5_track_29 : decode cX5_track 29 = .ok (.iload_n 2, 1) := by decide +kernel
theorem dX5_track_30 : decode cX5_track 30 = .ok (.bipush 8, 2) := by decide +kernel
theorem dX5_track_32 : decode cX5_track 32 = .ok (.imul, 1) := by decide +kernel
theorem dX5_track_33 : decode cX5_track 33 = .ok (.iload_n 1, 1) := by decide +kernel
theorem dX5_track_34 : decode cX5_track 34 = .ok (.iadd, 1) := by decide +kernel
theorem dX5_track_35 : decode cX5_track 35 = .ok (.iaload, 1) := by decide +kernel
theorem dX5_track_36 : decode cX5_track 36 = .ok (.ireturn, 1) := by decide +kernel
theorem dX5_place_0 : decode cX5_place 0 = .ok (.aload_n 0, 1) := by decide +kernel
theorem dX5_place_1 : decode cX5_place 1 = .ok (.iload_n 1, 1) := by decide +kernel
theorem dX5_place_2 : decode cX5_place 2 = .ok (.invokevirtual 125, 3) := by decide +kernel
theorem dX5_place_5 : decode cX5_place 5 = .ok (.ifCond .eq 20, 3) := by decide +kernel
theorem dX5_place_8 : decode cX5_place 8 = .ok (.aload_n 0, 1) := by decide +kernel
theorem dX5_place_9 : decode cX5_place 9 = .ok (.iload_n 2, 1) := by decide +kernel
theorem dX5_place_10 : decode cX5_place 10 = .ok (.invokevirtual 58, 3) := by decide +kernel
theorem dX5_place_13 : decode cX5_place 13 = .ok (.ifCond .eq 12, 3) := by decide +kernel
theorem dX5_place_16 : decode cX5_place 16 = .ok (.iload_n 3, 1) := by decide +kernel
theorem dX5_place_17 : decode cX5_place 17 = .ok (.ifCond .lt 8, 3) := by decide +kernel
theorem dX5_place_20 : decode cX5_place 20 = .ok (.iload_n 3, 1) := by decide +kernel
theorem dX5_place_21 : decode cX5_place 21 = .ok (.iconst 1, 1) := by decide +kernel
theorem dX5_place_22 : decode cX5_place 22 = .ok (.if_icmp .le 7, 3) := by decide +kernel
theorem dX5_place_25 : decode cX5_place 25 = .ok (.sipush (-10000), 3) := by decide +kernel
theorem dX5_place_28 : decode cX5_place 28 = .ok (.ireturn, 1) := by decide +kernel
theorem dX5_place_29 : decode cX5_place 29 = .ok (.aload_n 0, 1) := by decide +kernel
theorem dX5_place_30 : decode cX5_place 30 = .ok (.invokevirtual 83, 3) := by decide +kernel
theorem dX5_place_33 : decode cX5_place 33 = .ok (.iload_n 2, 1) := by decide +kernel
theorem dX5_place_34 : decode cX5_place 34 = .ok (.bipush 8, 2) := by decide +kernel
theorem dX5_place_36 : decode cX5_place 36 = .ok (.imul, 1) := by decide +kernel
theorem dX5_place_37 : decode cX5_place 37 = .ok (.iload_n 1, 1) := by decide +kernel
theorem dX5_place_38 : decode cX5_place 38 = .ok (.iadd, 1) := by decide +kernel
theorem dX5_place_39 : decode cX5_place 39 = .ok (.istore 4, 2) := by decide +kernel
theorem dX5_place_41 : decode cX5_place 41 = .ok (.aload_n 0, 1) := by decide +kernel
theorem dX5_place_42 : decode cX5_place 42 = .ok (.getfield 33, 3) := by decide +kernel
theorem dX5_place_45 : decode cX5_place 45 = .ok (.getfield 128, 3) := by decide +kernel
theorem dX5_place_48 : decode cX5_place 48 = .ok (.iload 4, 2) := by decide +kernel
theorem dX5_place_50 : decode cX5_place 50 = .ok (.iaload, 1) := by decide +kernel
theorem dX5_place_51 : decode cX5_place 51 = .ok (.iconst (-1), 1) := by decide +kernel
theorem dX5_place_52 : decode cX5_place 52 = .ok (.if_icmp .ne 7, 3) := by decide +kernel
theorem dX5_place_55 : decode cX5_place 55 = .ok (.sipush (-10000), 3) := by decide +kernel
theorem dX5_place_58 : decode cX5_place 58 = .ok (.ireturn, 1) := by decide +kernel
theorem dX5_place_59 : decode cX5_place 59 = .ok (.iload_n 3, 1) := by decide +kernel
theorem dX5_place_60 : decode cX5_place 60 = .ok (.ifCond .ne 16, 3) := by decide +kernel
theorem dX5_place_63 : decode cX5_place 63 = .ok (.aload_n 0, 1) := by decide +kernel
theorem dX5_place_64 : decode cX5_place 64 = .ok (.getfield 33, 3) := by decide +kernel
theorem dX5_place_67 : decode cX5_place 67 = .ok (.getfield 131, 3) := by decide +kernel
theorem dX5_place_70 : decode cX5_place 70 = .ok (.iload 4, 2) := by decide +kernel
theorem dX5_place_72 : decode cX5_place 72 = .ok (.iaload, 1) := by decide +kernel
theorem dX5_place_73 : decode cX5_place 73 = .ok (.goto 13, 3) := by decide +kernel
theorem dX5_place_76 : decode cX5_place 76 = .ok (.aload_n 0, 1) := by decide +kernel
theorem dX5_place_77 : decode cX5_place 77 = .ok (.getfield 33, 3) := by decide +kernel
theorem dX5_place_80 : decode cX5_place 80 = .ok (.getfield 134, 3) := by decide +kernel
theorem dX5_place_83 : decode cX5_place 83 = .ok (.iload 4, 2) := by decide +kernel
theorem dX5_place_85 : decode cX5_place 85 = .ok (.iaload, 1) := by decide +kernel
theorem dX5_place_86 : decode cX5_place 86 = .ok (.ireturn, 1) := by decide +kernel
theorem dX5_motion_0 : decode cX5_motion 0 = .ok (.aload_n 0, 1) := by decide +kernel
theorem dX5_motion_1 : decode cX5_motion 1 = .ok (.iload_n 1, 1) := by decide +kernel
theorem dX5_motion_2 : decode cX5_motion 2 = .ok (.invokevirtual 125, 3) := by decide +kernel
theorem dX5_motion_5 : decode cX5_motion 5 = .ok (.ifCond .eq 12, 3) := by decide +kernel
theorem dX5_motion_8 : decode cX5_motion 8 = .ok (.iload_n 2, 1) := by decide +kernel
theorem dX5_motion_9 : decode cX5_motion 9 = .ok (.ifCond .lt 8, 3) := by decide +kernel
theorem dX5_motion_12 : decode cX5_motion 12 = .ok (.iload_n 2, 1) := by decide +kernel
theorem dX5_motion_13 : decode cX5_motion 13 = .ok (.iconst 3, 1) := by decide +kernel
theorem dX5_motion_14 : decode cX5_motion 14 = .ok (.if_icmp .le 7, 3) := by decide +kernel
theorem dX5_motion_17 : decode cX5_motion 17 = .ok (.sipush (-10000), 3) := by decide +kernel
theorem dX5_motion_20 : decode cX5_motion 20 = .ok (.ireturn, 1) := by decide +kernel
theorem dX5_motion_21 : decode cX5_motion 21 = .ok (.aload_n 0, 1) := by decide +kernel
theorem dX5_motion_22 : decode cX5_motion 22 = .ok (.invokevirtual 83, 3) := by decide +kernel
theorem dX5_motion_25 : decode cX5_motion 25 = .ok (.aload_n 0, 1) := by decide +kernel
theorem dX5_motion_26 : decode cX5_motion 26 = .ok (.getfield 33, 3) := by decide +kernel
theorem dX5_motion_29 : decode cX5_motion 29 = .ok (.getfield 137, 3) := by decide +kernel
theorem dX5_motion_32 : decode cX5_motion 32 = .ok (.iload_n 1, 1) := by decide +kernel
theorem dX5_motion_33 : decode cX5_motion 33 = .ok (.iaload, 1) := by decide +kernel
theorem dX5_motion_34 : decode cX5_motion 34 = .ok (.istore_n 3, 1) := by decide +kernel
theorem dX5_motion_35 : decode cX5_motion 35 = .ok (.iload_n 3, 1) := by decide +kernel
theorem dX5_motion_36 : decode cX5_motion 36 = .ok (.ifCond .gt 7, 3) := by decide +kernel
theorem dX5_motion_39 : decode cX5_motion 39 = .ok (.sipush (-10000), 3) := by decide +kernel
theorem dX5_motion_42 : decode cX5_motion 42 = .ok (.ireturn, 1) := by decide +kernel
theorem dX5_motion_43 : decode cX5_motion 43 = .ok (.iload_n 2, 1) := by decide +kernel
theorem dX5_motion_44 : decode cX5_motion 44 = .ok (.iconst 2, 1) := by decide +kernel
theorem dX5_motion_45 : decode cX5_motion 45 = .ok (.if_icmp .ge 15, 3) := by decide +kernel
theorem dX5_motion_48 : decode cX5_motion 48 = .ok (.aload_n 0, 1) := by decide +kernel
theorem dX5_motion_49 : decode cX5_motion 49 = .ok (.getfield 33, 3) := by decide +kernel
theorem dX5_motion_52 : decode cX5_motion 52 = .ok (.getfield 140, 3) := by decide +kernel
theorem dX5_motion_55 : decode cX5_motion 55 = .ok (.iload_n 1, 1) := by decide +kernel
theorem dX5_motion_56 : decode cX5_motion 56 = .ok (.iaload, 1) := by decide +kernel
theorem dX5_motion_57 : decode cX5_motion 57 = .ok (.goto 12, 3) := by decide +kernel
theorem dX5_motion_60 : decode cX5_motion 60 = .ok (.aload_n 0, 1) := by decide +kernel
theorem dX5_motion_61 : decode cX5_motion 61 = .ok (.getfield 33, 3) := by decide +kernel
theorem dX5_motion_64 : decode cX5_motion 64 = .ok (.getfield 143, 3) := by decide +kernel
theorem dX5_motion_67 : decode cX5_motion 67 = .ok (.iload_n 1, 1) := by decide +kernel
theorem dX5_motion_68 : decode cX5_motion 68 = .ok (.iaload, 1) := by decide +kernel
theorem dX5_motion_69 : decode cX5_motion 69 = .ok (.istore 4, 2) := by decide +kernel
theorem dX5_motion_71 : decode cX5_motion 71 = .ok (.iload 4, 2) := by decide +kernel
theorem dX5_motion_73 : decode cX5_motion 73 = .ok (.invokestatic 146, 3) := by decide +kernel
theorem dX5_motion_76 : decode cX5_motion 76 = .ok (.iload_n 3, 1) := by decide +kernel
theorem dX5_motion_77 : decode cX5_motion 77 = .ok (.invokestatic 152, 3) := by decide +kernel
theorem dX5_motion_80 : decode cX5_motion 80 = .ok (.istore 5, 2) := by decide +kernel
theorem dX5_motion_82 : decode cX5_motion 82 = .ok (.iload_n 2, 1) := by decide +kernel
theorem dX5_motion_83 : decode cX5_motion 83 = .ok (.iconst 2, 1) := by decide +kernel
theorem dX5_motion_84 : decode cX5_motion 84 = .ok (.irem, 1) := by decide +kernel
theorem dX5_motion_85 : decode cX5_motion 85 = .ok (.ifCond .ne 8, 3) := by decide +kernel
theorem dX5_motion_88 : decode cX5_motion 88 = .ok (.iload 4, 2) := by decide +kernel
theorem dX5_motion_90 : decode cX5_motion 90 = .ok (.goto 4, 3) := by decide +kernel
theorem dX5_motion_93 : decode cX5_motion 93 = .ok (.iload_n 3, 1) := by decide +kernel
theorem dX5_motion_94 : decode cX5_motion 94 = .ok (.iload 5, 2) := by decide +kernel
theorem dX5_motion_96 : decode cX5_motion 96 = .ok (.idiv, 1) := by decide +kernel
theorem dX5_motion_97 : decode cX5_motion 97 = .ok (.ireturn, 1) := by decide +kernel
theorem dX5_tell_0 : decode cX5_tell 0 = .ok (.aload_n 0, 1) := by decide +kernel
theorem dX5_tell_1 : decode cX5_tell 1 = .ok (.iload_n 1, 1) := by decide +kernel
theorem dX5_tell_2 : decode cX5_tell 2 = .ok (.invokevirtual 125, 3) := by decide +kernel
theorem dX5_tell_5 : decode cX5_tell 5 = .ok (.ifCond .eq 12, 3) := by decide +kernel
theorem dX5_tell_8 : decode cX5_tell 8 = .ok (.iload_n 2, 1) := by decide +kernel
theorem dX5_tell_9 : decode cX5_tell 9 = .ok (.ifCond .lt 8, 3) := by decide +kernel
theorem dX5_tell_12 : decode cX5_tell 12 = .ok (.iload_n 2, 1) := by decide +kernel
theorem dX5_tell_13 : decode cX5_tell 13 = .ok (.iconst 3, 1) := by decide +kernel
theorem dX5_tell_14 : decode cX5_tell 14 = .ok (.if_icmp .le 5, 3) := by decide +kernel
theorem dX5_tell_17 : decode cX5_tell 17 = .ok (.iconst (-1), 1) := by decide +kernel
theorem dX5_tell_18 : decode cX5_tell 18 = .ok (.ireturn, 1) := by decide +kernel
theorem dX5_tell_19 : decode cX5_tell 19 = .ok (.aload_n 0, 1) := by decide +kernel
theorem dX5_tell_20 : decode cX5_tell 20 = .ok (.invokevirtual 83, 3) := by decide +kernel
theorem dX5_tell_23 : decode cX5_tell 23 = .ok (.iload_n 2, 1) := by decide +kernel
theorem dX5_tell_24 : decode cX5_tell 24 = .ok (.iconst 2, 1) := by decide +kernel
theorem dX5_tell_25 : decode cX5_tell 25 = .ok (.if_icmp .ne 13, 3) := by decide +kernel
theorem dX5_tell_28 : decode cX5_tell 28 = .ok (.aload_n 0, 1) := by decide +kernel
theorem dX5_tell_29 : decode cX5_tell 29 = .ok (.getfield 33, 3) := by decide +kernel
theorem dX5_tell_32 : decode cX5_tell 32 = .ok (.getfield 155, 3) := by decide +kernel
theorem dX5_tell_35 : decode cX5_tell 35 = .ok (.iload_n 1, 1) := by decide +kernel
theorem dX5_tell_36 : decode cX5_tell 36 = .ok (.iaload, 1) := by decide +kernel
theorem dX5_tell_37 : decode cX5_tell 37 = .ok (.ireturn, 1) := by decide +kernel
theorem dX5_tell_38 : decode cX5_tell 38 = .ok (.aload_n 0, 1) := by decide +kernel
theorem dX5_tell_39 : decode cX5_tell 39 = .ok (.getfield 33, 3) := by decide +kernel
theorem dX5_tell_42 : decode cX5_tell 42 = .ok (.iload_n 1, 1) := by decide +kernel
theorem dX5_tell_43 : decode cX5_tell 43 = .ok (.invokevirtual 158, 3) := by decide +kernel
theorem dX5_tell_46 : decode cX5_tell 46 = .ok (.ifCond .ne 5, 3) := by decide +kernel
theorem dX5_tell_49 : decode cX5_tell 49 = .ok (.iconst (-1), 1) := by decide +kernel
theorem dX5_tell_50 : decode cX5_tell 50 = .ok (.ireturn, 1) := by decide +kernel
theorem dX5_tell_51 : decode cX5_tell 51 = .ok (.iload_n 2, 1) := by decide +kernel
theorem dX5_tell_52 : decode cX5_tell 52 = .ok (.ifCond .ne 24, 3) := by decide +kernel
theorem dX5_tell_55 : decode cX5_tell 55 = .ok (.aload_n 0, 1) := by decide +kernel
theorem dX5_tell_56 : decode cX5_tell 56 = .ok (.getfield 33, 3) := by decide +kernel
theorem dX5_tell_59 : decode cX5_tell 59 = .ok (.iload_n 1, 1) := by decide +kernel
theorem dX5_tell_60 : decode cX5_tell 60 = .ok (.aload_n 0, 1) := by decide +kernel
theorem dX5_tell_61 : decode cX5_tell 61 = .ok (.getfield 48, 3) := by decide +kernel
theorem dX5_tell_64 : decode cX5_tell 64 = .ok (.invokevirtual 161, 3) := by decide +kernel
theorem dX5_tell_67 : decode cX5_tell 67 = .ok (.ifCond .eq 7, 3) := by decide +kernel
theorem dX5_tell_70 : decode cX5_tell 70 = .ok (.iconst 1, 1) := by decide +kernel
theorem dX5_tell_71 : decode cX5_tell 71 = .ok (.goto 4, 3) := by decide +kernel
theorem dX5_tell_74 : decode cX5_tell 74 = .ok (.iconst 0, 1) := by decide +kernel
theorem dX5_tell_75 : decode cX5_tell 75 = .ok (.ireturn, 1) := by decide +kernel
theorem dX5_tell_76 : decode cX5_tell 76 = .ok (.iload_n 2, 1) := by decide +kernel
theorem dX5_tell_77 : decode cX5_tell 77 = .ok (.iconst 1, 1) := by decide +kernel
theorem dX5_tell_78 : decode cX5_tell 78 = .ok (.if_icmp .ne 20, 3) := by decide +kernel
theorem dX5_tell_81 : decode cX5_tell 81 = .ok (.aload_n 0, 1) := by decide +kernel
theorem dX5_tell_82 : decode cX5_tell 82 = .ok (.getfield 33, 3) := by decide +kernel
theorem dX5_tell_85 : decode cX5_tell 85 = .ok (.iload_n 1, 1) := by decide +kernel
theorem dX5_tell_86 : decode cX5_tell 86 = .ok (.invokevirtual 164, 3) := by decide +kernel
theorem dX5_tell_89 : decode cX5_tell 89 = .ok (.ifCond .eq 7, 3) := by decide +kernel
theorem dX5_tell_92 : decode cX5_tell 92 = .ok (.iconst 1, 1) := by decide +kernel
theorem dX5_tell_93 : decode cX5_tell 93 = .ok (.goto 4, 3) := by decide +kernel
theorem dX5_tell_96 : decode cX5_tell 96 = .ok (.iconst 0, 1) := by decide +kernel
theorem dX5_tell_97 : decode cX5_tell 97 = .ok (.ireturn, 1) := by decide +kernel
theorem dX5_tell_98 : decode cX5_tell 98 = .ok (.aload_n 0, 1) := by decide +kernel
theorem dX5_tell_99 : decode cX5_tell 99 = .ok (.getfield 33, 3) := by decide +kernel
theorem dX5_tell_102 : decode cX5_tell 102 = .ok (.iload_n 1, 1) := by decide +kernel
theorem dX5_tell_103 : decode cX5_tell 103 = .ok (.invokevirtual 167, 3) := by decide +kernel
theorem dX5_tell_106 : decode cX5_tell 106 = .ok (.ireturn, 1) := by decide +kernel
theorem dX5_foretell_0 : decode cX5_foretell 0 = .ok (.aload_n 0, 1) := by decide +kernel
theorem dX5_foretell_1 : decode cX5_foretell 1 = .ok (.iload_n 1, 1) := by decide +kernel
theorem dX5_foretell_2 : decode cX5_foretell 2 = .ok (.invokevirtual 125, 3) := by decide +kernel
theorem dX5_foretell_5 : decode cX5_foretell 5 = .ok (.ifCond .eq 23, 3) := by decide +kernel
theorem dX5_foretell_8 : decode cX5_foretell 8 = .ok (.iload_n 2, 1) := by decide +kernel
theorem dX5_foretell_9 : decode cX5_foretell 9 = .ok (.ifCond .lt 19, 3) := by decide +kernel
theorem dX5_foretell_12 : decode cX5_foretell 12 = .ok (.iload_n 2, 1) := by decide +kernel
theorem dX5_foretell_13 : decode cX5_foretell 13 = .ok (.sipush 2000, 3) := by decide +kernel
theorem dX5_foretell_16 : decode cX5_foretell 16 = .ok (.if_icmp .gt 12, 3) := by decide +kernel
theorem dX5_foretell_19 : decode cX5_foretell 19 = .ok (.iload_n 3, 1) := by decide +kernel
theorem dX5_foretell_20 : decode cX5_foretell 20 = .ok (.ifCond .lt 8, 3) := by decide +kernel
theorem dX5_foretell_23 : decode cX5_foretell 23 = .ok (.iload_n 3, 1) := by decide +kernel
theorem dX5_foretell_24 : decode cX5_foretell 24 = .ok (.iconst 1, 1) := by decide +kernel
theorem dX5_foretell_25 : decode cX5_foretell 25 = .ok (.if_icmp .le 6, 3) := by decide +kernel
theorem dX5_foretell_28 : decode cX5_foretell 28 = .ok (.ldc 170, 2) := by decide +kernel
theorem dX5_foretell_30 : decode cX5_foretell 30 = .ok (.ireturn, 1) := by decide +kernel
theorem dX5_foretell_31 : decode cX5_foretell 31 = .ok (.aload_n 0, 1) := by decide +kernel
theorem dX5_foretell_32 : decode cX5_foretell 32 = .ok (.invokevirtual 83, 3) := by decide +kernel
theorem dX5_foretell_35 : decode cX5_foretell 35 = .ok (.iload_n 3, 1) := by decide +kernel
theorem dX5_foretell_36 : decode cX5_foretell 36 = .ok (.ifCond .ne 15, 3) := by decide +kernel
theorem dX5_foretell_39 : decode cX5_foretell 39 = .ok (.aload_n 0, 1) := by decide +kernel
theorem dX5_foretell_40 : decode cX5_foretell 40 = .ok (.getfield 33, 3) := by decide +kernel
theorem dX5_foretell_43 : decode cX5_foretell 43 = .ok (.getfield 171, 3) := by decide +kernel
theorem dX5_foretell_46 : decode cX5_foretell 46 = .ok (.iload_n 1, 1) := by decide +kernel
theorem dX5_foretell_47 : decode cX5_foretell 47 = .ok (.iaload, 1) := by decide +kernel
theorem dX5_foretell_48 : decode cX5_foretell 48 = .ok (.goto 12, 3) := by decide +kernel
theorem dX5_foretell_51 : decode cX5_foretell 51 = .ok (.aload_n 0, 1) := by decide +kernel
theorem dX5_foretell_52 : decode cX5_foretell 52 = .ok (.getfield 33, 3) := by decide +kernel
theorem dX5_foretell_55 : decode cX5_foretell 55 = .ok (.getfield 174, 3) := by decide +kernel
theorem dX5_foretell_58 : decode cX5_foretell 58 = .ok (.iload_n 1, 1) := by decide +kernel
theorem dX5_foretell_59 : decode cX5_foretell 59 = .ok (.iaload, 1) := by decide +kernel
theorem dX5_foretell_60 : decode cX5_foretell 60 = .ok (.istore 4, 2) := by decide +kernel
theorem dX5_foretell_62 : decode cX5_foretell 62 = .ok (.iload_n 3, 1) := by decide +kernel
theorem dX5_foretell_63 : decode cX5_foretell 63 = .ok (.ifCond .ne 15, 3) := by decide +kernel
theorem dX5_foretell_66 : decode cX5_foretell 66 = .ok (.aload_n 0, 1) := by decide +kernel
theorem dX5_foretell_67 : decode cX5_foretell 67 = .ok (.getfield 33, 3) := by decide +kernel
theorem dX5_foretell_70 : decode cX5_foretell 70 = .ok (.getfield 140, 3) := by decide +kernel
theorem dX5_foretell_73 : decode cX5_foretell 73 = .ok (.iload_n 1, 1) := by decide +kernel
theorem dX5_foretell_74 : decode cX5_foretell 74 = .ok (.iaload, 1) := by decide +kernel
theorem dX5_foretell_75 : decode cX5_foretell 75 = .ok (.goto 12, 3) := by decide +kernel
theorem dX5_foretell_78 : decode cX5_foretell 78 = .ok (.aload_n 0, 1) := by decide +kernel
theorem dX5_foretell_79 : decode cX5_foretell 79 = .ok (.getfield 33, 3) := by decide +kernel
theorem dX5_foretell_82 : decode cX5_foretell 82 = .ok (.getfield 143, 3) := by decide +kernel
theorem dX5_foretell_85 : decode cX5_foretell 85 = .ok (.iload_n 1, 1) := by decide +kernel
theorem dX5_foretell_86 : decode cX5_foretell 86 = .ok (.iaload, 1) := by decide +kernel
theorem dX5_foretell_87 : decode cX5_foretell 87 = .ok (.istore 5, 2) := by decide +kernel
theorem dX5_foretell_89 : decode cX5_foretell 89 = .ok (.aload_n 0, 1) := by decide +kernel
theorem dX5_foretell_90 : decode cX5_foretell 90 = .ok (.getfield 33, 3) := by decide +kernel
theorem dX5_foretell_93 : decode cX5_foretell 93 = .ok (.getfield 137, 3) := by decide +kernel
theorem dX5_foretell_96 : decode cX5_foretell 96 = .ok (.iload_n 1, 1) := by decide +kernel
theorem dX5_foretell_97 : decode cX5_foretell 97 = .ok (.iaload, 1) := by decide +kernel
theorem dX5_foretell_98 : decode cX5_foretell 98 = .ok (.istore 6, 2) := by decide +kernel
theorem dX5_foretell_100 : decode cX5_foretell 100 = .ok (.iload 6, 2) := by decide +kernel
theorem dX5_foretell_102 : decode cX5_foretell 102 = .ok (.ifCond .gt 6, 3) := by decide +kernel
theorem dX5_foretell_105 : decode cX5_foretell 105 = .ok (.iload 4, 2) := by decide +kernel
theorem dX5_foretell_107 : decode cX5_foretell 107 = .ok (.ireturn, 1) := by decide +kernel
theorem dX5_foretell_108 : decode cX5_foretell 108 = .ok (.iload_n 2, 1) := by decide +kernel
theorem dX5_foretell_109 : decode cX5_foretell 109 = .ok (.aload_n 0, 1) := by decide +kernel
theorem dX5_foretell_110 : decode cX5_foretell 110 = .ok (.getfield 33, 3) := by decide +kernel
theorem dX5_foretell_113 : decode cX5_foretell 113 = .ok (.getfield 177, 3) := by decide +kernel
theorem dX5_foretell_116 : decode cX5_foretell 116 = .ok (.isub, 1) := by decide +kernel
theorem dX5_foretell_117 : decode cX5_foretell 117 = .ok (.istore 7, 2) := by decide +kernel
theorem dX5_foretell_119 : decode cX5_foretell 119 = .ok (.iload 4, 2) := by decide +kernel
theorem dX5_foretell_121 : decode cX5_foretell 121 = .ok (.iconst 2, 1) := by decide +kernel
theorem dX5_foretell_122 : decode cX5_foretell 122 = .ok (.iload 5, 2) := by decide +kernel
theorem dX5_foretell_124 : decode cX5_foretell 124 = .ok (.imul, 1) := by decide +kernel
theorem dX5_foretell_125 : decode cX5_foretell 125 = .ok (.iload 7, 2) := by decide +kernel
theorem dX5_foretell_127 : decode cX5_foretell 127 = .ok (.imul, 1) := by decide +kernel
theorem dX5_foretell_128 : decode cX5_foretell 128 = .ok (.iload 6, 2) := by decide +kernel
theorem dX5_foretell_130 : decode cX5_foretell 130 = .ok (.iadd, 1) := by decide +kernel
theorem dX5_foretell_131 : decode cX5_foretell 131 = .ok (.iconst 2, 1) := by decide +kernel
theorem dX5_foretell_132 : decode cX5_foretell 132 = .ok (.iload 6, 2) := by decide +kernel
theorem dX5_foretell_134 : decode cX5_foretell 134 = .ok (.imul, 1) := by decide +kernel
theorem dX5_foretell_135 : decode cX5_foretell 135 = .ok (.invokestatic 180, 3) := by decide +kernel
theorem dX5_foretell_138 : decode cX5_foretell 138 = .ok (.iadd, 1) := by decide +kernel
theorem dX5_foretell_139 : decode cX5_foretell 139 = .ok (.ireturn, 1) := by decide +kernel
theorem dX5_slip_0 : decode cX5_slip 0 = .ok (.aload_n 0, 1) := by decide +kernel
theorem dX5_slip_1 : decode cX5_slip 1 = .ok (.iload_n 1, 1) := by decide +kernel
theorem dX5_slip_2 : decode cX5_slip 2 = .ok (.iload_n 2, 1) := by decide +kernel
theorem dX5_slip_3 : decode cX5_slip 3 = .ok (.invokevirtual 72, 3) := by decide +kernel
theorem dX5_slip_6 : decode cX5_slip 6 = .ok (.ifCond .eq 20, 3) := by decide +kernel
theorem dX5_slip_9 : decode cX5_slip 9 = .ok (.iload_n 1, 1) := by decide +kernel
theorem dX5_slip_10 : decode cX5_slip 10 = .ok (.aload_n 0, 1) := by decide +kernel
theorem dX5_slip_11 : decode cX5_slip 11 = .ok (.getfield 45, 3) := by decide +kernel
theorem dX5_slip_14 : decode cX5_slip 14 = .ok (.if_icmp .eq 12, 3) := by decide +kernel
theorem dX5_slip_17 : decode cX5_slip 17 = .ok (.iload_n 3, 1) := by decide +kernel
theorem dX5_slip_18 : decode cX5_slip 18 = .ok (.ifCond .lt 8, 3) := by decide +kernel
theorem dX5_slip_21 : decode cX5_slip 21 = .ok (.iload_n 3, 1) := by decide +kernel
theorem dX5_slip_22 : decode cX5_slip 22 = .ok (.iconst 2, 1) := by decide +kernel
theorem dX5_slip_23 : decode cX5_slip 23 = .ok (.if_icmp .le 5, 3) := by decide +kernel
theorem dX5_slip_26 : decode cX5_slip 26 = .ok (.iconst (-1), 1) := by decide +kernel
theorem dX5_slip_27 : decode cX5_slip 27 = .ok (.ireturn, 1) := by decide +kernel
theorem dX5_slip_28 : decode cX5_slip 28 = .ok (.aload_n 0, 1) := by decide +kernel
theorem dX5_slip_29 : decode cX5_slip 29 = .ok (.aload_n 0, 1) := by decide +kernel
theorem dX5_slip_30 : decode cX5_slip 30 = .ok (.getfield 45, 3) := by decide +kernel
theorem dX5_slip_33 : decode cX5_slip 33 = .ok (.iload_n 1, 1) := by decide +kernel
theorem dX5_slip_34 : decode cX5_slip 34 = .ok (.invokevirtual 102, 3) := by decide +kernel
theorem dX5_slip_37 : decode cX5_slip 37 = .ok (.astore 4, 2) := by decide +kernel
theorem dX5_slip_39 : decode cX5_slip 39 = .ok (.aload 4, 2) := by decide +kernel
theorem dX5_slip_41 : decode cX5_slip 41 = .ok (.getfield 106, 3) := by decide +kernel
theorem dX5_slip_44 : decode cX5_slip 44 = .ok (.ifCond .eq 14, 3) := by decide +kernel
theorem dX5_slip_47 : decode cX5_slip 47 = .ok (.aload 4, 2) := by decide +kernel
theorem dX5_slip_49 : decode cX5_slip 49 = .ok (.getfield 122, 3) := by decide +kernel
theorem dX5_slip_52 : decode cX5_slip 52 = .ok (.iload_n 2, 1) := by decide +kernel
theorem dX5_slip_53 : decode cX5_slip 53 = .ok (.iaload, 1) := by decide +kernel
theorem dX5_slip_54 : decode cX5_slip 54 = .ok (.iconst (-1), 1) := by decide +kernel
theorem dX5_slip_55 : decode cX5_slip 55 = .ok (.if_icmp .eq 5, 3) := by decide +kernel
theorem dX5_slip_58 : decode cX5_slip 58 = .ok (.iconst (-1), 1) := by decide +kernel
theorem dX5_slip_59 : decode cX5_slip 59 = .ok (.ireturn, 1) := by decide +kernel
theorem dX5_slip_60 : decode cX5_slip 60 = .ok (.aload_n 0, 1) := by decide +kernel
theorem dX5_slip_61 : decode cX5_slip 61 = .ok (.getfield 11, 3) := by decide +kernel
theorem dX5_slip_64 : decode cX5_slip 64 = .ok (.iload_n 1, 1) := by decide +kernel
theorem dX5_slip_65 : decode cX5_slip 65 = .ok (.aaload, 1) := by decide +kernel
theorem dX5_slip_66 : decode cX5_slip 66 = .ok (.getfield 95, 3) := by decide +kernel
theorem dX5_slip_69 : decode cX5_slip 69 = .ok (.iload_n 2, 1) := by decide +kernel
theorem dX5_slip_70 : decode cX5_slip 70 = .ok (.iaload, 1) := by decide +kernel
theorem dX5_slip_71 : decode cX5_slip 71 = .ok (.istore 5, 2) := by decide +kernel
theorem dX5_slip_73 : decode cX5_slip 73 = .ok (.aload_n 0, 1) := by decide +kernel
theorem dX5_slip_74 : decode cX5_slip 74 = .ok (.getfield 11, 3) := by decide +kernel
theorem dX5_slip_77 : decode cX5_slip 77 = .ok (.iload_n 1, 1) := by decide +kernel
theorem dX5_slip_78 : decode cX5_slip 78 = .ok (.aaload, 1) := by decide +kernel
theorem dX5_slip_79 : decode cX5_slip 79 = .ok (.getfield 99, 3) := by decide +kernel
theorem dX5_slip_82 : decode cX5_slip 82 = .ok (.iload_n 2, 1) := by decide +kernel
theorem dX5_slip_83 : decode cX5_slip 83 = .ok (.iaload, 1) := by decide +kernel
theorem dX5_slip_84 : decode cX5_slip 84 = .ok (.istore 6, 2) := by decide +kernel
theorem dX5_slip_86 : decode cX5_slip 86 = .ok (.iconst 1, 1) := by decide +kernel
theorem dX5_slip_87 : decode cX5_slip 87 = .ok (.istore 7, 2) := by decide +kernel
theorem dX5_slip_89 : decode cX5_slip 89 = .ok (.iload 7, 2) := by decide +kernel
theorem dX5_slip_91 : decode cX5_slip 91 = .ok (.iconst 2, 1) := by decide +kernel
theorem dX5_slip_92 : decode cX5_slip 92 = .ok (.if_icmp .gt 104, 3) := by decide +kernel
theorem dX5_slip_95 : decode cX5_slip 95 = .ok (.iconst 0, 1) := by decide +kernel
theorem dX5_slip_96 : decode cX5_slip 96 = .ok (.istore 8, 2) := by decide +kernel
theorem dX5_slip_98 : decode cX5_slip 98 = .ok (.iload 8, 2) := by decide +kernel
theorem dX5_slip_100 : decode cX5_slip 100 = .ok (.iconst 1, 1) := by decide +kernel
theorem dX5_slip_101 : decode cX5_slip 101 = .ok (.if_icmp .gt 89, 3) := by decide +kernel
theorem dX5_slip_104 : decode cX5_slip 104 = .ok (.iload 7, 2) := by decide +kernel
theorem dX5_slip_106 : decode cX5_slip 106 = .ok (.iconst 1, 1) := by decide +kernel
theorem dX5_slip_107 : decode cX5_slip 107 = .ok (.if_icmp .ne 13, 3) := by decide +kernel
theorem dX5_slip_110 : decode cX5_slip 110 = .ok (.iload 5, 2) := by decide +kernel
theorem dX5_slip_112 : decode cX5_slip 112 = .ok (.iload 8, 2) := by decide +kernel
theorem dX5_slip_114 : decode cX5_slip 114 = .ok (.invokestatic 183, 3) := by decide +kernel
theorem dX5_slip_117 : decode cX5_slip 117 = .ok (.goto 5, 3) := by decide +kernel
theorem dX5_slip_120 : decode cX5_slip 120 = .ok (.iload 5, 2) := by decide +kernel
theorem dX5_slip_122 : decode cX5_slip 122 = .ok (.istore 9, 2) := by decide +kernel
theorem dX5_slip_124 : decode cX5_slip 124 = .ok (.iload 7, 2) := by decide +kernel
theorem dX5_slip_126 : decode cX5_slip 126 = .ok (.iconst 2, 1) := by decide +kernel
theorem dX5_slip_127 : decode cX5_slip 127 = .ok (.if_icmp .ne 13, 3) := by decide +kernel
theorem dX5_slip_130 : decode cX5_slip 130 = .ok (.iload 6, 2) := by decide +kernel
theorem dX5_slip_132 : decode cX5_slip 132 = .ok (.iload 8, 2) := by decide +kernel
theorem dX5_slip_134 : decode cX5_slip 134 = .ok (.invokestatic 183, 3) := by decide +kernel
theorem dX5_slip_137 : decode cX5_slip 137 = .ok (.goto 5, 3) := by decide +kernel
theorem dX5_slip_140 : decode cX5_slip 140 = .ok (.iload 6, 2) := by decide +kernel
theorem dX5_slip_142 : decode cX5_slip 142 = .ok (.istore 10, 2) := by decide +kernel
theorem dX5_slip_144 : decode cX5_slip 144 = .ok (.aload_n 0, 1) := by decide +kernel
theorem dX5_slip_145 : decode cX5_slip 145 = .ok (.aload 4, 2) := by decide +kernel
theorem dX5_slip_147 : decode cX5_slip 147 = .ok (.iload 9, 2) := by decide +kernel
theorem dX5_slip_149 : decode cX5_slip 149 = .ok (.iload 10, 2) := by decide +kernel
theorem dX5_slip_151 : decode cX5_slip 151 = .ok (.invokevirtual 186, 3) := by decide +kernel
theorem dX5_slip_154 : decode cX5_slip 154 = .ok (.istore 11, 2) := by decide +kernel
theorem dX5_slip_156 : decode cX5_slip 156 = .ok (.iload 11, 2) := by decide +kernel
theorem dX5_slip_158 : decode cX5_slip 158 = .ok (.iconst (-1), 1) := by decide +kernel
theorem dX5_slip_159 : decode cX5_slip 159 = .ok (.if_icmp .eq 25, 3) := by decide +kernel
theorem dX5_slip_162 : decode cX5_slip 162 = .ok (.iload_n 3, 1) := by decide +kernel
theorem dX5_slip_163 : decode cX5_slip 163 = .ok (.ifCond .ne 8, 3) := by decide +kernel
theorem dX5_slip_166 : decode cX5_slip 166 = .ok (.iload 7, 2) := by decide +kernel
theorem dX5_slip_168 : decode cX5_slip 168 = .ok (.goto 15, 3) := by decide +kernel
theorem dX5_slip_171 : decode cX5_slip 171 = .ok (.iload_n 3, 1) := by decide +kernel
theorem dX5_slip_172 : decode cX5_slip 172 = .ok (.iconst 1, 1) := by decide +kernel
theorem dX5_slip_173 : decode cX5_slip 173 = .ok (.if_icmp .ne 8, 3) := by decide +kernel
theorem dX5_slip_176 : decode cX5_slip 176 = .ok (.iload 8, 2) := by decide +kernel
theorem dX5_slip_178 : decode cX5_slip 178 = .ok (.goto 5, 3) := by decide +kernel
theorem dX5_slip_181 : decode cX5_slip 181 = .ok (.iload 11, 2) := by decide +kernel
theorem dX5_slip_183 : decode cX5_slip 183 = .ok (.ireturn, 1) := by decide +kernel
theorem dX5_slip_184 : decode cX5_slip 184 = .ok (.iinc 8 1, 3) := by decide +kernel
theorem dX5_slip_187 : decode cX5_slip 187 = .ok (.goto (-89), 3) := by decide +kernel
theorem dX5_slip_190 : decode cX5_slip 190 = .ok (.iinc 7 1, 3) := by decide +kernel
theorem dX5_slip_193 : decode cX5_slip 193 = .ok (.goto (-104), 3) := by decide +kernel
theorem dX5_slip_196 : decode cX5_slip 196 = .ok (.iconst (-1), 1) := by decide +kernel
theorem dX5_slip_197 : decode cX5_slip 197 = .ok (.ireturn, 1) := by decide +kernel
theorem dX5_isPlate_0 : decode cX5_isPlate 0 = .ok (.iload_n 1, 1) := by decide +kernel
theorem dX5_isPlate_1 : decode cX5_isPlate 1 = .ok (.ifCond .lt 15, 3) := by decide +kernel
theorem dX5_isPlate_4 : decode cX5_isPlate 4 = .ok (.iload_n 1, 1) := by decide +kernel
theorem dX5_isPlate_5 : decode cX5_isPlate 5 = .ok (.aload_n 0, 1) := by decide +kernel
theorem dX5_isPlate_6 : decode cX5_isPlate 6 = .ok (.getfield 41, 3) := by decide +kernel
theorem dX5_isPlate_9 : decode cX5_isPlate 9 = .ok (.if_icmp .ge 7, 3) := by decide +kernel
theorem dX5_isPlate_12 : decode cX5_isPlate 12 = .ok (.iconst 1, 1) := by decide +kernel
theorem dX5_isPlate_13 : decode cX5_isPlate 13 = .ok (.goto 4, 3) := by decide +kernel
theorem dX5_isPlate_16 : decode cX5_isPlate 16 = .ok (.iconst 0, 1) := by decide +kernel
theorem dX5_isPlate_17 : decode cX5_isPlate 17 = .ok (.ireturn, 1) := by decide +kernel
theorem dX5_isSpot_0 : decode cX5_isSpot 0 = .ok (.aload_n 0, 1) := by decide +kernel
theorem dX5_isSpot_1 : decode cX5_isSpot 1 = .ok (.iload_n 1, 1) := by decide +kernel
theorem dX5_isSpot_2 : decode cX5_isSpot 2 = .ok (.invokevirtual 58, 3) := by decide +kernel
theorem dX5_isSpot_5 : decode cX5_isSpot 5 = .ok (.ifCond .eq 24, 3) := by decide +kernel
theorem dX5_isSpot_8 : decode cX5_isSpot 8 = .ok (.iload_n 2, 1) := by decide +kernel
theorem dX5_isSpot_9 : decode cX5_isSpot 9 = .ok (.ifCond .lt 20, 3) := by decide +kernel
theorem dX5_isSpot_12 : decode cX5_isSpot 12 = .ok (.iload_n 2, 1) := by decide +kernel
theorem dX5_isSpot_13 : decode cX5_isSpot 13 = .ok (.aload_n 0, 1) := by decide +kernel
theorem dX5_isSpot_14 : decode cX5_isSpot 14 = .ok (.getfield 11, 3) := by decide +kernel
theorem dX5_isSpot_17 : decode cX5_isSpot 17 = .ok (.iload_n 1, 1) := by decide +kernel
theorem dX5_isSpot_18 : decode cX5_isSpot 18 = .ok (.aaload, 1) := by decide +kernel
theorem dX5_isSpot_19 : decode cX5_isSpot 19 = .ok (.getfield 92, 3) := by decide +kernel
theorem dX5_isSpot_22 : decode cX5_isSpot 22 = .ok (.if_icmp .ge 7, 3) := by decide +kernel
theorem dX5_isSpot_25 : decode cX5_isSpot 25 = .ok (.iconst 1, 1) := by decide +kernel
theorem dX5_isSpot_26 : decode cX5_isSpot 26 = .ok (.goto 4, 3) := by decide +kernel
theorem dX5_isSpot_29 : decode cX5_isSpot 29 = .ok (.iconst 0, 1) := by decide +kernel
theorem dX5_isSpot_30 : decode cX5_isSpot 30 = .ok (.ireturn, 1) := by decide +kernel
theorem dX5_isTrack_0 : decode cX5_isTrack 0 = .ok (.iload_n 1, 1) := by decide +kernel
theorem dX5_isTrack_1 : decode cX5_isTrack 1 = .ok (.ifCond .lt 15, 3) := by decide +kernel
theorem dX5_isTrack_4 : decode cX5_isTrack 4 = .ok (.iload_n 1, 1) := by decide +kernel
theorem dX5_isTrack_5 : decode cX5_isTrack 5 = .ok (.aload_n 0, 1) := by decide +kernel
theorem dX5_isTrack_6 : decode cX5_isTrack 6 = .ok (.invokevirtual 79, 3) := by decide +kernel
theorem dX5_isTrack_9 : decode cX5_isTrack 9 = .ok (.if_icmp .ge 7, 3) := by decide +kernel
theorem dX5_isTrack_12 : decode cX5_isTrack 12 = .ok (.iconst 1, 1) := by decide +kernel
theorem dX5_isTrack_13 : decode cX5_isTrack 13 = .ok (.goto 4, 3) := by decide +kernel
theorem dX5_isTrack_16 : decode cX5_isTrack 16 = .ok (.iconst 0, 1) := by decide +kernel
theorem dX5_isTrack_17 : decode cX5_isTrack 17 = .ok (.ireturn, 1) := by decide +kernel
theorem dX5_trackCount_0 : decode cX5_trackCount 0 = .ok (.aload_n 0, 1) := by decide +kernel
theorem dX5_trackCount_1 : decode cX5_trackCount 1 = .ok (.getfield 45, 3) := by decide +kernel
theorem dX5_trackCount_4 : decode cX5_trackCount 4 = .ok (.iconst (-1), 1) := by decide +kernel
theorem dX5_trackCount_5 : decode cX5_trackCount 5 = .ok (.if_icmp .ne 7, 3) := by decide +kernel
theorem dX5_trackCount_8 : decode cX5_trackCount 8 = .ok (.iconst 0, 1) := by decide +kernel
theorem dX5_trackCount_9 : decode cX5_trackCount 9 = .ok (.goto 15, 3) := by decide +kernel
theorem dX5_trackCount_12 : decode cX5_trackCount 12 = .ok (.aload_n 0, 1) := by decide +kernel
theorem dX5_trackCount_13 : decode cX5_trackCount 13 = .ok (.getfield 11, 3) := by decide +kernel
theorem dX5_trackCount_16 : decode cX5_trackCount 16 = .ok (.aload_n 0, 1) := by decide +kernel
theorem dX5_trackCount_17 : decode cX5_trackCount 17 = .ok (.getfield 45, 3) := by decide +kernel
theorem dX5_trackCount_20 : decode cX5_trackCount 20 = .ok (.aaload, 1) := by decide +kernel
theorem dX5_trackCount_21 : decode cX5_trackCount 21 = .ok (.getfield 92, 3) := by decide +kernel
theorem dX5_trackCount_24 : decode cX5_trackCount 24 = .ok (.ireturn, 1) := by decide +kernel
theorem dX5_hasYear_0 : decode cX5_hasYear 0 = .ok (.iconst 0, 1) := by decide +kernel
theorem dX5_hasYear_1 : decode cX5_hasYear 1 = .ok (.istore_n 2, 1) := by decide +kernel
theorem dX5_hasYear_2 : decode cX5_hasYear 2 = .ok (.iload_n 2, 1) := by decide +kernel
theorem dX5_hasYear_3 : decode cX5_hasYear 3 = .ok (.aload_n 0, 1) := by decide +kernel
theorem dX5_hasYear_4 : decode cX5_hasYear 4 = .ok (.getfield 41, 3) := by decide +kernel
theorem dX5_hasYear_7 : decode cX5_hasYear 7 = .ok (.if_icmp .ge 24, 3) := by decide +kernel
theorem dX5_hasYear_10 : decode cX5_hasYear 10 = .ok (.aload_n 0, 1) := by decide +kernel
theorem dX5_hasYear_11 : decode cX5_hasYear 11 = .ok (.getfield 11, 3) := by decide +kernel
theorem dX5_hasYear_14 : decode cX5_hasYear 14 = .ok (.iload_n 2, 1) := by decide +kernel
theorem dX5_hasYear_15 : decode cX5_hasYear 15 = .ok (.aaload, 1) := by decide +kernel
theorem dX5_hasYear_16 : decode cX5_hasYear 16 = .ok (.getfield 55, 3) := by decide +kernel
theorem dX5_hasYear_19 : decode cX5_hasYear 19 = .ok (.iload_n 1, 1) := by decide +kernel
theorem dX5_hasYear_20 : decode cX5_hasYear 20 = .ok (.if_icmp .ne 5, 3) := by decide +kernel
theorem dX5_hasYear_23 : decode cX5_hasYear 23 = .ok (.iconst 1, 1) := by decide +kernel
theorem dX5_hasYear_24 : decode cX5_hasYear 24 = .ok (.ireturn, 1) := by decide +kernel
theorem dX5_hasYear_25 : decode cX5_hasYear 25 = .ok (.iinc 2 1, 3) := by decide +kernel
theorem dX5_hasYear_28 : decode cX5_hasYear 28 = .ok (.goto (-26), 3) := by decide +kernel
theorem dX5_hasYear_31 : decode cX5_hasYear 31 = .ok (.iconst 0, 1) := by decide +kernel
theorem dX5_hasYear_32 : decode cX5_hasYear 32 = .ok (.ireturn, 1) := by decide +kernel
theorem dX5_forgetLaysOf_0 : decode cX5_forgetLaysOf 0 = .ok (.iconst 0, 1) := by decide +kernel
theorem dX5_forgetLaysOf_1 : decode cX5_forgetLaysOf 1 = .ok (.istore_n 2, 1) := by decide +kernel
theorem dX5_forgetLaysOf_2 : decode cX5_forgetLaysOf 2 = .ok (.iload_n 2, 1) := by decide +kernel
theorem dX5_forgetLaysOf_3 : decode cX5_forgetLaysOf 3 = .ok (.aload_n 0, 1) := by decide +kernel
theorem dX5_forgetLaysOf_4 : decode cX5_forgetLaysOf 4 = .ok (.getfield 41, 3) := by decide +kernel
theorem dX5_forgetLaysOf_7 : decode cX5_forgetLaysOf 7 = .ok (.if_icmp .ge 37, 3) := by decide +kernel
theorem dX5_forgetLaysOf_10 : decode cX5_forgetLaysOf 10 = .ok (.aload_n 0, 1) := by decide +kernel
theorem dX5_forgetLaysOf_11 : decode cX5_forgetLaysOf 11 = .ok (.getfield 18, 3) := by decide +kernel
theorem dX5_forgetLaysOf_14 : decode cX5_forgetLaysOf 14 = .ok (.iload_n 1, 1) := by decide +kernel
theorem dX5_forgetLaysOf_15 : decode cX5_forgetLaysOf 15 = .ok (.iconst 5, 1) := by decide +kernel
theorem dX5_forgetLaysOf_16 : decode cX5_forgetLaysOf 16 = .ok (.imul, 1) := by decide +kernel
theorem dX5_forgetLaysOf_17 : decode cX5_forgetLaysOf 17 = .ok (.iload_n 2, 1) := by decide +kernel
theorem dX5_forgetLaysOf_18 : decode cX5_forgetLaysOf 18 = .ok (.iadd, 1) := by decide +kernel
theorem dX5_forgetLaysOf_19 : decode cX5_forgetLaysOf 19 = .ok (.aaload, 1) := by decide +kernel
theorem dX5_forgetLaysOf_20 : decode cX5_forgetLaysOf 20 = .ok (.iconst 0, 1) := by decide +kernel
theorem dX5_forgetLaysOf_21 : decode cX5_forgetLaysOf 21 = .ok (.putfield 190, 3) := by decide +kernel
theorem dX5_forgetLaysOf_24 : decode cX5_forgetLaysOf 24 = .ok (.aload_n 0, 1) := by decide +kernel
theorem dX5_forgetLaysOf_25 : decode cX5_forgetLaysOf 25 = .ok (.getfield 18, 3) := by decide +kernel
theorem dX5_forgetLaysOf_28 : decode cX5_forgetLaysOf 28 = .ok (.iload_n 2, 1) := by decide +kernel
theorem dX5_forgetLaysOf_29 : decode cX5_forgetLaysOf 29 = .ok (.iconst 5, 1) := by decide +kernel
theorem dX5_forgetLaysOf_30 : decode cX5_forgetLaysOf 30 = .ok (.imul, 1) := by decide +kernel
theorem dX5_forgetLaysOf_31 : decode cX5_forgetLaysOf 31 = .ok (.iload_n 1, 1) := by decide +kernel
theorem dX5_forgetLaysOf_32 : decode cX5_forgetLaysOf 32 = .ok (.iadd, 1) := by decide +kernel
theorem dX5_forgetLaysOf_33 : decode cX5_forgetLaysOf 33 = .ok (.aaload, 1) := by decide +kernel
theorem dX5_forgetLaysOf_34 : decode cX5_forgetLaysOf 34 = .ok (.iconst 0, 1) := by decide +kernel
theorem dX5_forgetLaysOf_35 : decode cX5_forgetLaysOf 35 = .ok (.putfield 190, 3) := by decide +kernel
theorem dX5_forgetLaysOf_38 : decode cX5_forgetLaysOf 38 = .ok (.iinc 2 1, 3) := by decide +kernel
theorem dX5_forgetLaysOf_41 : decode cX5_forgetLaysOf 41 = .ok (.goto (-39), 3) := by decide +kernel
theorem dX5_forgetLaysOf_44 : decode cX5_forgetLaysOf 44 = .ok (.aload_n 0, 1) := by decide +kernel
theorem dX5_forgetLaysOf_45 : decode cX5_forgetLaysOf 45 = .ok (.iconst 0, 1) := by decide +kernel
theorem dX5_forgetLaysOf_46 : decode cX5_forgetLaysOf 46 = .ok (.putfield 37, 3) := by decide +kernel
theorem dX5_forgetLaysOf_49 : decode cX5_forgetLaysOf 49 = .ok (.return_, 1) := by decide +kernel
theorem dX5_bestLay_0 : decode cX5_bestLay 0 = .ok (.aload_n 0, 1) := by decide +kernel
theorem dX5_bestLay_1 : decode cX5_bestLay 1 = .ok (.getfield 18, 3) := by decide +kernel
theorem dX5_bestLay_4 : decode cX5_bestLay 4 = .ok (.iload_n 1, 1) := by decide +kernel
theorem dX5_bestLay_5 : decode cX5_bestLay 5 = .ok (.iconst 5, 1) := by decide +kernel
theorem dX5_bestLay_6 : decode cX5_bestLay 6 = .ok (.imul, 1) := by decide +kernel
theorem dX5_bestLay_7 : decode cX5_bestLay 7 = .ok (.iload_n 2, 1) := by decide +kernel
theorem dX5_bestLay_8 : decode cX5_bestLay 8 = .ok (.iadd, 1) := by decide +kernel
theorem dX5_bestLay_9 : decode cX5_bestLay 9 = .ok (.aaload, 1) := by decide +kernel
theorem dX5_bestLay_10 : decode cX5_bestLay 10 = .ok (.astore_n 3, 1) := by decide +kernel
theorem dX5_bestLay_11 : decode cX5_bestLay 11 = .ok (.aload_n 3, 1) := by decide +kernel
theorem dX5_bestLay_12 : decode cX5_bestLay 12 = .ok (.getfield 190, 3) := by decide +kernel
theorem dX5_bestLay_15 : decode cX5_bestLay 15 = .ok (.ifCond .ne 32, 3) := by decide +kernel
theorem dX5_bestLay_18 : decode cX5_bestLay 18 = .ok (.aload_n 0, 1) := by decide +kernel
theorem dX5_bestLay_19 : decode cX5_bestLay 19 = .ok (.getfield 26, 3) := by decide +kernel
theorem dX5_bestLay_22 : decode cX5_bestLay 22 = .ok (.aload_n 0, 1) := by decide +kernel
theorem dX5_bestLay_23 : decode cX5_bestLay 23 = .ok (.getfield 11, 3) := by decide +kernel
theorem dX5_bestLay_26 : decode cX5_bestLay 26 = .ok (.iload_n 1, 1) := by decide +kernel
theorem dX5_bestLay_27 : decode cX5_bestLay 27 = .ok (.aaload, 1) := by decide +kernel
theorem dX5_bestLay_28 : decode cX5_bestLay 28 = .ok (.aload_n 0, 1) := by decide +kernel
theorem dX5_bestLay_29 : decode cX5_bestLay 29 = .ok (.getfield 11, 3) := by decide +kernel
theorem dX5_bestLay_32 : decode cX5_bestLay 32 = .ok (.iload_n 2, 1) := by decide +kernel
theorem dX5_bestLay_33 : decode cX5_bestLay 33 = .ok (.aaload, 1) := by decide +kernel
theorem dX5_bestLay_34 : decode cX5_bestLay 34 = .ok (.aload_n 0, 1) := by decide +kernel
theorem dX5_bestLay_35 : decode cX5_bestLay 35 = .ok (.getfield 48, 3) := by decide +kernel
theorem dX5_bestLay_38 : decode cX5_bestLay 38 = .ok (.aload_n 3, 1) := by decide +kernel
theorem dX5_bestLay_39 : decode cX5_bestLay 39 = .ok (.invokevirtual 193, 3) := by decide +kernel
theorem dX5_bestLay_42 : decode cX5_bestLay 42 = .ok (.aload_n 3, 1) := by decide +kernel
theorem dX5_bestLay_43 : decode cX5_bestLay 43 = .ok (.iconst 1, 1) := by decide +kernel
theorem dX5_bestLay_44 : decode cX5_bestLay 44 = .ok (.putfield 190, 3) := by decide +kernel
theorem dX5_bestLay_47 : decode cX5_bestLay 47 = .ok (.aload_n 3, 1) := by decide +kernel
theorem dX5_bestLay_48 : decode cX5_bestLay 48 = .ok (.areturn, 1) := by decide +kernel
theorem dX5_freshenTracks_0 : decode cX5_freshenTracks 0 = .ok (.aload_n 0, 1) := by decide +kernel
theorem dX5_freshenTracks_1 : decode cX5_freshenTracks 1 = .ok (.getfield 37, 3) := by decide +kernel
theorem dX5_freshenTracks_4 : decode cX5_freshenTracks 4 = .ok (.ifCond .ne 11, 3) := by decide +kernel
theorem dX5_freshenTracks_7 : decode cX5_freshenTracks 7 = .ok (.aload_n 0, 1) := by decide +kernel
theorem dX5_freshenTracks_8 : decode cX5_freshenTracks 8 = .ok (.getfield 45, 3) := by decide +kernel
theorem dX5_freshenTracks_11 : decode cX5_freshenTracks 11 = .ok (.iconst (-1), 1) := by decide +kernel
theorem dX5_freshenTracks_12 : decode cX5_freshenTracks 12 = .ok (.if_icmp .ne 4, 3) := by decide +kernel
theorem dX5_freshenTracks_15 : decode cX5_freshenTracks 15 = .ok (.return_, 1) := by decide +kernel
theorem dX5_freshenTracks_16 : decode cX5_freshenTracks 16 = .ok (.aload_n 0, 1) := by decide +kernel
theorem dX5_freshenTracks_17 : decode cX5_freshenTracks 17 = .ok (.getfield 33, 3) := by decide +kernel
theorem dX5_freshenTracks_20 : decode cX5_freshenTracks 20 = .ok (.aload_n 0, 1) := by decide +kernel
theorem dX5_freshenTracks_21 : decode cX5_freshenTracks 21 = .ok (.getfield 45, 3) := by decide +kernel
theorem dX5_freshenTracks_24 : decode cX5_freshenTracks 24 = .ok (.aload_n 0, 1) := by decide +kernel
theorem dX5_freshenTracks_25 : decode cX5_freshenTracks 25 = .ok (.getfield 11, 3) := by decide +kernel
theorem dX5_freshenTracks_28 : decode cX5_freshenTracks 28 = .ok (.aload_n 0, 1) := by decide +kernel
theorem dX5_freshenTracks_29 : decode cX5_freshenTracks 29 = .ok (.getfield 45, 3) := by decide +kernel
theorem dX5_freshenTracks_32 : decode cX5_freshenTracks 32 = .ok (.aaload, 1) := by decide +kernel
theorem dX5_freshenTracks_33 : decode cX5_freshenTracks 33 = .ok (.invokevirtual 197, 3) := by decide +kernel
theorem dX5_freshenTracks_36 : decode cX5_freshenTracks 36 = .ok (.iconst 0, 1) := by decide +kernel
theorem dX5_freshenTracks_37 : decode cX5_freshenTracks 37 = .ok (.istore_n 1, 1) := by decide +kernel
theorem dX5_freshenTracks_38 : decode cX5_freshenTracks 38 = .ok (.iload_n 1, 1) := by decide +kernel
theorem dX5_freshenTracks_39 : decode cX5_freshenTracks 39 = .ok (.aload_n 0, 1) := by decide +kernel
theorem dX5_freshenTracks_40 : decode cX5_freshenTracks 40 = .ok (.getfield 41, 3) := by decide +kernel
theorem dX5_freshenTracks_43 : decode cX5_freshenTracks 43 = .ok (.if_icmp .ge 40, 3) := by decide +kernel
theorem dX5_freshenTracks_46 : decode cX5_freshenTracks 46 = .ok (.iload_n 1, 1) := by decide +kernel
theorem dX5_freshenTracks_47 : decode cX5_freshenTracks 47 = .ok (.aload_n 0, 1) := by decide +kernel
theorem dX5_freshenTracks_48 : decode cX5_freshenTracks 48 = .ok (.getfield 45, 3) := by decide +kernel
theorem dX5_freshenTracks_51 : decode cX5_freshenTracks 51 = .ok (.if_icmp .eq 26, 3) := by decide +kernel
theorem dX5_freshenTracks_54 : decode cX5_freshenTracks 54 = .ok (.aload_n 0, 1) := by decide +kernel
theorem dX5_freshenTracks_55 : decode cX5_freshenTracks 55 = .ok (.getfield 33, 3) := by decide +kernel
theorem dX5_freshenTracks_58 : decode cX5_freshenTracks 58 = .ok (.iload_n 1, 1) := by decide +kernel
theorem dX5_freshenTracks_59 : decode cX5_freshenTracks 59 = .ok (.aload_n 0, 1) := by decide +kernel
theorem dX5_freshenTracks_60 : decode cX5_freshenTracks 60 = .ok (.getfield 11, 3) := by decide +kernel
theorem dX5_freshenTracks_63 : decode cX5_freshenTracks 63 = .ok (.iload_n 1, 1) := by decide +kernel
theorem dX5_freshenTracks_64 : decode cX5_freshenTracks 64 = .ok (.aaload, 1) := by decide +kernel
theorem dX5_freshenTracks_65 : decode cX5_freshenTracks 65 = .ok (.aload_n 0, 1) := by decide +kernel
theorem dX5_freshenTracks_66 : decode cX5_freshenTracks 66 = .ok (.aload_n 0, 1) := by decide +kernel
theorem dX5_freshenTracks_67 : decode cX5_freshenTracks 67 = .ok (.getfield 45, 3) := by decide +kernel
theorem dX5_freshenTracks_70 : decode cX5_freshenTracks 70 = .ok (.iload_n 1, 1) := by decide +kernel
theorem dX5_freshenTracks_71 : decode cX5_freshenTracks 71 = .ok (.invokevirtual 102, 3) := by decide +kernel
theorem dX5_freshenTracks_74 : decode cX5_freshenTracks 74 = .ok (.invokevirtual 201, 3) := by decide +kernel
theorem dX5_freshenTracks_77 : decode cX5_freshenTracks 77 = .ok (.iinc 1 1, 3) := by decide +kernel
theorem dX5_freshenTracks_80 : decode cX5_freshenTracks 80 = .ok (.goto (-42), 3) := by decide +kernel
theorem dX5_freshenTracks_83 : decode cX5_freshenTracks 83 = .ok (.aload_n 0, 1) := by decide +kernel
theorem dX5_freshenTracks_84 : decode cX5_freshenTracks 84 = .ok (.iconst 1, 1) := by decide +kernel
theorem dX5_freshenTracks_85 : decode cX5_freshenTracks 85 = .ok (.putfield 37, 3) := by decide +kernel
theorem dX5_freshenTracks_88 : decode cX5_freshenTracks 88 = .ok (.return_, 1) := by decide +kernel
theorem dX5_firstFreeNear_0 : decode cX5_firstFreeNear 0 = .ok (.aload_n 0, 1) := by decide +kernel
theorem dX5_firstFreeNear_1 : decode cX5_firstFreeNear 1 = .ok (.getfield 11, 3) := by decide +kernel
theorem dX5_firstFreeNear_4 : decode cX5_firstFreeNear 4 = .ok (.aload_n 0, 1) := by decide +kernel
theorem dX5_firstFreeNear_5 : decode cX5_firstFreeNear 5 = .ok (.getfield 45, 3) := by decide +kernel
theorem dX5_firstFreeNear_8 : decode cX5_firstFreeNear 8 = .ok (.aaload, 1) := by decide +kernel
theorem dX5_firstFreeNear_9 : decode cX5_firstFreeNear 9 = .ok (.astore 4, 2) := by decide +kernel
theorem dX5_firstFreeNear_11 : decode cX5_firstFreeNear 11 = .ok (.aload_n 1, 1) := by decide +kernel
theorem dX5_firstFreeNear_12 : decode cX5_firstFreeNear 12 = .ok (.iload_n 2, 1) := by decide +kernel
theorem dX5_firstFreeNear_13 : decode cX5_firstFreeNear 13 = .ok (.iload_n 3, 1) := by decide +kernel
theorem dX5_firstFreeNear_14 : decode cX5_firstFreeNear 14 = .ok (.invokevirtual 205, 3) := by decide +kernel
theorem dX5_firstFreeNear_17 : decode cX5_firstFreeNear 17 = .ok (.istore 5, 2) := by decide +kernel
theorem dX5_firstFreeNear_19 : decode cX5_firstFreeNear 19 = .ok (.aload_n 1, 1) := by decide +kernel
theorem dX5_firstFreeNear_20 : decode cX5_firstFreeNear 20 = .ok (.iload_n 2, 1) := by decide +kernel
theorem dX5_firstFreeNear_21 : decode cX5_firstFreeNear 21 = .ok (.iload_n 3, 1) := by decide +kernel
theorem dX5_firstFreeNear_22 : decode cX5_firstFreeNear 22 = .ok (.invokevirtual 208, 3) := by decide +kernel
theorem dX5_firstFreeNear_25 : decode cX5_firstFreeNear 25 = .ok (.istore 6, 2) := by decide +kernel
theorem dX5_firstFreeNear_27 : decode cX5_firstFreeNear 27 = .ok (.iconst 0, 1) := by decide +kernel
theorem dX5_firstFreeNear_28 : decode cX5_firstFreeNear 28 = .ok (.istore 7, 2) := by decide +kernel
theorem dX5_firstFreeNear_30 : decode cX5_firstFreeNear 30 = .ok (.iload 7, 2) := by decide +kernel
theorem dX5_firstFreeNear_32 : decode cX5_firstFreeNear 32 = .ok (.aload 4, 2) := by decide +kernel
theorem dX5_firstFreeNear_34 : decode cX5_firstFreeNear 34 = .ok (.getfield 92, 3) := by decide +kernel
theorem dX5_firstFreeNear_37 : decode cX5_firstFreeNear 37 = .ok (.if_icmp .ge 55, 3) := by decide +kernel
theorem dX5_firstFreeNear_40 : decode cX5_firstFreeNear 40 = .ok (.aload_n 1, 1) := by decide +kernel
theorem dX5_firstFreeNear_41 : decode cX5_firstFreeNear 41 = .ok (.getfield 211, 3) := by decide +kernel
theorem dX5_firstFreeNear_44 : decode cX5_firstFreeNear 44 = .ok (.iload 7, 2) := by decide +kernel
theorem dX5_firstFreeNear_46 : decode cX5_firstFreeNear 46 = .ok (.iaload, 1) := by decide +kernel
theorem dX5_firstFreeNear_47 : decode cX5_firstFreeNear 47 = .ok (.iconst (-1), 1) := by decide +kernel
theorem dX5_firstFreeNear_48 : decode cX5_firstFreeNear 48 = .ok (.if_icmp .ne 38, 3) := by decide +kernel
theorem dX5_firstFreeNear_51 : decode cX5_firstFreeNear 51 = .ok (.aload 4, 2) := by decide +kernel
theorem dX5_firstFreeNear_53 : decode cX5_firstFreeNear 53 = .ok (.getfield 95, 3) := by decide +kernel
theorem dX5_firstFreeNear_56 : decode cX5_firstFreeNear 56 = .ok (.iload 7, 2) := by decide +kernel
theorem dX5_firstFreeNear_58 : decode cX5_firstFreeNear 58 = .ok (.iaload, 1) := by decide +kernel
theorem dX5_firstFreeNear_59 : decode cX5_firstFreeNear 59 = .ok (.iload 5, 2) := by decide +kernel
theorem dX5_firstFreeNear_61 : decode cX5_firstFreeNear 61 = .ok (.isub, 1) := by decide +kernel
theorem dX5_firstFreeNear_62 : decode cX5_firstFreeNear 62 = .ok (.aload 4, 2) := by decide +kernel
theorem dX5_firstFreeNear_64 : decode cX5_firstFreeNear 64 = .ok (.getfield 99, 3) := by decide +kernel
theorem dX5_firstFreeNear_67 : decode cX5_firstFreeNear 67 = .ok (.iload 7, 2) := by decide +kernel
theorem dX5_firstFreeNear_69 : decode cX5_firstFreeNear 69 = .ok (.iaload, 1) := by decide +kernel
theorem dX5_firstFreeNear_70 : decode cX5_firstFreeNear 70 = .ok (.iload 6, 2) := by decide +kernel
theorem dX5_firstFreeNear_72 : decode cX5_firstFreeNear 72 = .ok (.isub, 1) := by decide +kernel
theorem dX5_firstFreeNear_73 : decode cX5_firstFreeNear 73 = .ok (.invokestatic 214, 3) := by decide +kernel
theorem dX5_firstFreeNear_76 : decode cX5_firstFreeNear 76 = .ok (.aload_n 0, 1) := by decide +kernel
theorem dX5_firstFreeNear_77 : decode cX5_firstFreeNear 77 = .ok (.getfield 48, 3) := by decide +kernel
theorem dX5_firstFreeNear_80 : decode cX5_firstFreeNear 80 = .ok (.if_icmp .gt 6, 3) := by decide +kernel
theorem dX5_firstFreeNear_83 : decode cX5_firstFreeNear 83 = .ok (.iload 7, 2) := by decide +kernel
theorem dX5_firstFreeNear_85 : decode cX5_firstFreeNear 85 = .ok (.ireturn, 1) := by decide +kernel
theorem dX5_firstFreeNear_86 : decode cX5_firstFreeNear 86 = .ok (.iinc 7 1, 3) := by decide +kernel
theorem dX5_firstFreeNear_89 : decode cX5_firstFreeNear 89 = .ok (.goto (-59), 3) := by decide +kernel
theorem dX5_firstFreeNear_92 : decode cX5_firstFreeNear 92 = .ok (.iconst (-1), 1) := by decide +kernel
theorem dX5_firstFreeNear_93 : decode cX5_firstFreeNear 93 = .ok (.ireturn, 1) := by decide +kernel
theorem dX5_isOnPlate_0 : decode cX5_isOnPlate 0 = .ok (.iload_n 0, 1) := by decide +kernel
theorem dX5_isOnPlate_1 : decode cX5_isOnPlate 1 = .ok (.ifCond .lt 14, 3) := by decide +kernel
theorem dX5_isOnPlate_4 : decode cX5_isOnPlate 4 = .ok (.iload_n 0, 1) := by decide +kernel
theorem dX5_isOnPlate_5 : decode cX5_isOnPlate 5 = .ok (.sipush 999, 3) := by decide +kernel
theorem dX5_isOnPlate_8 : decode cX5_isOnPlate 8 = .ok (.if_icmp .gt 7, 3) := by decide +kernel
theorem dX5_isOnPlate_11 : decode cX5_isOnPlate 11 = .ok (.iconst 1, 1) := by decide +kernel
theorem dX5_isOnPlate_12 : decode cX5_isOnPlate 12 = .ok (.goto 4, 3) := by decide +kernel
theorem dX5_isOnPlate_15 : decode cX5_isOnPlate 15 = .ok (.iconst 0, 1) := by decide +kernel
theorem dX5_isOnPlate_16 : decode cX5_isOnPlate 16 = .ok (.ireturn, 1) := by decide +kernel
theorem dX5_farOf_0 : decode cX5_farOf 0 = .ok (.iload_n 0, 1) := by decide +kernel
theorem dX5_farOf_1 : decode cX5_farOf 1 = .ok (.invokestatic 146, 3) := by decide +kernel
theorem dX5_farOf_4 : decode cX5_farOf 4 = .ok (.iload_n 1, 1) := by decide +kernel
theorem dX5_farOf_5 : decode cX5_farOf 5 = .ok (.invokestatic 146, 3) := by decide +kernel
theorem dX5_farOf_8 : decode cX5_farOf 8 = .ok (.invokestatic 217, 3) := by decide +kernel
theorem dX5_farOf_11 : decode cX5_farOf 11 = .ok (.ireturn, 1) := by decide +kernel
theorem dX5_turnedX_0 : decode cX5_turnedX 0 = .ok (.iload_n 0, 1) := by decide +kernel
theorem dX5_turnedX_1 : decode cX5_turnedX 1 = .ok (.tableswitch 35 0 2 #[27, 29, 32], 27) := by decide +kernel
theorem dX5_turnedX_28 : decode cX5_turnedX 28 = .ok (.iload_n 1, 1) := by decide +kernel
theorem dX5_turnedX_29 : decode cX5_turnedX 29 = .ok (.ireturn, 1) := by decide +kernel
theorem dX5_turnedX_30 : decode cX5_turnedX 30 = .ok (.iload_n 2, 1) := by decide +kernel
theorem dX5_turnedX_31 : decode cX5_turnedX 31 = .ok (.ineg, 1) := by decide +kernel
theorem dX5_turnedX_32 : decode cX5_turnedX 32 = .ok (.ireturn, 1) := by decide +kernel
theorem dX5_turnedX_33 : decode cX5_turnedX 33 = .ok (.iload_n 1, 1) := by decide +kernel
theorem dX5_turnedX_34 : decode cX5_turnedX 34 = .ok (.ineg, 1) := by decide +kernel
theorem dX5_turnedX_35 : decode cX5_turnedX 35 = .ok (.ireturn, 1) := by decide +kernel
theorem dX5_turnedX_36 : decode cX5_turnedX 36 = .ok (.iload_n 2, 1) := by decide +kernel
theorem dX5_turnedX_37 : decode cX5_turnedX 37 = .ok (.ireturn, 1) := by decide +kernel
theorem dX5_turnedY_0 : decode cX5_turnedY 0 = .ok (.iload_n 0, 1) := by decide +kernel
theorem dX5_turnedY_1 : decode cX5_turnedY 1 = .ok (.tableswitch 34 0 2 #[27, 29, 31], 27) := by decide +kernel
theorem dX5_turnedY_28 : decode cX5_turnedY 28 = .ok (.iload_n 2, 1) := by decide +kernel
theorem dX5_turnedY_29 : decode cX5_turnedY 29 = .ok (.ireturn, 1) := by decide +kernel
theorem dX5_turnedY_30 : decode cX5_turnedY 30 = .ok (.iload_n 1, 1) := by decide +kernel
theorem dX5_turnedY_31 : decode cX5_turnedY 31 = .ok (.ireturn, 1) := by decide +kernel
theorem dX5_turnedY_32 : decode cX5_turnedY 32 = .ok (.iload_n 2, 1) := by decide +kernel
theorem dX5_turnedY_33 : decode cX5_turnedY 33 = .ok (.ineg, 1) := by decide +kernel
theorem dX5_turnedY_34 : decode cX5_turnedY 34 = .ok (.ireturn, 1) := by decide +kernel
theorem dX5_turnedY_35 : decode cX5_turnedY 35 = .ok (.iload_n 1, 1) := by decide +kernel
theorem dX5_turnedY_36 : decode cX5_turnedY 36 = .ok (.ineg, 1) := by decide +kernel
theorem dX5_turnedY_37 : decode cX5_turnedY 37 = .ok (.ireturn, 1) := by decide +kernel
theorem dX5_exchanged_0 : decode cX5_exchanged 0 = .ok (.iload_n 1, 1) := by decide +kernel
theorem dX5_exchanged_1 : decode cX5_exchanged 1 = .ok (.ifCond .ne 8, 3) := by decide +kernel
theorem dX5_exchanged_4 : decode cX5_exchanged 4 = .ok (.bipush 10, 2) := by decide +kernel
theorem dX5_exchanged_6 : decode cX5_exchanged 6 = .ok (.goto 4, 3) := by decide +kernel
theorem dX5_exchanged_9 : decode cX5_exchanged 9 = .ok (.iconst 1, 1) := by decide +kernel
theorem dX5_exchanged_10 : decode cX5_exchanged 10 = .ok (.istore_n 2, 1) := by decide +kernel
theorem dX5_exchanged_11 : decode cX5_exchanged 11 = .ok (.iload_n 0, 1) := by decide +kernel
theorem dX5_exchanged_12 : decode cX5_exchanged 12 = .ok (.bipush 10, 2) := by decide +kernel
theorem dX5_exchanged_14 : decode cX5_exchanged 14 = .ok (.iload_n 2, 1) := by decide +kernel
theorem dX5_exchanged_15 : decode cX5_exchanged 15 = .ok (.imul, 1) := by decide +kernel
theorem dX5_exchanged_16 : decode cX5_exchanged 16 = .ok (.idiv, 1) := by decide +kernel
theorem dX5_exchanged_17 : decode cX5_exchanged 17 = .ok (.bipush 10, 2) := by decide +kernel
theorem dX5_exchanged_19 : decode cX5_exchanged 19 = .ok (.irem, 1) := by decide +kernel
theorem dX5_exchanged_20 : decode cX5_exchanged 20 = .ok (.istore_n 3, 1) := by decide +kernel
theorem dX5_exchanged_21 : decode cX5_exchanged 21 = .ok (.iload_n 0, 1) := by decide +kernel
theorem dX5_exchanged_22 : decode cX5_exchanged 22 = .ok (.iload_n 2, 1) := by decide +kernel
theorem dX5_exchanged_23 : decode cX5_exchanged 23 = .ok (.idiv, 1) := by decide +kernel
theorem dX5_exchanged_24 : decode cX5_exchanged 24 = .ok (.bipush 10, 2) := by decide +kernel
theorem dX5_exchanged_26 : decode cX5_exchanged 26 = .ok (.irem, 1) := by decide +kernel
theorem dX5_exchanged_27 : decode cX5_exchanged 27 = .ok (.istore 4, 2) := by decide +kernel
theorem dX5_exchanged_29 : decode cX5_exchanged 29 = .ok (.iload_n 0, 1) := by decide +kernel
theorem dX5_exchanged_30 : decode cX5_exchanged 30 = .ok (.iload 4, 2) := by decide +kernel
theorem dX5_exchanged_32 : decode cX5_exchanged 32 = .ok (.iload_n 3, 1) := by decide +kernel
theorem dX5_exchanged_33 : decode cX5_exchanged 33 = .ok (.isub, 1) := by decide +kernel
theorem dX5_exchanged_34 : decode cX5_exchanged 34 = .ok (.bipush 9, 2) := by decide +kernel
theorem dX5_exchanged_36 : decode cX5_exchanged 36 = .ok (.imul, 1) := by decide +kernel
theorem dX5_exchanged_37 : decode cX5_exchanged 37 = .ok (.iload_n 2, 1) := by decide +kernel
theorem dX5_exchanged_38 : decode cX5_exchanged 38 = .ok (.imul, 1) := by decide +kernel
theorem dX5_exchanged_39 : decode cX5_exchanged 39 = .ok (.iadd, 1) := by decide +kernel
theorem dX5_exchanged_40 : decode cX5_exchanged 40 = .ok (.ireturn, 1) := by decide +kernel
theorem dX5_commonPart_0 : decode cX5_commonPart 0 = .ok (.iload_n 0, 1) := by decide +kernel
theorem dX5_commonPart_1 : decode cX5_commonPart 1 = .ok (.istore_n 2, 1) := by decide +kernel
theorem dX5_commonPart_2 : decode cX5_commonPart 2 = .ok (.iload_n 1, 1) := by decide +kernel
theorem dX5_commonPart_3 : decode cX5_commonPart 3 = .ok (.istore_n 3, 1) := by decide +kernel
theorem dX5_commonPart_4 : decode cX5_commonPart 4 = .ok (.iconst 0, 1) := by decide +kernel
theorem dX5_commonPart_5 : decode cX5_commonPart 5 = .ok (.istore 4, 2) := by decide +kernel
theorem dX5_commonPart_7 : decode cX5_commonPart 7 = .ok (.iload 4, 2) := by decide +kernel
theorem dX5_commonPart_9 : decode cX5_commonPart 9 = .ok (.bipush 64, 2) := by decide +kernel
theorem dX5_commonPart_11 : decode cX5_commonPart 11 = .ok (.if_icmp .ge 23, 3) := by decide +kernel
theorem dX5_commonPart_14 : decode cX5_commonPart 14 = .ok (.iload_n 3, 1) := by decide +kernel
theorem dX5_commonPart_15 : decode cX5_commonPart 15 = .ok (.ifCond .eq 19, 3) := by decide +kernel
theorem dX5_commonPart_18 : decode cX5_commonPart 18 = .ok (.iload_n 2, 1) := by decide +kernel
theorem dX5_commonPart_19 : decode cX5_commonPart 19 = .ok (.iload_n 3, 1) := by decide +kernel
theorem dX5_commonPart_20 : decode cX5_commonPart 20 = .ok (.irem, 1) := by decide +kernel
theorem dX5_commonPart_21 : decode cX5_commonPart 21 = .ok (.istore 5, 2) := by decide +kernel
theorem dX5_commonPart_23 : decode cX5_commonPart 23 = .ok (.iload_n 3, 1) := by decide +kernel
theorem dX5_commonPart_24 : decode cX5_commonPart 24 = .ok (.istore_n 2, 1) := by decide +kernel
theorem dX5_commonPart_25 : decode cX5_commonPart 25 = .ok (.iload 5, 2) := by decide +kernel
theorem dX5_commonPart_27 : decode cX5_commonPart 27 = .ok (.istore_n 3, 1) := by decide +kernel
theorem dX5_commonPart_28 : decode cX5_commonPart 28 = .ok (.iinc 4 1, 3) := by decide +kernel
theorem dX5_commonPart_31 : decode cX5_commonPart 31 = .ok (.goto (-24), 3) := by decide +kernel
theorem dX5_commonPart_34 : decode cX5_commonPart 34 = .ok (.iconst 1, 1) := by decide +kernel
theorem dX5_commonPart_35 : decode cX5_commonPart 35 = .ok (.iload_n 2, 1) := by decide +kernel
theorem dX5_commonPart_36 : decode cX5_commonPart 36 = .ok (.invokestatic 217, 3) := by decide +kernel
theorem dX5_commonPart_39 : decode cX5_commonPart 39 = .ok (.ireturn, 1) := by decide +kernel
theorem dX6_init_0 : decode cX6_init 0 = .ok (.aload_n 0, 1) := by decide +kernel
theorem dX6_init_1 : decode cX6_init 1 = .ok (.invokespecial 1, 3) := by decide +kernel
theorem dX6_init_4 : decode cX6_init 4 = .ok (.aload_n 0, 1) := by decide +kernel
theorem dX6_init_5 : decode cX6_init 5 = .ok (.iconst 3, 1) := by decide +kernel
theorem dX6_init_6 : decode cX6_init 6 = .ok (.putfield 7, 3) := by decide +kernel
theorem dX6_init_9 : decode cX6_init 9 = .ok (.aload_n 0, 1) := by decide +kernel
theorem dX6_init_10 : decode cX6_init 10 = .ok (.iconst 5, 1) := by decide +kernel
theorem dX6_init_11 : decode cX6_init 11 = .ok (.newarray .int, 2) := by decide +kernel
theorem dX6_init_13 : decode cX6_init 13 = .ok (.putfield 13, 3) := by decide +kernel
theorem dX6_init_16 : decode cX6_init 16 = .ok (.aload_n 0, 1) := by decide +kernel
theorem dX6_init_17 : decode cX6_init 17 = .ok (.iconst 5, 1) := by decide +kernel
theorem dX6_init_18 : decode cX6_init 18 = .ok (.newarray .int, 2) := by decide +kernel
theorem dX6_init_20 : decode cX6_init 20 = .ok (.putfield 17, 3) := by decide +kernel
theorem dX6_init_23 : decode cX6_init 23 = .ok (.aload_n 0, 1) := by decide +kernel
theorem dX6_init_24 : decode cX6_init 24 = .ok (.bipush 40, 2) := by decide +kernel
theorem dX6_init_26 : decode cX6_init 26 = .ok (.newarray .int, 2) := by decide +kernel
theorem dX6_init_28 : decode cX6_init 28 = .ok (.putfield 20, 3) := by decide +kernel
theorem dX6_init_31 : decode cX6_init 31 = .ok (.aload_n 0, 1) := by decide +kernel
theorem dX6_init_32 : decode cX6_init 32 = .ok (.bipush 40, 2) := by decide +kernel
theorem dX6_init_34 : decode cX6_init 34 = .ok (.newarray .int, 2) := by decide +kernel
theorem dX6_init_36 : decode cX6_init 36 = .ok (.putfield 23, 3) := by decide +kernel
theorem dX6_init_39 : decode cX6_init 39 = .ok (.aload_n 0, 1) := by decide +kernel
theorem dX6_init_40 : decode cX6_init 40 = .ok (.bipush 25, 2) := by decide +kernel
theorem dX6_init_42 : decode cX6_init 42 = .ok (.newarray .boolean, 2) := by decide +kernel
theorem dX6_init_44 : decode cX6_init 44 = .ok (.putfield 26, 3) := by decide +kernel
theorem dX6_init_47 : decode cX6_init 47 = .ok (.aload_n 0, 1) := by decide +kernel
theorem dX6_init_48 : decode cX6_init 48 = .ok (.sipush 150, 3) := by decide +kernel
theorem dX6_init_51 : decode cX6_init 51 = .ok (.newarray .int, 2) := by decide +kernel
theorem dX6_init_53 : decode cX6_init 53 = .ok (.putfield 30, 3) := by decide +kernel
theorem dX6_init_56 : decode cX6_init 56 = .ok (.aload_n 0, 1) := by decide +kernel
theorem dX6_init_57 : decode cX6_init 57 = .ok (.sipush 200, 3) := by decide +kernel
theorem dX6_init_60 : decode cX6_init 60 = .ok (.newarray .int, 2) := by decide +kernel
theorem dX6_init_62 : decode cX6_init 62 = .ok (.putfield 33, 3) := by decide +kernel
theorem dX6_init_65 : decode cX6_init 65 = .ok (.aload_n 0, 1) := by decide +kernel
theorem dX6_init_66 : decode cX6_init 66 = .ok (.bipush 8, 2) := by decide +kernel
theorem dX6_init_68 : decode cX6_init 68 = .ok (.newarray .int, 2) := by decide +kernel
theorem dX6_init_70 : decode cX6_init 70 = .ok (.putfield 36, 3) := by decide +kernel
theorem dX6_init_73 : decode cX6_init 73 = .ok (.aload_n 0, 1) := by decide +kernel
theorem dX6_init_74 : decode cX6_init 74 = .ok (.bipush 8, 2) := by decide +kernel
theorem dX6_init_76 : decode cX6_init 76 = .ok (.newarray .int, 2) := by decide +kernel
theorem dX6_init_78 : decode cX6_init 78 = .ok (.putfield 39, 3) := by decide +kernel
theorem dX6_init_81 : decode cX6_init 81 = .ok (.aload_n 0, 1) := by decide +kernel
theorem dX6_init_82 : decode cX6_init 82 = .ok (.sipush 2304, 3) := by decide +kernel
theorem dX6_init_85 : decode cX6_init 85 = .ok (.newarray .int, 2) := by decide +kernel
theorem dX6_init_87 : decode cX6_init 87 = .ok (.putfield 42, 3) := by decide +kernel
theorem dX6_init_90 : decode cX6_init 90 = .ok (.aload_n 0, 1) := by decide +kernel
theorem dX6_init_91 : decode cX6_init 91 = .ok (.bipush 8, 2) := by decide +kernel
theorem dX6_init_93 : decode cX6_init 93 = .ok (.newarray .int, 2) := by decide +kernel
theorem dX6_init_95 : decode cX6_init 95 = .ok (.putfield 45, 3) := by decide +kernel
theorem dX6_init_98 : decode cX6_init 98 = .ok (.return_, 1) := by decide +kernel
theorem dX6_isIn_0 : decode cX6_isIn 0 = .ok (.iload_n 0, 1) := by decide +kernel
theorem dX6_isIn_1 : decode cX6_isIn 1 = .ok (.iload_n 1, 1) := by decide +kernel
theorem dX6_isIn_2 : decode cX6_isIn 2 = .ok (.if_icmp .lt 12, 3) := by decide +kernel
theorem dX6_isIn_5 : decode cX6_isIn 5 = .ok (.iload_n 0, 1) := by decide +kernel
theorem dX6_isIn_6 : decode cX6_isIn 6 = .ok (.iload_n 2, 1) := by decide +kernel
theorem dX6_isIn_7 : decode cX6_isIn 7 = .ok (.if_icmp .gt 7, 3) := by decide +kernel
theorem dX6_isIn_10 : decode cX6_isIn 10 = .ok (.iconst 1, 1) := by decide +kernel
theorem dX6_isIn_11 : decode cX6_isIn 11 = .ok (.goto 4, 3) := by decide +kernel
theorem dX6_isIn_14 : decode cX6_isIn 14 = .ok (.iconst 0, 1) := by decide +kernel
theorem dX6_isIn_15 : decode cX6_isIn 15 = .ok (.ireturn, 1) := by decide +kernel
theorem dX6_isPlate_0 : decode cX6_isPlate 0 = .ok (.iload_n 1, 1) := by decide +kernel
theorem dX6_isPlate_1 : decode cX6_isPlate 1 = .ok (.iconst 0, 1) := by decide +kernel
theorem dX6_isPlate_2 : decode cX6_isPlate 2 = .ok (.aload_n 0, 1) := by decide +kernel
theorem dX6_isPlate_3 : decode cX6_isPlate 3 = .ok (.getfield 48, 3) := by decide +kernel
theorem dX6_isPlate_6 : decode cX6_isPlate 6 = .ok (.iconst 1, 1) := by decide +kernel
theorem dX6_isPlate_7 : decode cX6_isPlate 7 = .ok (.isub, 1) := by decide +kernel
theorem dX6_isPlate_8 : decode cX6_isPlate 8 = .ok (.invokestatic 51, 3) := by decide +kernel
theorem dX6_isPlate_11 : decode cX6_isPlate 11 = .ok (.ireturn, 1) := by decide +kernel
theorem dX6_forgets_0 : decode cX6_forgets 0 = .ok (.iconst 0, 1) := by decide +kernel
theorem dX6_forgets_1 : decode cX6_forgets 1 = .ok (.istore_n 1, 1) := by decide +kernel
theorem dX6_forgets_2 : decode cX6_forgets 2 = .ok (.iload_n 1, 1) := by decide +kernel
theorem dX6_forgets_3 : decode cX6_forgets 3 = .ok (.bipush 25, 2) := by decide +kernel
theorem dX6_forgets_5 : decode cX6_forgets 5 = .ok (.if_icmp .ge 16, 3) := by decide +kernel
theorem dX6_forgets_8 : decode cX6_forgets 8 = .ok (.aload_n 0, 1) := by decide +kernel
theorem dX6_forgets_9 : decode cX6_forgets 9 = .ok (.getfield 26, 3) := by decide +kernel
theorem dX6_forgets_12 : decode cX6_forgets 12 = .ok (.iload_n 1, 1) := by decide +kernel
theorem dX6_forgets_13 : decode cX6_forgets 13 = .ok (.iconst 0, 1) := by decide +kernel
theorem dX6_forgets_14 : decode cX6_forgets 14 = .ok (.bastore, 1) := by decide +kernel
theorem dX6_forgets_15 : decode cX6_forgets 15 = .ok (.iinc 1 1, 3) := by decide +kernel
theorem dX6_forgets_18 : decode cX6_forgets 18 = .ok (.goto (-16), 3) := by decide +kernel
theorem dX6_forgets_21 : decode cX6_forgets 21 = .ok (.return_, 1) := by decide +kernel
theorem dX6_plate_0 : decode cX6_plate 0 = .ok (.iload_n 1, 1) := by decide +kernel
theorem dX6_plate_1 : decode cX6_plate 1 = .ok (.iconst 0, 1) := by decide +kernel
theorem dX6_plate_2 : decode cX6_plate 2 = .ok (.sipush 999, 3) := by decide +kernel
theorem dX6_plate_5 : decode cX6_plate 5 = .ok (.invokestatic 51, 3) := by decide +kernel
theorem dX6_plate_8 : decode cX6_plate 8 = .ok (.ifCond .eq 11, 3) := by decide +kernel
theorem dX6_plate_11 : decode cX6_plate 11 = .ok (.aload_n 0, 1) := by decide +kernel
theorem dX6_plate_12 : decode cX6_plate 12 = .ok (.getfield 48, 3) := by decide +kernel
theorem dX6_plate_15 : decode cX6_plate 15 = .ok (.iconst 5, 1) := by decide +kernel
theorem dX6_plate_16 : decode cX6_plate 16 = .ok (.if_icmp .ne 5, 3) := by decide +kernel
theorem dX6_plate_19 : decode cX6_plate 19 = .ok (.iconst (-1), 1) := by decide +kernel
theorem dX6_plate_20 : decode cX6_plate 20 = .ok (.ireturn, 1) := by decide +kernel
theorem dX6_plate_21 : decode cX6_plate 21 = .ok (.iconst 0, 1) := by decide +kernel
theorem dX6_plate_22 : decode cX6_plate 22 = .ok (.istore_n 2, 1) := by decide +kernel
theorem dX6_plate_23 : decode cX6_plate 23 = .ok (.iload_n 2, 1) := by decide +kernel
theorem dX6_plate_24 : decode cX6_plate 24 = .ok (.aload_n 0, 1) := by decide +kernel
theorem dX6_plate_25 : decode cX6_plate 25 = .ok (.getfield 48, 3) := by decide +kernel
theorem dX6_plate_28 : decode cX6_plate 28 = .ok (.if_icmp .ge 21, 3) := by decide +kernel
theorem dX6_plate_31 : decode cX6_plate 31 = .ok (.aload_n 0, 1) := by decide +kernel
theorem dX6_plate_32 : decode cX6_plate 32 = .ok (.getfield 13, 3) := by decide +kernel
theorem dX6_plate_35 : decode cX6_plate 35 = .ok (.iload_n 2, 1) := by decide +kernel
theorem dX6_plate_36 : decode cX6_plate 36 = .ok (.iaload, 1) := by decide +kernel
theorem dX6_plate_37 : decode cX6_plate 37 = .ok (.iload_n 1, 1) := by decide +kernel
theorem dX6_plate_38 : decode cX6_plate 38 = .ok (.if_icmp .ne 5, 3) := by decide +kernel
theorem dX6_plate_41 : decode cX6_plate 41 = .ok (.iconst (-1), 1) := by decide +kernel
theorem dX6_plate_42 : decode cX6_plate 42 = .ok (.ireturn, 1) := by decide +kernel
theorem dX6_plate_43 : decode cX6_plate 43 = .ok (.iinc 2 1, 3) := by decide +kernel
