theorem dX7_ruled_121 : decode cX7_ruled 121 = .ok (.iload_n 1, 1) := by decide +kernel
theorem dX7_ruled_122 : decode cX7_ruled 122 = .ok (.iconst 1, 1) := by decide +kernel
theorem dX7_ruled_123 : decode cX7_ruled 123 = .ok (.if_icmp .ne 7, 3) := by decide +kernel
theorem dX7_ruled_126 : decode cX7_ruled 126 = .ok (.iconst 1, 1) := by decide +kernel
theorem dX7_ruled_127 : decode cX7_ruled 127 = .ok (.goto 4, 3) := by decide +kernel
theorem dX7_ruled_130 : decode cX7_ruled 130 = .ok (.iconst 3, 1) := by decide +kernel
theorem dX7_ruled_131 : decode cX7_ruled 131 = .ok (.ireturn, 1) := by decide +kernel
theorem dX7_turns_0 : decode cX7_turns 0 = .ok (.aload_n 0, 1) := by decide +kernel
theorem dX7_turns_1 : decode cX7_turns 1 = .ok (.getfield 7, 3) := by decide +kernel
theorem dX7_turns_4 : decode cX7_turns 4 = .ok (.bipush 10, 2) := by decide +kernel
theorem dX7_turns_6 : decode cX7_turns 6 = .ok (.iaload, 1) := by decide +kernel
theorem dX7_turns_7 : decode cX7_turns 7 = .ok (.iconst 1, 1) := by decide +kernel
theorem dX7_turns_8 : decode cX7_turns 8 = .ok (.if_icmp .le 22, 3) := by decide +kernel
theorem dX7_turns_11 : decode cX7_turns 11 = .ok (.aload_n 0, 1) := by decide +kernel
theorem dX7_turns_12 : decode cX7_turns 12 = .ok (.aload_n 0, 1) := by decide +kernel
theorem dX7_turns_13 : decode cX7_turns 13 = .ok (.iconst 0, 1) := by decide +kernel
theorem dX7_turns_14 : decode cX7_turns 14 = .ok (.iconst 1, 1) := by decide +kernel
theorem dX7_turns_15 : decode cX7_turns 15 = .ok (.invokevirtual 78, 3) := by decide +kernel
theorem dX7_turns_18 : decode cX7_turns 18 = .ok (.aload_n 0, 1) := by decide +kernel
theorem dX7_turns_19 : decode cX7_turns 19 = .ok (.iconst 1, 1) := by decide +kernel
theorem dX7_turns_20 : decode cX7_turns 20 = .ok (.iconst 1, 1) := by decide +kernel
theorem dX7_turns_21 : decode cX7_turns 21 = .ok (.invokevirtual 78, 3) := by decide +kernel
theorem dX7_turns_24 : decode cX7_turns 24 = .ok (.invokevirtual 81, 3) := by decide +kernel
theorem dX7_turns_27 : decode cX7_turns 27 = .ok (.goto 4, 3) := by decide +kernel
theorem dX7_turns_30 : decode cX7_turns 30 = .ok (.iconst 0, 1) := by decide +kernel
theorem dX7_turns_31 : decode cX7_turns 31 = .ok (.istore_n 1, 1) := by decide +kernel
theorem dX7_turns_32 : decode cX7_turns 32 = .ok (.iload_n 1, 1) := by decide +kernel
theorem dX7_turns_33 : decode cX7_turns 33 = .ok (.aload_n 0, 1) := by decide +kernel
theorem dX7_turns_34 : decode cX7_turns 34 = .ok (.getfield 7, 3) := by decide +kernel
theorem dX7_turns_37 : decode cX7_turns 37 = .ok (.bipush 17, 2) := by decide +kernel
theorem dX7_turns_39 : decode cX7_turns 39 = .ok (.iaload, 1) := by decide +kernel
theorem dX7_turns_40 : decode cX7_turns 40 = .ok (.if_icmp .le 15, 3) := by decide +kernel
theorem dX7_turns_43 : decode cX7_turns 43 = .ok (.iload_n 1, 1) := by decide +kernel
theorem dX7_turns_44 : decode cX7_turns 44 = .ok (.aload_n 0, 1) := by decide +kernel
theorem dX7_turns_45 : decode cX7_turns 45 = .ok (.getfield 7, 3) := by decide +kernel
theorem dX7_turns_48 : decode cX7_turns 48 = .ok (.bipush 17, 2) := by decide +kernel
theorem dX7_turns_50 : decode cX7_turns 50 = .ok (.iaload, 1) := by decide +kernel
theorem dX7_turns_51 : decode cX7_turns 51 = .ok (.isub, 1) := by decide +kernel
theorem dX7_turns_52 : decode cX7_turns 52 = .ok (.goto 12, 3) := by decide +kernel
theorem dX7_turns_55 : decode cX7_turns 55 = .ok (.aload_n 0, 1) := by decide +kernel
theorem dX7_turns_56 : decode cX7_turns 56 = .ok (.getfield 7, 3) := by decide +kernel
theorem dX7_turns_59 : decode cX7_turns 59 = .ok (.bipush 17, 2) := by decide +kernel
theorem dX7_turns_61 : decode cX7_turns 61 = .ok (.iaload, 1) := by decide +kernel
theorem dX7_turns_62 : decode cX7_turns 62 = .ok (.iload_n 1, 1) := by decide +kernel
theorem dX7_turns_63 : decode cX7_turns 63 = .ok (.isub, 1) := by decide +kernel
theorem dX7_turns_64 : decode cX7_turns 64 = .ok (.istore_n 2, 1) := by decide +kernel
theorem dX7_turns_65 : decode cX7_turns 65 = .ok (.aload_n 0, 1) := by decide +kernel
theorem dX7_turns_66 : decode cX7_turns 66 = .ok (.getfield 7, 3) := by decide +kernel
theorem dX7_turns_69 : decode cX7_turns 69 = .ok (.bipush 7, 2) := by decide +kernel
theorem dX7_turns_71 : decode cX7_turns 71 = .ok (.iaload, 1) := by decide +kernel
theorem dX7_turns_72 : decode cX7_turns 72 = .ok (.istore_n 3, 1) := by decide +kernel
theorem dX7_turns_73 : decode cX7_turns 73 = .ok (.aload_n 0, 1) := by decide +kernel
theorem dX7_turns_74 : decode cX7_turns 74 = .ok (.getfield 7, 3) := by decide +kernel
theorem dX7_turns_77 : decode cX7_turns 77 = .ok (.bipush 7, 2) := by decide +kernel
theorem dX7_turns_79 : decode cX7_turns 79 = .ok (.iload_n 3, 1) := by decide +kernel
theorem dX7_turns_80 : decode cX7_turns 80 = .ok (.aload_n 0, 1) := by decide +kernel
theorem dX7_turns_81 : decode cX7_turns 81 = .ok (.getfield 7, 3) := by decide +kernel
theorem dX7_turns_84 : decode cX7_turns 84 = .ok (.bipush 10, 2) := by decide +kernel
theorem dX7_turns_86 : decode cX7_turns 86 = .ok (.iaload, 1) := by decide +kernel
theorem dX7_turns_87 : decode cX7_turns 87 = .ok (.aload_n 0, 1) := by decide +kernel
theorem dX7_turns_88 : decode cX7_turns 88 = .ok (.iconst 0, 1) := by decide +kernel
theorem dX7_turns_89 : decode cX7_turns 89 = .ok (.iconst 4, 1) := by decide +kernel
theorem dX7_turns_90 : decode cX7_turns 90 = .ok (.invokevirtual 78, 3) := by decide +kernel
theorem dX7_turns_93 : decode cX7_turns 93 = .ok (.iload_n 2, 1) := by decide +kernel
theorem dX7_turns_94 : decode cX7_turns 94 = .ok (.invokestatic 96, 3) := by decide +kernel
theorem dX7_turns_97 : decode cX7_turns 97 = .ok (.iastore, 1) := by decide +kernel
theorem dX7_turns_98 : decode cX7_turns 98 = .ok (.aload_n 0, 1) := by decide +kernel
theorem dX7_turns_99 : decode cX7_turns 99 = .ok (.getfield 7, 3) := by decide +kernel
theorem dX7_turns_102 : decode cX7_turns 102 = .ok (.bipush 17, 2) := by decide +kernel
theorem dX7_turns_104 : decode cX7_turns 104 = .ok (.aload_n 0, 1) := by decide +kernel
theorem dX7_turns_105 : decode cX7_turns 105 = .ok (.getfield 7, 3) := by decide +kernel
theorem dX7_turns_108 : decode cX7_turns 108 = .ok (.bipush 7, 2) := by decide +kernel
theorem dX7_turns_110 : decode cX7_turns 110 = .ok (.iaload, 1) := by decide +kernel
theorem dX7_turns_111 : decode cX7_turns 111 = .ok (.iconst 3, 1) := by decide +kernel
theorem dX7_turns_112 : decode cX7_turns 112 = .ok (.if_icmp .ne 12, 3) := by decide +kernel
theorem dX7_turns_115 : decode cX7_turns 115 = .ok (.iload_n 3, 1) := by decide +kernel
theorem dX7_turns_116 : decode cX7_turns 116 = .ok (.iconst 3, 1) := by decide +kernel
theorem dX7_turns_117 : decode cX7_turns 117 = .ok (.if_icmp .eq 7, 3) := by decide +kernel
theorem dX7_turns_120 : decode cX7_turns 120 = .ok (.iload_n 1, 1) := by decide +kernel
theorem dX7_turns_121 : decode cX7_turns 121 = .ok (.goto 10, 3) := by decide +kernel
theorem dX7_turns_124 : decode cX7_turns 124 = .ok (.aload_n 0, 1) := by decide +kernel
theorem dX7_turns_125 : decode cX7_turns 125 = .ok (.getfield 7, 3) := by decide +kernel
theorem dX7_turns_128 : decode cX7_turns 128 = .ok (.bipush 17, 2) := by decide +kernel
theorem dX7_turns_130 : decode cX7_turns 130 = .ok (.iaload, 1) := by decide +kernel
theorem dX7_turns_131 : decode cX7_turns 131 = .ok (.iastore, 1) := by decide +kernel
theorem dX7_turns_132 : decode cX7_turns 132 = .ok (.return_, 1) := by decide +kernel
theorem dX7_passes_0 : decode cX7_passes 0 = .ok (.aload_n 0, 1) := by decide +kernel
theorem dX7_passes_1 : decode cX7_passes 1 = .ok (.invokevirtual 100, 3) := by decide +kernel
theorem dX7_passes_4 : decode cX7_passes 4 = .ok (.aload_n 0, 1) := by decide +kernel
theorem dX7_passes_5 : decode cX7_passes 5 = .ok (.invokevirtual 103, 3) := by decide +kernel
theorem dX7_passes_8 : decode cX7_passes 8 = .ok (.aload_n 0, 1) := by decide +kernel
theorem dX7_passes_9 : decode cX7_passes 9 = .ok (.invokevirtual 106, 3) := by decide +kernel
theorem dX7_passes_12 : decode cX7_passes 12 = .ok (.aload_n 0, 1) := by decide +kernel
theorem dX7_passes_13 : decode cX7_passes 13 = .ok (.invokevirtual 109, 3) := by decide +kernel
theorem dX7_passes_16 : decode cX7_passes 16 = .ok (.aload_n 0, 1) := by decide +kernel
theorem dX7_passes_17 : decode cX7_passes 17 = .ok (.getfield 7, 3) := by decide +kernel
theorem dX7_passes_20 : decode cX7_passes 20 = .ok (.bipush 6, 2) := by decide +kernel
theorem dX7_passes_22 : decode cX7_passes 22 = .ok (.dup2, 1) := by decide +kernel
theorem dX7_passes_23 : decode cX7_passes 23 = .ok (.iaload, 1) := by decide +kernel
theorem dX7_passes_24 : decode cX7_passes 24 = .ok (.iconst 1, 1) := by decide +kernel
theorem dX7_passes_25 : decode cX7_passes 25 = .ok (.iadd, 1) := by decide +kernel
theorem dX7_passes_26 : decode cX7_passes 26 = .ok (.iastore, 1) := by decide +kernel
theorem dX7_passes_27 : decode cX7_passes 27 = .ok (.aload_n 0, 1) := by decide +kernel
theorem dX7_passes_28 : decode cX7_passes 28 = .ok (.getfield 7, 3) := by decide +kernel
theorem dX7_passes_31 : decode cX7_passes 31 = .ok (.bipush 14, 2) := by decide +kernel
theorem dX7_passes_33 : decode cX7_passes 33 = .ok (.iconst 0, 1) := by decide +kernel
theorem dX7_passes_34 : decode cX7_passes 34 = .ok (.iastore, 1) := by decide +kernel
theorem dX7_passes_35 : decode cX7_passes 35 = .ok (.return_, 1) := by decide +kernel
theorem dX7_frame_0 : decode cX7_frame 0 = .ok (.iload_n 1, 1) := by decide +kernel
theorem dX7_frame_1 : decode cX7_frame 1 = .ok (.iconst 1, 1) := by decide +kernel
theorem dX7_frame_2 : decode cX7_frame 2 = .ok (.bipush 30, 2) := by decide +kernel
theorem dX7_frame_4 : decode cX7_frame 4 = .ok (.invokestatic 30, 3) := by decide +kernel
theorem dX7_frame_7 : decode cX7_frame 7 = .ok (.ifCond .ne 6, 3) := by decide +kernel
theorem dX7_frame_10 : decode cX7_frame 10 = .ok (.ldc 38, 2) := by decide +kernel
theorem dX7_frame_12 : decode cX7_frame 12 = .ok (.ireturn, 1) := by decide +kernel
theorem dX7_frame_13 : decode cX7_frame 13 = .ok (.aload_n 0, 1) := by decide +kernel
theorem dX7_frame_14 : decode cX7_frame 14 = .ok (.getfield 7, 3) := by decide +kernel
theorem dX7_frame_17 : decode cX7_frame 17 = .ok (.bipush 6, 2) := by decide +kernel
theorem dX7_frame_19 : decode cX7_frame 19 = .ok (.iaload, 1) := by decide +kernel
theorem dX7_frame_20 : decode cX7_frame 20 = .ok (.sipush 9000, 3) := by decide +kernel
theorem dX7_frame_23 : decode cX7_frame 23 = .ok (.if_icmp .le 6, 3) := by decide +kernel
theorem dX7_frame_26 : decode cX7_frame 26 = .ok (.ldc 112, 2) := by decide +kernel
theorem dX7_frame_28 : decode cX7_frame 28 = .ok (.ireturn, 1) := by decide +kernel
theorem dX7_frame_29 : decode cX7_frame 29 = .ok (.iconst 0, 1) := by decide +kernel
theorem dX7_frame_30 : decode cX7_frame 30 = .ok (.istore_n 2, 1) := by decide +kernel
theorem dX7_frame_31 : decode cX7_frame 31 = .ok (.iload_n 2, 1) := by decide +kernel
theorem dX7_frame_32 : decode cX7_frame 32 = .ok (.iload_n 1, 1) := by decide +kernel
theorem dX7_frame_33 : decode cX7_frame 33 = .ok (.if_icmp .ge 13, 3) := by decide +kernel
theorem dX7_frame_36 : decode cX7_frame 36 = .ok (.aload_n 0, 1) := by decide +kernel
theorem dX7_frame_37 : decode cX7_frame 37 = .ok (.invokevirtual 113, 3) := by decide +kernel
theorem dX7_frame_40 : decode cX7_frame 40 = .ok (.iinc 2 1, 3) := by decide +kernel
theorem dX7_frame_43 : decode cX7_frame 43 = .ok (.goto (-12), 3) := by decide +kernel
theorem dX7_frame_46 : decode cX7_frame 46 = .ok (.aload_n 0, 1) := by decide +kernel
theorem dX7_frame_47 : decode cX7_frame 47 = .ok (.getfield 7, 3) := by decide +kernel
theorem dX7_frame_50 : decode cX7_frame 50 = .ok (.bipush 7, 2) := by decide +kernel
theorem dX7_frame_52 : decode cX7_frame 52 = .ok (.iaload, 1) := by decide +kernel
theorem dX7_frame_53 : decode cX7_frame 53 = .ok (.ireturn, 1) := by decide +kernel
theorem dX7_lotOf_0 : decode cX7_lotOf 0 = .ok (.aload_n 0, 1) := by decide +kernel
theorem dX7_lotOf_1 : decode cX7_lotOf 1 = .ok (.aload_n 0, 1) := by decide +kernel
theorem dX7_lotOf_2 : decode cX7_lotOf 2 = .ok (.getfield 116, 3) := by decide +kernel
theorem dX7_lotOf_5 : decode cX7_lotOf 5 = .ok (.ldc2_w 120, 3) := by decide +kernel
theorem dX7_lotOf_8 : decode cX7_lotOf 8 = .ok (.lmul, 1) := by decide +kernel
theorem dX7_lotOf_9 : decode cX7_lotOf 9 = .ok (.ldc2_w 122, 3) := by decide +kernel
theorem dX7_lotOf_12 : decode cX7_lotOf 12 = .ok (.lrem, 1) := by decide +kernel
theorem dX7_lotOf_13 : decode cX7_lotOf 13 = .ok (.putfield 116, 3) := by decide +kernel
theorem dX7_lotOf_16 : decode cX7_lotOf 16 = .ok (.aload_n 0, 1) := by decide +kernel
theorem dX7_lotOf_17 : decode cX7_lotOf 17 = .ok (.getfield 116, 3) := by decide +kernel
theorem dX7_lotOf_20 : decode cX7_lotOf 20 = .ok (.iload_n 1, 1) := by decide +kernel
theorem dX7_lotOf_21 : decode cX7_lotOf 21 = .ok (.i2l, 1) := by decide +kernel
theorem dX7_lotOf_22 : decode cX7_lotOf 22 = .ok (.lrem, 1) := by decide +kernel
theorem dX7_lotOf_23 : decode cX7_lotOf 23 = .ok (.l2i, 1) := by decide +kernel
theorem dX7_lotOf_24 : decode cX7_lotOf 24 = .ok (.ireturn, 1) := by decide +kernel
theorem dX7_drift_0 : decode cX7_drift 0 = .ok (.iload_n 1, 1) := by decide +kernel
theorem dX7_drift_1 : decode cX7_drift 1 = .ok (.iconst 1, 1) := by decide +kernel
theorem dX7_drift_2 : decode cX7_drift 2 = .ok (.bipush 30, 2) := by decide +kernel
theorem dX7_drift_4 : decode cX7_drift 4 = .ok (.invokestatic 30, 3) := by decide +kernel
theorem dX7_drift_7 : decode cX7_drift 7 = .ok (.ifCond .eq 13, 3) := by decide +kernel
theorem dX7_drift_10 : decode cX7_drift 10 = .ok (.iload_n 2, 1) := by decide +kernel
theorem dX7_drift_11 : decode cX7_drift 11 = .ok (.iconst 1, 1) := by decide +kernel
theorem dX7_drift_12 : decode cX7_drift 12 = .ok (.ldc 124, 2) := by decide +kernel
theorem dX7_drift_14 : decode cX7_drift 14 = .ok (.invokestatic 30, 3) := by decide +kernel
theorem dX7_drift_17 : decode cX7_drift 17 = .ok (.ifCond .ne 6, 3) := by decide +kernel
theorem dX7_drift_20 : decode cX7_drift 20 = .ok (.ldc 38, 2) := by decide +kernel
theorem dX7_drift_22 : decode cX7_drift 22 = .ok (.ireturn, 1) := by decide +kernel
theorem dX7_drift_23 : decode cX7_drift 23 = .ok (.aload_n 0, 1) := by decide +kernel
theorem dX7_drift_24 : decode cX7_drift 24 = .ok (.getfield 7, 3) := by decide +kernel
theorem dX7_drift_27 : decode cX7_drift 27 = .ok (.bipush 6, 2) := by decide +kernel
theorem dX7_drift_29 : decode cX7_drift 29 = .ok (.iaload, 1) := by decide +kernel
theorem dX7_drift_30 : decode cX7_drift 30 = .ok (.sipush 9000, 3) := by decide +kernel
theorem dX7_drift_33 : decode cX7_drift 33 = .ok (.if_icmp .le 6, 3) := by decide +kernel
theorem dX7_drift_36 : decode cX7_drift 36 = .ok (.ldc 112, 2) := by decide +kernel
theorem dX7_drift_38 : decode cX7_drift 38 = .ok (.ireturn, 1) := by decide +kernel
theorem dX7_drift_39 : decode cX7_drift 39 = .ok (.aload_n 0, 1) := by decide +kernel
theorem dX7_drift_40 : decode cX7_drift 40 = .ok (.iload_n 2, 1) := by decide +kernel
theorem dX7_drift_41 : decode cX7_drift 41 = .ok (.i2l, 1) := by decide +kernel
theorem dX7_drift_42 : decode cX7_drift 42 = .ok (.putfield 116, 3) := by decide +kernel
theorem dX7_drift_45 : decode cX7_drift 45 = .ok (.iconst 0, 1) := by decide +kernel
theorem dX7_drift_46 : decode cX7_drift 46 = .ok (.istore_n 3, 1) := by decide +kernel
theorem dX7_drift_47 : decode cX7_drift 47 = .ok (.iload_n 3, 1) := by decide +kernel
theorem dX7_drift_48 : decode cX7_drift 48 = .ok (.iload_n 1, 1) := by decide +kernel
theorem dX7_drift_49 : decode cX7_drift 49 = .ok (.if_icmp .ge 134, 3) := by decide +kernel
theorem dX7_drift_52 : decode cX7_drift 52 = .ok (.aload_n 0, 1) := by decide +kernel
theorem dX7_drift_53 : decode cX7_drift 53 = .ok (.iconst 4, 1) := by decide +kernel
theorem dX7_drift_54 : decode cX7_drift 54 = .ok (.invokevirtual 125, 3) := by decide +kernel
theorem dX7_drift_57 : decode cX7_drift 57 = .ok (.istore 4, 2) := by decide +kernel
theorem dX7_drift_59 : decode cX7_drift 59 = .ok (.iload 4, 2) := by decide +kernel
theorem dX7_drift_61 : decode cX7_drift 61 = .ok (.ifCond .ne 11, 3) := by decide +kernel
theorem dX7_drift_64 : decode cX7_drift 64 = .ok (.aload_n 0, 1) := by decide +kernel
theorem dX7_drift_65 : decode cX7_drift 65 = .ok (.invokevirtual 128, 3) := by decide +kernel
theorem dX7_drift_68 : decode cX7_drift 68 = .ok (.pop, 1) := by decide +kernel
theorem dX7_drift_69 : decode cX7_drift 69 = .ok (.goto 104, 3) := by decide +kernel
theorem dX7_drift_72 : decode cX7_drift 72 = .ok (.iload 4, 2) := by decide +kernel
theorem dX7_drift_74 : decode cX7_drift 74 = .ok (.iconst 1, 1) := by decide +kernel
theorem dX7_drift_75 : decode cX7_drift 75 = .ok (.if_icmp .ne 33, 3) := by decide +kernel
theorem dX7_drift_78 : decode cX7_drift 78 = .ok (.aload_n 0, 1) := by decide +kernel
theorem dX7_drift_79 : decode cX7_drift 79 = .ok (.aload_n 0, 1) := by decide +kernel
theorem dX7_drift_80 : decode cX7_drift 80 = .ok (.invokevirtual 52, 3) := by decide +kernel
theorem dX7_drift_83 : decode cX7_drift 83 = .ok (.invokevirtual 125, 3) := by decide +kernel
theorem dX7_drift_86 : decode cX7_drift 86 = .ok (.istore 5, 2) := by decide +kernel
theorem dX7_drift_88 : decode cX7_drift 88 = .ok (.aload_n 0, 1) := by decide +kernel
theorem dX7_drift_89 : decode cX7_drift 89 = .ok (.getfield 7, 3) := by decide +kernel
theorem dX7_drift_92 : decode cX7_drift 92 = .ok (.bipush 18, 2) := by decide +kernel
theorem dX7_drift_94 : decode cX7_drift 94 = .ok (.iload 5, 2) := by decide +kernel
theorem dX7_drift_96 : decode cX7_drift 96 = .ok (.iadd, 1) := by decide +kernel
theorem dX7_drift_97 : decode cX7_drift 97 = .ok (.aload_n 0, 1) := by decide +kernel
theorem dX7_drift_98 : decode cX7_drift 98 = .ok (.sipush 1000, 3) := by decide +kernel
theorem dX7_drift_101 : decode cX7_drift 101 = .ok (.invokevirtual 125, 3) := by decide +kernel
theorem dX7_drift_104 : decode cX7_drift 104 = .ok (.iastore, 1) := by decide +kernel
theorem dX7_drift_105 : decode cX7_drift 105 = .ok (.goto 68, 3) := by decide +kernel
theorem dX7_drift_108 : decode cX7_drift 108 = .ok (.iload 4, 2) := by decide +kernel
theorem dX7_drift_110 : decode cX7_drift 110 = .ok (.iconst 2, 1) := by decide +kernel
theorem dX7_drift_111 : decode cX7_drift 111 = .ok (.if_icmp .ne 28, 3) := by decide +kernel
theorem dX7_drift_114 : decode cX7_drift 114 = .ok (.aload_n 0, 1) := by decide +kernel
theorem dX7_drift_115 : decode cX7_drift 115 = .ok (.getfield 7, 3) := by decide +kernel
theorem dX7_drift_118 : decode cX7_drift 118 = .ok (.bipush 14, 2) := by decide +kernel
theorem dX7_drift_120 : decode cX7_drift 120 = .ok (.dup2, 1) := by decide +kernel
theorem dX7_drift_121 : decode cX7_drift 121 = .ok (.iaload, 1) := by decide +kernel
theorem dX7_drift_122 : decode cX7_drift 122 = .ok (.iconst 1, 1) := by decide +kernel
theorem dX7_drift_123 : decode cX7_drift 123 = .ok (.aload_n 0, 1) := by decide +kernel
theorem dX7_drift_124 : decode cX7_drift 124 = .ok (.aload_n 0, 1) := by decide +kernel
theorem dX7_drift_125 : decode cX7_drift 125 = .ok (.getfield 7, 3) := by decide +kernel
theorem dX7_drift_128 : decode cX7_drift 128 = .ok (.iconst 0, 1) := by decide +kernel
theorem dX7_drift_129 : decode cX7_drift 129 = .ok (.iaload, 1) := by decide +kernel
theorem dX7_drift_130 : decode cX7_drift 130 = .ok (.invokevirtual 125, 3) := by decide +kernel
theorem dX7_drift_133 : decode cX7_drift 133 = .ok (.ishl, 1) := by decide +kernel
theorem dX7_drift_134 : decode cX7_drift 134 = .ok (.ior, 1) := by decide +kernel
theorem dX7_drift_135 : decode cX7_drift 135 = .ok (.iastore, 1) := by decide +kernel
theorem dX7_drift_136 : decode cX7_drift 136 = .ok (.goto 37, 3) := by decide +kernel
theorem dX7_drift_139 : decode cX7_drift 139 = .ok (.iconst 0, 1) := by decide +kernel
theorem dX7_drift_140 : decode cX7_drift 140 = .ok (.istore 5, 2) := by decide +kernel
theorem dX7_drift_142 : decode cX7_drift 142 = .ok (.iload 5, 2) := by decide +kernel
theorem dX7_drift_144 : decode cX7_drift 144 = .ok (.aload_n 0, 1) := by decide +kernel
theorem dX7_drift_145 : decode cX7_drift 145 = .ok (.invokevirtual 52, 3) := by decide +kernel
theorem dX7_drift_148 : decode cX7_drift 148 = .ok (.if_icmp .ge 25, 3) := by decide +kernel
theorem dX7_drift_151 : decode cX7_drift 151 = .ok (.aload_n 0, 1) := by decide +kernel
theorem dX7_drift_152 : decode cX7_drift 152 = .ok (.getfield 7, 3) := by decide +kernel
theorem dX7_drift_155 : decode cX7_drift 155 = .ok (.bipush 18, 2) := by decide +kernel
theorem dX7_drift_157 : decode cX7_drift 157 = .ok (.iload 5, 2) := by decide +kernel
theorem dX7_drift_159 : decode cX7_drift 159 = .ok (.iadd, 1) := by decide +kernel
theorem dX7_drift_160 : decode cX7_drift 160 = .ok (.aload_n 0, 1) := by decide +kernel
theorem dX7_drift_161 : decode cX7_drift 161 = .ok (.bipush 30, 2) := by decide +kernel
theorem dX7_drift_163 : decode cX7_drift 163 = .ok (.invokevirtual 125, 3) := by decide +kernel
theorem dX7_drift_166 : decode cX7_drift 166 = .ok (.iastore, 1) := by decide +kernel
theorem dX7_drift_167 : decode cX7_drift 167 = .ok (.iinc 5 1, 3) := by decide +kernel
theorem dX7_drift_170 : decode cX7_drift 170 = .ok (.goto (-28), 3) := by decide +kernel
theorem dX7_drift_173 : decode cX7_drift 173 = .ok (.aload_n 0, 1) := by decide +kernel
theorem dX7_drift_174 : decode cX7_drift 174 = .ok (.invokevirtual 113, 3) := by decide +kernel
theorem dX7_drift_177 : decode cX7_drift 177 = .ok (.iinc 3 1, 3) := by decide +kernel
theorem dX7_drift_180 : decode cX7_drift 180 = .ok (.goto (-133), 3) := by decide +kernel
theorem dX7_drift_183 : decode cX7_drift 183 = .ok (.aload_n 0, 1) := by decide +kernel
theorem dX7_drift_184 : decode cX7_drift 184 = .ok (.getfield 7, 3) := by decide +kernel
theorem dX7_drift_187 : decode cX7_drift 187 = .ok (.bipush 7, 2) := by decide +kernel
theorem dX7_drift_189 : decode cX7_drift 189 = .ok (.iaload, 1) := by decide +kernel
theorem dX7_drift_190 : decode cX7_drift 190 = .ok (.ireturn, 1) := by decide +kernel
theorem dX7_told_0 : decode cX7_told 0 = .ok (.iload_n 1, 1) := by decide +kernel
theorem dX7_told_1 : decode cX7_told 1 = .ok (.iconst 0, 1) := by decide +kernel
theorem dX7_told_2 : decode cX7_told 2 = .ok (.bipush 16, 2) := by decide +kernel
theorem dX7_told_4 : decode cX7_told 4 = .ok (.invokestatic 30, 3) := by decide +kernel
theorem dX7_told_7 : decode cX7_told 7 = .ok (.ifCond .eq 12, 3) := by decide +kernel
theorem dX7_told_10 : decode cX7_told 10 = .ok (.aload_n 0, 1) := by decide +kernel
theorem dX7_told_11 : decode cX7_told 11 = .ok (.getfield 7, 3) := by decide +kernel
theorem dX7_told_14 : decode cX7_told 14 = .ok (.iload_n 1, 1) := by decide +kernel
theorem dX7_told_15 : decode cX7_told 15 = .ok (.iaload, 1) := by decide +kernel
theorem dX7_told_16 : decode cX7_told 16 = .ok (.goto 5, 3) := by decide +kernel
theorem dX7_told_19 : decode cX7_told 19 = .ok (.ldc 38, 2) := by decide +kernel
theorem dX7_told_21 : decode cX7_told 21 = .ok (.ireturn, 1) := by decide +kernel
theorem dX7_cellTells_0 : decode cX7_cellTells 0 = .ok (.iload_n 2, 1) := by decide +kernel
theorem dX7_cellTells_1 : decode cX7_cellTells 1 = .ok (.tableswitch 82 0 3 #[31, 41, 51, 62], 31) := by decide +kernel
theorem dX7_cellTells_32 : decode cX7_cellTells 32 = .ok (.aload_n 0, 1) := by decide +kernel
theorem dX7_cellTells_33 : decode cX7_cellTells 33 = .ok (.getfield 7, 3) := by decide +kernel
theorem dX7_cellTells_36 : decode cX7_cellTells 36 = .ok (.bipush 18, 2) := by decide +kernel
theorem dX7_cellTells_38 : decode cX7_cellTells 38 = .ok (.iload_n 1, 1) := by decide +kernel
theorem dX7_cellTells_39 : decode cX7_cellTells 39 = .ok (.iadd, 1) := by decide +kernel
theorem dX7_cellTells_40 : decode cX7_cellTells 40 = .ok (.iaload, 1) := by decide +kernel
theorem dX7_cellTells_41 : decode cX7_cellTells 41 = .ok (.ireturn, 1) := by decide +kernel
theorem dX7_cellTells_42 : decode cX7_cellTells 42 = .ok (.aload_n 0, 1) := by decide +kernel
theorem dX7_cellTells_43 : decode cX7_cellTells 43 = .ok (.getfield 7, 3) := by decide +kernel
theorem dX7_cellTells_46 : decode cX7_cellTells 46 = .ok (.bipush 82, 2) := by decide +kernel
theorem dX7_cellTells_48 : decode cX7_cellTells 48 = .ok (.iload_n 1, 1) := by decide +kernel
theorem dX7_cellTells_49 : decode cX7_cellTells 49 = .ok (.iadd, 1) := by decide +kernel
theorem dX7_cellTells_50 : decode cX7_cellTells 50 = .ok (.iaload, 1) := by decide +kernel
theorem dX7_cellTells_51 : decode cX7_cellTells 51 = .ok (.ireturn, 1) := by decide +kernel
theorem dX7_cellTells_52 : decode cX7_cellTells 52 = .ok (.aload_n 0, 1) := by decide +kernel
theorem dX7_cellTells_53 : decode cX7_cellTells 53 = .ok (.getfield 7, 3) := by decide +kernel
theorem dX7_cellTells_56 : decode cX7_cellTells 56 = .ok (.sipush 146, 3) := by decide +kernel
theorem dX7_cellTells_59 : decode cX7_cellTells 59 = .ok (.iload_n 1, 1) := by decide +kernel
theorem dX7_cellTells_60 : decode cX7_cellTells 60 = .ok (.iadd, 1) := by decide +kernel
theorem dX7_cellTells_61 : decode cX7_cellTells 61 = .ok (.iaload, 1) := by decide +kernel
theorem dX7_cellTells_62 : decode cX7_cellTells 62 = .ok (.ireturn, 1) := by decide +kernel
theorem dX7_cellTells_63 : decode cX7_cellTells 63 = .ok (.aload_n 0, 1) := by decide +kernel
theorem dX7_cellTells_64 : decode cX7_cellTells 64 = .ok (.getfield 7, 3) := by decide +kernel
theorem dX7_cellTells_67 : decode cX7_cellTells 67 = .ok (.sipush 210, 3) := by decide +kernel
theorem dX7_cellTells_70 : decode cX7_cellTells 70 = .ok (.iload_n 1, 1) := by decide +kernel
theorem dX7_cellTells_71 : decode cX7_cellTells 71 = .ok (.iadd, 1) := by decide +kernel
theorem dX7_cellTells_72 : decode cX7_cellTells 72 = .ok (.iaload, 1) := by decide +kernel
theorem dX7_cellTells_73 : decode cX7_cellTells 73 = .ok (.iconst (-1), 1) := by decide +kernel
theorem dX7_cellTells_74 : decode cX7_cellTells 74 = .ok (.if_icmp .ne 7, 3) := by decide +kernel
theorem dX7_cellTells_77 : decode cX7_cellTells 77 = .ok (.iconst 0, 1) := by decide +kernel
theorem dX7_cellTells_78 : decode cX7_cellTells 78 = .ok (.goto 4, 3) := by decide +kernel
theorem dX7_cellTells_81 : decode cX7_cellTells 81 = .ok (.iconst 1, 1) := by decide +kernel
theorem dX7_cellTells_82 : decode cX7_cellTells 82 = .ok (.ireturn, 1) := by decide +kernel
theorem dX7_cellTells_83 : decode cX7_cellTells 83 = .ok (.aload_n 0, 1) := by decide +kernel
theorem dX7_cellTells_84 : decode cX7_cellTells 84 = .ok (.getfield 7, 3) := by decide +kernel
theorem dX7_cellTells_87 : decode cX7_cellTells 87 = .ok (.sipush 210, 3) := by decide +kernel
theorem dX7_cellTells_90 : decode cX7_cellTells 90 = .ok (.iload_n 1, 1) := by decide +kernel
theorem dX7_cellTells_91 : decode cX7_cellTells 91 = .ok (.iadd, 1) := by decide +kernel
theorem dX7_cellTells_92 : decode cX7_cellTells 92 = .ok (.iaload, 1) := by decide +kernel
theorem dX7_cellTells_93 : decode cX7_cellTells 93 = .ok (.ireturn, 1) := by decide +kernel
theorem dX7_cell_0 : decode cX7_cell 0 = .ok (.aload_n 0, 1) := by decide +kernel
theorem dX7_cell_1 : decode cX7_cell 1 = .ok (.iload_n 1, 1) := by decide +kernel
theorem dX7_cell_2 : decode cX7_cell 2 = .ok (.iload_n 2, 1) := by decide +kernel
theorem dX7_cell_3 : decode cX7_cell 3 = .ok (.invokevirtual 39, 3) := by decide +kernel
theorem dX7_cell_6 : decode cX7_cell 6 = .ok (.ifCond .ne 8, 3) := by decide +kernel
theorem dX7_cell_9 : decode cX7_cell 9 = .ok (.ldc 43, 2) := by decide +kernel
theorem dX7_cell_11 : decode cX7_cell 11 = .ok (.goto 28, 3) := by decide +kernel
theorem dX7_cell_14 : decode cX7_cell 14 = .ok (.iload_n 3, 1) := by decide +kernel
theorem dX7_cell_15 : decode cX7_cell 15 = .ok (.iconst 0, 1) := by decide +kernel
theorem dX7_cell_16 : decode cX7_cell 16 = .ok (.iconst 4, 1) := by decide +kernel
theorem dX7_cell_17 : decode cX7_cell 17 = .ok (.invokestatic 30, 3) := by decide +kernel
theorem dX7_cell_20 : decode cX7_cell 20 = .ok (.ifCond .eq 17, 3) := by decide +kernel
theorem dX7_cell_23 : decode cX7_cell 23 = .ok (.aload_n 0, 1) := by decide +kernel
theorem dX7_cell_24 : decode cX7_cell 24 = .ok (.aload_n 0, 1) := by decide +kernel
theorem dX7_cell_25 : decode cX7_cell 25 = .ok (.iload_n 1, 1) := by decide +kernel
theorem dX7_cell_26 : decode cX7_cell 26 = .ok (.iload_n 2, 1) := by decide +kernel
theorem dX7_cell_27 : decode cX7_cell 27 = .ok (.invokevirtual 44, 3) := by decide +kernel
theorem dX7_cell_30 : decode cX7_cell 30 = .ok (.iload_n 3, 1) := by decide +kernel
theorem dX7_cell_31 : decode cX7_cell 31 = .ok (.invokevirtual 131, 3) := by decide +kernel
theorem dX7_cell_34 : decode cX7_cell 34 = .ok (.goto 5, 3) := by decide +kernel
theorem dX7_cell_37 : decode cX7_cell 37 = .ok (.ldc 38, 2) := by decide +kernel
theorem dX7_cell_39 : decode cX7_cell 39 = .ok (.ireturn, 1) := by decide +kernel
theorem dX7_heavyOf_0 : decode cX7_heavyOf 0 = .ok (.iconst 0, 1) := by decide +kernel
theorem dX7_heavyOf_1 : decode cX7_heavyOf 1 = .ok (.istore_n 3, 1) := by decide +kernel
theorem dX7_heavyOf_2 : decode cX7_heavyOf 2 = .ok (.iconst 0, 1) := by decide +kernel
theorem dX7_heavyOf_3 : decode cX7_heavyOf 3 = .ok (.istore 4, 2) := by decide +kernel
theorem dX7_heavyOf_5 : decode cX7_heavyOf 5 = .ok (.iload 4, 2) := by decide +kernel
theorem dX7_heavyOf_7 : decode cX7_heavyOf 7 = .ok (.aload_n 0, 1) := by decide +kernel
theorem dX7_heavyOf_8 : decode cX7_heavyOf 8 = .ok (.invokevirtual 52, 3) := by decide +kernel
theorem dX7_heavyOf_11 : decode cX7_heavyOf 11 = .ok (.if_icmp .ge 81, 3) := by decide +kernel
theorem dX7_heavyOf_14 : decode cX7_heavyOf 14 = .ok (.iload_n 2, 1) := by decide +kernel
theorem dX7_heavyOf_15 : decode cX7_heavyOf 15 = .ok (.ifCond .ne 7, 3) := by decide +kernel
theorem dX7_heavyOf_18 : decode cX7_heavyOf 18 = .ok (.iconst 1, 1) := by decide +kernel
theorem dX7_heavyOf_19 : decode cX7_heavyOf 19 = .ok (.goto 29, 3) := by decide +kernel
theorem dX7_heavyOf_22 : decode cX7_heavyOf 22 = .ok (.iload_n 2, 1) := by decide +kernel
theorem dX7_heavyOf_23 : decode cX7_heavyOf 23 = .ok (.iconst 1, 1) := by decide +kernel
theorem dX7_heavyOf_24 : decode cX7_heavyOf 24 = .ok (.if_icmp .ne 15, 3) := by decide +kernel
theorem dX7_heavyOf_27 : decode cX7_heavyOf 27 = .ok (.iload 4, 2) := by decide +kernel
theorem dX7_heavyOf_29 : decode cX7_heavyOf 29 = .ok (.aload_n 0, 1) := by decide +kernel
theorem dX7_heavyOf_30 : decode cX7_heavyOf 30 = .ok (.getfield 7, 3) := by decide +kernel
theorem dX7_heavyOf_33 : decode cX7_heavyOf 33 = .ok (.iconst 1, 1) := by decide +kernel
theorem dX7_heavyOf_34 : decode cX7_heavyOf 34 = .ok (.iaload, 1) := by decide +kernel
theorem dX7_heavyOf_35 : decode cX7_heavyOf 35 = .ok (.irem, 1) := by decide +kernel
theorem dX7_heavyOf_36 : decode cX7_heavyOf 36 = .ok (.goto 12, 3) := by decide +kernel
theorem dX7_heavyOf_39 : decode cX7_heavyOf 39 = .ok (.iload 4, 2) := by decide +kernel
theorem dX7_heavyOf_41 : decode cX7_heavyOf 41 = .ok (.aload_n 0, 1) := by decide +kernel
theorem dX7_heavyOf_42 : decode cX7_heavyOf 42 = .ok (.getfield 7, 3) := by decide +kernel
theorem dX7_heavyOf_45 : decode cX7_heavyOf 45 = .ok (.iconst 1, 1) := by decide +kernel
theorem dX7_heavyOf_46 : decode cX7_heavyOf 46 = .ok (.iaload, 1) := by decide +kernel
theorem dX7_heavyOf_47 : decode cX7_heavyOf 47 = .ok (.idiv, 1) := by decide +kernel
theorem dX7_heavyOf_48 : decode cX7_heavyOf 48 = .ok (.istore 5, 2) := by decide +kernel
theorem dX7_heavyOf_50 : decode cX7_heavyOf 50 = .ok (.iload_n 3, 1) := by decide +kernel
theorem dX7_heavyOf_51 : decode cX7_heavyOf 51 = .ok (.aload_n 0, 1) := by decide +kernel
theorem dX7_heavyOf_52 : decode cX7_heavyOf 52 = .ok (.getfield 7, 3) := by decide +kernel
theorem dX7_heavyOf_55 : decode cX7_heavyOf 55 = .ok (.sipush 210, 3) := by decide +kernel
theorem dX7_heavyOf_58 : decode cX7_heavyOf 58 = .ok (.iload 4, 2) := by decide +kernel
theorem dX7_heavyOf_60 : decode cX7_heavyOf 60 = .ok (.iadd, 1) := by decide +kernel
theorem dX7_heavyOf_61 : decode cX7_heavyOf 61 = .ok (.iaload, 1) := by decide +kernel
theorem dX7_heavyOf_62 : decode cX7_heavyOf 62 = .ok (.iload_n 1, 1) := by decide +kernel
theorem dX7_heavyOf_63 : decode cX7_heavyOf 63 = .ok (.if_icmp .ne 20, 3) := by decide +kernel
theorem dX7_heavyOf_66 : decode cX7_heavyOf 66 = .ok (.aload_n 0, 1) := by decide +kernel
theorem dX7_heavyOf_67 : decode cX7_heavyOf 67 = .ok (.getfield 7, 3) := by decide +kernel
theorem dX7_heavyOf_70 : decode cX7_heavyOf 70 = .ok (.sipush 146, 3) := by decide +kernel
theorem dX7_heavyOf_73 : decode cX7_heavyOf 73 = .ok (.iload 4, 2) := by decide +kernel
theorem dX7_heavyOf_75 : decode cX7_heavyOf 75 = .ok (.iadd, 1) := by decide +kernel
theorem dX7_heavyOf_76 : decode cX7_heavyOf 76 = .ok (.iaload, 1) := by decide +kernel
theorem dX7_heavyOf_77 : decode cX7_heavyOf 77 = .ok (.iload 5, 2) := by decide +kernel
theorem dX7_heavyOf_79 : decode cX7_heavyOf 79 = .ok (.imul, 1) := by decide +kernel
theorem dX7_heavyOf_80 : decode cX7_heavyOf 80 = .ok (.goto 4, 3) := by decide +kernel
theorem dX7_heavyOf_83 : decode cX7_heavyOf 83 = .ok (.iconst 0, 1) := by decide +kernel
theorem dX7_heavyOf_84 : decode cX7_heavyOf 84 = .ok (.iadd, 1) := by decide +kernel
theorem dX7_heavyOf_85 : decode cX7_heavyOf 85 = .ok (.istore_n 3, 1) := by decide +kernel
theorem dX7_heavyOf_86 : decode cX7_heavyOf 86 = .ok (.iinc 4 1, 3) := by decide +kernel
theorem dX7_heavyOf_89 : decode cX7_heavyOf 89 = .ok (.goto (-84), 3) := by decide +kernel
theorem dX7_heavyOf_92 : decode cX7_heavyOf 92 = .ok (.iload_n 3, 1) := by decide +kernel
theorem dX7_heavyOf_93 : decode cX7_heavyOf 93 = .ok (.ireturn, 1) := by decide +kernel
theorem dX7_contactTells_0 : decode cX7_contactTells 0 = .ok (.aload_n 0, 1) := by decide +kernel
theorem dX7_contactTells_1 : decode cX7_contactTells 1 = .ok (.getfield 7, 3) := by decide +kernel
theorem dX7_contactTells_4 : decode cX7_contactTells 4 = .ok (.sipush 274, 3) := by decide +kernel
theorem dX7_contactTells_7 : decode cX7_contactTells 7 = .ok (.iload_n 1, 1) := by decide +kernel
theorem dX7_contactTells_8 : decode cX7_contactTells 8 = .ok (.iadd, 1) := by decide +kernel
theorem dX7_contactTells_9 : decode cX7_contactTells 9 = .ok (.iaload, 1) := by decide +kernel
theorem dX7_contactTells_10 : decode cX7_contactTells 10 = .ok (.istore_n 3, 1) := by decide +kernel
theorem dX7_contactTells_11 : decode cX7_contactTells 11 = .ok (.iload_n 2, 1) := by decide +kernel
theorem dX7_contactTells_12 : decode cX7_contactTells 12 = .ok (.tableswitch 43 0 2 #[28, 30, 36], 28) := by decide +kernel
theorem dX7_contactTells_40 : decode cX7_contactTells 40 = .ok (.iload_n 3, 1) := by decide +kernel
theorem dX7_contactTells_41 : decode cX7_contactTells 41 = .ok (.ireturn, 1) := by decide +kernel
theorem dX7_contactTells_42 : decode cX7_contactTells 42 = .ok (.aload_n 0, 1) := by decide +kernel
theorem dX7_contactTells_43 : decode cX7_contactTells 43 = .ok (.iload_n 3, 1) := by decide +kernel
theorem dX7_contactTells_44 : decode cX7_contactTells 44 = .ok (.invokevirtual 75, 3) := by decide +kernel
theorem dX7_contactTells_47 : decode cX7_contactTells 47 = .ok (.ireturn, 1) := by decide +kernel
theorem dX7_contactTells_48 : decode cX7_contactTells 48 = .ok (.aload_n 0, 1) := by decide +kernel
theorem dX7_contactTells_49 : decode cX7_contactTells 49 = .ok (.iload_n 3, 1) := by decide +kernel
theorem dX7_contactTells_50 : decode cX7_contactTells 50 = .ok (.iconst 0, 1) := by decide +kernel
theorem dX7_contactTells_51 : decode cX7_contactTells 51 = .ok (.invokevirtual 134, 3) := by decide +kernel
theorem dX7_contactTells_54 : decode cX7_contactTells 54 = .ok (.ireturn, 1) := by decide +kernel
theorem dX7_contactTells_55 : decode cX7_contactTells 55 = .ok (.ldc2_w 137, 3) := by decide +kernel
theorem dX7_contactTells_58 : decode cX7_contactTells 58 = .ok (.aload_n 0, 1) := by decide +kernel
theorem dX7_contactTells_59 : decode cX7_contactTells 59 = .ok (.iload_n 3, 1) := by decide +kernel
theorem dX7_contactTells_60 : decode cX7_contactTells 60 = .ok (.iload_n 2, 1) := by decide +kernel
theorem dX7_contactTells_61 : decode cX7_contactTells 61 = .ok (.iconst 2, 1) := by decide +kernel
theorem dX7_contactTells_62 : decode cX7_contactTells 62 = .ok (.isub, 1) := by decide +kernel
theorem dX7_contactTells_63 : decode cX7_contactTells 63 = .ok (.invokevirtual 134, 3) := by decide +kernel
theorem dX7_contactTells_66 : decode cX7_contactTells 66 = .ok (.i2l, 1) := by decide +kernel
theorem dX7_contactTells_67 : decode cX7_contactTells 67 = .ok (.lmul, 1) := by decide +kernel
theorem dX7_contactTells_68 : decode cX7_contactTells 68 = .ok (.aload_n 0, 1) := by decide +kernel
theorem dX7_contactTells_69 : decode cX7_contactTells 69 = .ok (.iload_n 3, 1) := by decide +kernel
theorem dX7_contactTells_70 : decode cX7_contactTells 70 = .ok (.iconst 0, 1) := by decide +kernel
theorem dX7_contactTells_71 : decode cX7_contactTells 71 = .ok (.invokevirtual 134, 3) := by decide +kernel
theorem dX7_contactTells_74 : decode cX7_contactTells 74 = .ok (.i2l, 1) := by decide +kernel
theorem dX7_contactTells_75 : decode cX7_contactTells 75 = .ok (.ldiv, 1) := by decide +kernel
theorem dX7_contactTells_76 : decode cX7_contactTells 76 = .ok (.l2i, 1) := by decide +kernel
theorem dX7_contactTells_77 : decode cX7_contactTells 77 = .ok (.ireturn, 1) := by decide +kernel
theorem dX7_contact_0 : decode cX7_contact 0 = .ok (.iload_n 2, 1) := by decide +kernel
theorem dX7_contact_1 : decode cX7_contact 1 = .ok (.iconst 0, 1) := by decide +kernel
theorem dX7_contact_2 : decode cX7_contact 2 = .ok (.iconst 4, 1) := by decide +kernel
theorem dX7_contact_3 : decode cX7_contact 3 = .ok (.invokestatic 30, 3) := by decide +kernel
theorem dX7_contact_6 : decode cX7_contact 6 = .ok (.ifCond .ne 8, 3) := by decide +kernel
theorem dX7_contact_9 : decode cX7_contact 9 = .ok (.ldc 38, 2) := by decide +kernel
theorem dX7_contact_11 : decode cX7_contact 11 = .ok (.goto 30, 3) := by decide +kernel
theorem dX7_contact_14 : decode cX7_contact 14 = .ok (.iload_n 1, 1) := by decide +kernel
theorem dX7_contact_15 : decode cX7_contact 15 = .ok (.iconst 0, 1) := by decide +kernel
theorem dX7_contact_16 : decode cX7_contact 16 = .ok (.aload_n 0, 1) := by decide +kernel
theorem dX7_contact_17 : decode cX7_contact 17 = .ok (.getfield 7, 3) := by decide +kernel
theorem dX7_contact_20 : decode cX7_contact 20 = .ok (.bipush 8, 2) := by decide +kernel
theorem dX7_contact_22 : decode cX7_contact 22 = .ok (.iaload, 1) := by decide +kernel
theorem dX7_contact_23 : decode cX7_contact 23 = .ok (.iconst 1, 1) := by decide +kernel
theorem dX7_contact_24 : decode cX7_contact 24 = .ok (.isub, 1) := by decide +kernel
theorem dX7_contact_25 : decode cX7_contact 25 = .ok (.invokestatic 30, 3) := by decide +kernel
theorem dX7_contact_28 : decode cX7_contact 28 = .ok (.ifCond .eq 12, 3) := by decide +kernel
theorem dX7_contact_31 : decode cX7_contact 31 = .ok (.aload_n 0, 1) := by decide +kernel
theorem dX7_contact_32 : decode cX7_contact 32 = .ok (.iload_n 1, 1) := by decide +kernel
theorem dX7_contact_33 : decode cX7_contact 33 = .ok (.iload_n 2, 1) := by decide +kernel
theorem dX7_contact_34 : decode cX7_contact 34 = .ok (.invokevirtual 139, 3) := by decide +kernel
theorem dX7_contact_37 : decode cX7_contact 37 = .ok (.goto 4, 3) := by decide +kernel
theorem dX7_contact_40 : decode cX7_contact 40 = .ok (.iconst (-1), 1) := by decide +kernel
theorem dX7_contact_41 : decode cX7_contact 41 = .ok (.ireturn, 1) := by decide +kernel
theorem dX7_track_0 : decode cX7_track 0 = .ok (.iload_n 1, 1) := by decide +kernel
theorem dX7_track_1 : decode cX7_track 1 = .ok (.iconst 0, 1) := by decide +kernel
theorem dX7_track_2 : decode cX7_track 2 = .ok (.aload_n 0, 1) := by decide +kernel
theorem dX7_track_3 : decode cX7_track 3 = .ok (.getfield 7, 3) := by decide +kernel
theorem dX7_track_6 : decode cX7_track 6 = .ok (.bipush 10, 2) := by decide +kernel
theorem dX7_track_8 : decode cX7_track 8 = .ok (.iaload, 1) := by decide +kernel
theorem dX7_track_9 : decode cX7_track 9 = .ok (.iconst 1, 1) := by decide +kernel
theorem dX7_track_10 : decode cX7_track 10 = .ok (.isub, 1) := by decide +kernel
theorem dX7_track_11 : decode cX7_track 11 = .ok (.invokestatic 30, 3) := by decide +kernel
theorem dX7_track_14 : decode cX7_track 14 = .ok (.ifCond .ne 8, 3) := by decide +kernel
theorem dX7_track_17 : decode cX7_track 17 = .ok (.ldc 43, 2) := by decide +kernel
theorem dX7_track_19 : decode cX7_track 19 = .ok (.goto 23, 3) := by decide +kernel
theorem dX7_track_22 : decode cX7_track 22 = .ok (.iload_n 2, 1) := by decide +kernel
theorem dX7_track_23 : decode cX7_track 23 = .ok (.iconst 0, 1) := by decide +kernel
theorem dX7_track_24 : decode cX7_track 24 = .ok (.iconst 4, 1) := by decide +kernel
theorem dX7_track_25 : decode cX7_track 25 = .ok (.invokestatic 30, 3) := by decide +kernel
theorem dX7_track_28 : decode cX7_track 28 = .ok (.ifCond .eq 12, 3) := by decide +kernel
theorem dX7_track_31 : decode cX7_track 31 = .ok (.aload_n 0, 1) := by decide +kernel
theorem dX7_track_32 : decode cX7_track 32 = .ok (.iload_n 1, 1) := by decide +kernel
theorem dX7_track_33 : decode cX7_track 33 = .ok (.iload_n 2, 1) := by decide +kernel
theorem dX7_track_34 : decode cX7_track 34 = .ok (.invokevirtual 78, 3) := by decide +kernel
theorem dX7_track_37 : decode cX7_track 37 = .ok (.goto 5, 3) := by decide +kernel
theorem dX7_track_40 : decode cX7_track 40 = .ok (.ldc 38, 2) := by decide +kernel
theorem dX7_track_42 : decode cX7_track 42 = .ok (.ireturn, 1) := by decide +kernel
theorem dX7_named_0 : decode cX7_named 0 = .ok (.iconst (-1), 1) := by decide +kernel
theorem dX7_named_1 : decode cX7_named 1 = .ok (.istore_n 2, 1) := by decide +kernel
theorem dX7_named_2 : decode cX7_named 2 = .ok (.iconst 0, 1) := by decide +kernel
theorem dX7_named_3 : decode cX7_named 3 = .ok (.istore_n 3, 1) := by decide +kernel
theorem dX7_named_4 : decode cX7_named 4 = .ok (.iload_n 3, 1) := by decide +kernel
theorem dX7_named_5 : decode cX7_named 5 = .ok (.aload_n 0, 1) := by decide +kernel
theorem dX7_named_6 : decode cX7_named 6 = .ok (.getfield 7, 3) := by decide +kernel
theorem dX7_named_9 : decode cX7_named 9 = .ok (.bipush 10, 2) := by decide +kernel
theorem dX7_named_11 : decode cX7_named 11 = .ok (.iaload, 1) := by decide +kernel
theorem dX7_named_12 : decode cX7_named 12 = .ok (.if_icmp .ge 25, 3) := by decide +kernel
theorem dX7_named_15 : decode cX7_named 15 = .ok (.aload_n 0, 1) := by decide +kernel
theorem dX7_named_16 : decode cX7_named 16 = .ok (.iload_n 3, 1) := by decide +kernel
theorem dX7_named_17 : decode cX7_named 17 = .ok (.iconst 0, 1) := by decide +kernel
theorem dX7_named_18 : decode cX7_named 18 = .ok (.invokevirtual 78, 3) := by decide +kernel
theorem dX7_named_21 : decode cX7_named 21 = .ok (.iload_n 1, 1) := by decide +kernel
theorem dX7_named_22 : decode cX7_named 22 = .ok (.if_icmp .ne 7, 3) := by decide +kernel
theorem dX7_named_25 : decode cX7_named 25 = .ok (.iload_n 3, 1) := by decide +kernel
theorem dX7_named_26 : decode cX7_named 26 = .ok (.goto 4, 3) := by decide +kernel
theorem dX7_named_29 : decode cX7_named 29 = .ok (.iload_n 2, 1) := by decide +kernel
theorem dX7_named_30 : decode cX7_named 30 = .ok (.istore_n 2, 1) := by decide +kernel
theorem dX7_named_31 : decode cX7_named 31 = .ok (.iinc 3 1, 3) := by decide +kernel
theorem dX7_named_34 : decode cX7_named 34 = .ok (.goto (-30), 3) := by decide +kernel
theorem dX7_named_37 : decode cX7_named 37 = .ok (.iload_n 2, 1) := by decide +kernel
theorem dX7_named_38 : decode cX7_named 38 = .ok (.ireturn, 1) := by decide +kernel
theorem dX7_paired_0 : decode cX7_paired 0 = .ok (.iload_n 1, 1) := by decide +kernel
theorem dX7_paired_1 : decode cX7_paired 1 = .ok (.iconst (-1), 1) := by decide +kernel
theorem dX7_paired_2 : decode cX7_paired 2 = .ok (.aload_n 0, 1) := by decide +kernel
theorem dX7_paired_3 : decode cX7_paired 3 = .ok (.getfield 7, 3) := by decide +kernel
theorem dX7_paired_6 : decode cX7_paired 6 = .ok (.bipush 10, 2) := by decide +kernel
theorem dX7_paired_8 : decode cX7_paired 8 = .ok (.iaload, 1) := by decide +kernel
theorem dX7_paired_9 : decode cX7_paired 9 = .ok (.iconst 1, 1) := by decide +kernel
theorem dX7_paired_10 : decode cX7_paired 10 = .ok (.isub, 1) := by decide +kernel
theorem dX7_paired_11 : decode cX7_paired 11 = .ok (.invokestatic 30, 3) := by decide +kernel
theorem dX7_paired_14 : decode cX7_paired 14 = .ok (.ifCond .ne 6, 3) := by decide +kernel
theorem dX7_paired_17 : decode cX7_paired 17 = .ok (.ldc 43, 2) := by decide +kernel
theorem dX7_paired_19 : decode cX7_paired 19 = .ok (.ireturn, 1) := by decide +kernel
theorem dX7_paired_20 : decode cX7_paired 20 = .ok (.aload_n 0, 1) := by decide +kernel
theorem dX7_paired_21 : decode cX7_paired 21 = .ok (.invokevirtual 93, 3) := by decide +kernel
theorem dX7_paired_24 : decode cX7_paired 24 = .ok (.iload_n 1, 1) := by decide +kernel
theorem dX7_paired_25 : decode cX7_paired 25 = .ok (.iconst (-1), 1) := by decide +kernel
theorem dX7_paired_26 : decode cX7_paired 26 = .ok (.if_icmp .ne 12, 3) := by decide +kernel
theorem dX7_paired_29 : decode cX7_paired 29 = .ok (.aload_n 0, 1) := by decide +kernel
theorem dX7_paired_30 : decode cX7_paired 30 = .ok (.getfield 13, 3) := by decide +kernel
theorem dX7_paired_33 : decode cX7_paired 33 = .ok (.iconst 0, 1) := by decide +kernel
theorem dX7_paired_34 : decode cX7_paired 34 = .ok (.iaload, 1) := by decide +kernel
theorem dX7_paired_35 : decode cX7_paired 35 = .ok (.goto 9, 3) := by decide +kernel
theorem dX7_paired_38 : decode cX7_paired 38 = .ok (.aload_n 0, 1) := by decide +kernel
theorem dX7_paired_39 : decode cX7_paired 39 = .ok (.getfield 16, 3) := by decide +kernel
theorem dX7_paired_42 : decode cX7_paired 42 = .ok (.iload_n 1, 1) := by decide +kernel
theorem dX7_paired_43 : decode cX7_paired 43 = .ok (.iaload, 1) := by decide +kernel
theorem dX7_paired_44 : decode cX7_paired 44 = .ok (.ireturn, 1) := by decide +kernel
theorem dX7_rule_0 : decode cX7_rule 0 = .ok (.iload_n 1, 1) := by decide +kernel
theorem dX7_rule_1 : decode cX7_rule 1 = .ok (.iconst 0, 1) := by decide +kernel
theorem dX7_rule_2 : decode cX7_rule 2 = .ok (.iconst 5, 1) := by decide +kernel
theorem dX7_rule_3 : decode cX7_rule 3 = .ok (.invokestatic 30, 3) := by decide +kernel
theorem dX7_rule_6 : decode cX7_rule 6 = .ok (.ifCond .eq 45, 3) := by decide +kernel
theorem dX7_rule_9 : decode cX7_rule 9 = .ok (.iload_n 2, 1) := by decide +kernel
theorem dX7_rule_10 : decode cX7_rule 10 = .ok (.iconst 0, 1) := by decide +kernel
theorem dX7_rule_11 : decode cX7_rule 11 = .ok (.bipush 6, 2) := by decide +kernel
theorem dX7_rule_13 : decode cX7_rule 13 = .ok (.invokestatic 30, 3) := by decide +kernel
theorem dX7_rule_16 : decode cX7_rule 16 = .ok (.ifCond .eq 35, 3) := by decide +kernel
theorem dX7_rule_19 : decode cX7_rule 19 = .ok (.iload_n 3, 1) := by decide +kernel
theorem dX7_rule_20 : decode cX7_rule 20 = .ok (.iconst 0, 1) := by decide +kernel
theorem dX7_rule_21 : decode cX7_rule 21 = .ok (.bipush 99, 2) := by decide +kernel
theorem dX7_rule_23 : decode cX7_rule 23 = .ok (.invokestatic 30, 3) := by decide +kernel
theorem dX7_rule_26 : decode cX7_rule 26 = .ok (.ifCond .eq 25, 3) := by decide +kernel
theorem dX7_rule_29 : decode cX7_rule 29 = .ok (.iload 4, 2) := by decide +kernel
theorem dX7_rule_31 : decode cX7_rule 31 = .ok (.iconst 0, 1) := by decide +kernel
theorem dX7_rule_32 : decode cX7_rule 32 = .ok (.bipush 99, 2) := by decide +kernel
theorem dX7_rule_34 : decode cX7_rule 34 = .ok (.invokestatic 30, 3) := by decide +kernel
theorem dX7_rule_37 : decode cX7_rule 37 = .ok (.ifCond .eq 14, 3) := by decide +kernel
theorem dX7_rule_40 : decode cX7_rule 40 = .ok (.iload_n 1, 1) := by decide +kernel
theorem dX7_rule_41 : decode cX7_rule 41 = .ok (.iload_n 2, 1) := by decide +kernel
theorem dX7_rule_42 : decode cX7_rule 42 = .ok (.iload_n 3, 1) := by decide +kernel
theorem dX7_rule_43 : decode cX7_rule 43 = .ok (.iload 4, 2) := by decide +kernel
theorem dX7_rule_45 : decode cX7_rule 45 = .ok (.invokestatic 96, 3) := by decide +kernel
theorem dX7_rule_48 : decode cX7_rule 48 = .ok (.goto 5, 3) := by decide +kernel
theorem dX7_rule_51 : decode cX7_rule 51 = .ok (.ldc 38, 2) := by decide +kernel
theorem dX7_rule_53 : decode cX7_rule 53 = .ok (.ireturn, 1) := by decide +kernel
theorem dX7_choose_0 : decode cX7_choose 0 = .ok (.iload_n 1, 1) := by decide +kernel
theorem dX7_choose_1 : decode cX7_choose 1 = .ok (.iload_n 0, 1) := by decide +kernel
theorem dX7_choose_2 : decode cX7_choose 2 = .ok (.if_icmp .le 7, 3) := by decide +kernel
theorem dX7_choose_5 : decode cX7_choose 5 = .ok (.lconst 0, 1) := by decide +kernel
theorem dX7_choose_6 : decode cX7_choose 6 = .ok (.goto 4, 3) := by decide +kernel
theorem dX7_choose_9 : decode cX7_choose 9 = .ok (.lconst 1, 1) := by decide +kernel
theorem dX7_choose_10 : decode cX7_choose 10 = .ok (.lstore_n 2, 1) := by decide +kernel
theorem dX7_choose_11 : decode cX7_choose 11 = .ok (.iconst 0, 1) := by decide +kernel
theorem dX7_choose_12 : decode cX7_choose 12 = .ok (.istore 4, 2) := by decide +kernel
theorem dX7_choose_14 : decode cX7_choose 14 = .ok (.iload 4, 2) := by decide +kernel
theorem dX7_choose_16 : decode cX7_choose 16 = .ok (.iload_n 1, 1) := by decide +kernel
theorem dX7_choose_17 : decode cX7_choose 17 = .ok (.if_icmp .ge 29, 3) := by decide +kernel
theorem dX7_choose_20 : decode cX7_choose 20 = .ok (.lload_n 2, 1) := by decide +kernel
theorem dX7_choose_21 : decode cX7_choose 21 = .ok (.lconst 0, 1) := by decide +kernel
theorem dX7_choose_22 : decode cX7_choose 22 = .ok (.lcmp, 1) := by decide +kernel
theorem dX7_choose_23 : decode cX7_choose 23 = .ok (.ifCond .le 23, 3) := by decide +kernel
theorem dX7_choose_26 : decode cX7_choose 26 = .ok (.lload_n 2, 1) := by decide +kernel
theorem dX7_choose_27 : decode cX7_choose 27 = .ok (.iload_n 0, 1) := by decide +kernel
theorem dX7_choose_28 : decode cX7_choose 28 = .ok (.iload 4, 2) := by decide +kernel
theorem dX7_choose_30 : decode cX7_choose 30 = .ok (.isub, 1) := by decide +kernel
theorem dX7_choose_31 : decode cX7_choose 31 = .ok (.i2l, 1) := by decide +kernel
theorem dX7_choose_32 : decode cX7_choose 32 = .ok (.lmul, 1) := by decide +kernel
theorem dX7_choose_33 : decode cX7_choose 33 = .ok (.iload 4, 2) := by decide +kernel
theorem dX7_choose_35 : decode cX7_choose 35 = .ok (.iconst 1, 1) := by decide +kernel
theorem dX7_choose_36 : decode cX7_choose 36 = .ok (.iadd, 1) := by decide +kernel
theorem dX7_choose_37 : decode cX7_choose 37 = .ok (.i2l, 1) := by decide +kernel
theorem dX7_choose_38 : decode cX7_choose 38 = .ok (.ldiv, 1) := by decide +kernel
theorem dX7_choose_39 : decode cX7_choose 39 = .ok (.lstore_n 2, 1) := by decide +kernel
theorem dX7_choose_40 : decode cX7_choose 40 = .ok (.iinc 4 1, 3) := by decide +kernel
theorem dX7_choose_43 : decode cX7_choose 43 = .ok (.goto (-29), 3) := by decide +kernel
theorem dX7_choose_46 : decode cX7_choose 46 = .ok (.lload_n 2, 1) := by decide +kernel
theorem dX7_choose_47 : decode cX7_choose 47 = .ok (.lreturn, 1) := by decide +kernel
theorem dX7_ghosts_0 : decode cX7_ghosts 0 = .ok (.iload_n 1, 1) := by decide +kernel
theorem dX7_ghosts_1 : decode cX7_ghosts 1 = .ok (.iconst 0, 1) := by decide +kernel
theorem dX7_ghosts_2 : decode cX7_ghosts 2 = .ok (.iconst 1, 1) := by decide +kernel
theorem dX7_ghosts_3 : decode cX7_ghosts 3 = .ok (.aload_n 0, 1) := by decide +kernel
theorem dX7_ghosts_4 : decode cX7_ghosts 4 = .ok (.getfield 7, 3) := by decide +kernel
theorem dX7_ghosts_7 : decode cX7_ghosts 7 = .ok (.iconst 0, 1) := by decide +kernel
theorem dX7_ghosts_8 : decode cX7_ghosts 8 = .ok (.iaload, 1) := by decide +kernel
theorem dX7_ghosts_9 : decode cX7_ghosts 9 = .ok (.ishl, 1) := by decide +kernel
theorem dX7_ghosts_10 : decode cX7_ghosts 10 = .ok (.iconst 1, 1) := by decide +kernel
theorem dX7_ghosts_11 : decode cX7_ghosts 11 = .ok (.isub, 1) := by decide +kernel
theorem dX7_ghosts_12 : decode cX7_ghosts 12 = .ok (.invokestatic 30, 3) := by decide +kernel
theorem dX7_ghosts_15 : decode cX7_ghosts 15 = .ok (.ifCond .eq 31, 3) := by decide +kernel
theorem dX7_ghosts_18 : decode cX7_ghosts 18 = .ok (.iload_n 2, 1) := by decide +kernel
theorem dX7_ghosts_19 : decode cX7_ghosts 19 = .ok (.iconst 0, 1) := by decide +kernel
theorem dX7_ghosts_20 : decode cX7_ghosts 20 = .ok (.iconst 1, 1) := by decide +kernel
theorem dX7_ghosts_21 : decode cX7_ghosts 21 = .ok (.aload_n 0, 1) := by decide +kernel
theorem dX7_ghosts_22 : decode cX7_ghosts 22 = .ok (.getfield 7, 3) := by decide +kernel
theorem dX7_ghosts_25 : decode cX7_ghosts 25 = .ok (.iconst 1, 1) := by decide +kernel
theorem dX7_ghosts_26 : decode cX7_ghosts 26 = .ok (.iaload, 1) := by decide +kernel
theorem dX7_ghosts_27 : decode cX7_ghosts 27 = .ok (.ishl, 1) := by decide +kernel
theorem dX7_ghosts_28 : decode cX7_ghosts 28 = .ok (.iconst 1, 1) := by decide +kernel
theorem dX7_ghosts_29 : decode cX7_ghosts 29 = .ok (.isub, 1) := by decide +kernel
theorem dX7_ghosts_30 : decode cX7_ghosts 30 = .ok (.invokestatic 30, 3) := by decide +kernel
theorem dX7_ghosts_33 : decode cX7_ghosts 33 = .ok (.ifCond .eq 13, 3) := by decide +kernel
theorem dX7_ghosts_36 : decode cX7_ghosts 36 = .ok (.iload_n 3, 1) := by decide +kernel
theorem dX7_ghosts_37 : decode cX7_ghosts 37 = .ok (.iconst 0, 1) := by decide +kernel
theorem dX7_ghosts_38 : decode cX7_ghosts 38 = .ok (.bipush 16, 2) := by decide +kernel
theorem dX7_ghosts_40 : decode cX7_ghosts 40 = .ok (.invokestatic 30, 3) := by decide +kernel
theorem dX7_ghosts_43 : decode cX7_ghosts 43 = .ok (.ifCond .ne 7, 3) := by decide +kernel
theorem dX7_ghosts_46 : decode cX7_ghosts 46 = .ok (.ldc2_w 142, 3) := by decide +kernel
theorem dX7_ghosts_49 : decode cX7_ghosts 49 = .ok (.lreturn, 1) := by decide +kernel
theorem dX7_ghosts_50 : decode cX7_ghosts 50 = .ok (.iload_n 1, 1) := by decide +kernel
theorem dX7_ghosts_51 : decode cX7_ghosts 51 = .ok (.invokestatic 84, 3) := by decide +kernel
theorem dX7_ghosts_54 : decode cX7_ghosts 54 = .ok (.istore 4, 2) := by decide +kernel
theorem dX7_ghosts_56 : decode cX7_ghosts 56 = .ok (.iload_n 2, 1) := by decide +kernel
theorem dX7_ghosts_57 : decode cX7_ghosts 57 = .ok (.invokestatic 84, 3) := by decide +kernel
theorem dX7_ghosts_60 : decode cX7_ghosts 60 = .ok (.istore 5, 2) := by decide +kernel
theorem dX7_ghosts_62 : decode cX7_ghosts 62 = .ok (.lconst 0, 1) := by decide +kernel
theorem dX7_ghosts_63 : decode cX7_ghosts 63 = .ok (.lstore 6, 2) := by decide +kernel
theorem dX7_ghosts_65 : decode cX7_ghosts 65 = .ok (.iconst 0, 1) := by decide +kernel
theorem dX7_ghosts_66 : decode cX7_ghosts 66 = .ok (.istore 8, 2) := by decide +kernel
theorem dX7_ghosts_68 : decode cX7_ghosts 68 = .ok (.iload 8, 2) := by decide +kernel
theorem dX7_ghosts_70 : decode cX7_ghosts 70 = .ok (.iload 4, 2) := by decide +kernel
theorem dX7_ghosts_72 : decode cX7_ghosts 72 = .ok (.if_icmp .gt 81, 3) := by decide +kernel
theorem dX7_ghosts_75 : decode cX7_ghosts 75 = .ok (.iconst 0, 1) := by decide +kernel
theorem dX7_ghosts_76 : decode cX7_ghosts 76 = .ok (.istore 9, 2) := by decide +kernel
theorem dX7_ghosts_78 : decode cX7_ghosts 78 = .ok (.iload 9, 2) := by decide +kernel
theorem dX7_ghosts_80 : decode cX7_ghosts 80 = .ok (.iload 5, 2) := by decide +kernel
theorem dX7_ghosts_82 : decode cX7_ghosts 82 = .ok (.if_icmp .gt 65, 3) := by decide +kernel
theorem dX7_ghosts_85 : decode cX7_ghosts 85 = .ok (.iload 4, 2) := by decide +kernel
theorem dX7_ghosts_87 : decode cX7_ghosts 87 = .ok (.iload 8, 2) := by decide +kernel
theorem dX7_ghosts_89 : decode cX7_ghosts 89 = .ok (.invokestatic 144, 3) := by decide +kernel
theorem dX7_ghosts_92 : decode cX7_ghosts 92 = .ok (.iload 5, 2) := by decide +kernel
theorem dX7_ghosts_94 : decode cX7_ghosts 94 = .ok (.iload 9, 2) := by decide +kernel
theorem dX7_ghosts_96 : decode cX7_ghosts 96 = .ok (.invokestatic 144, 3) := by decide +kernel
theorem dX7_ghosts_99 : decode cX7_ghosts 99 = .ok (.lmul, 1) := by decide +kernel
theorem dX7_ghosts_100 : decode cX7_ghosts 100 = .ok (.iload 4, 2) := by decide +kernel
theorem dX7_ghosts_102 : decode cX7_ghosts 102 = .ok (.iload 8, 2) := by decide +kernel
theorem dX7_ghosts_104 : decode cX7_ghosts 104 = .ok (.isub, 1) := by decide +kernel
theorem dX7_ghosts_105 : decode cX7_ghosts 105 = .ok (.iload 5, 2) := by decide +kernel
theorem dX7_ghosts_107 : decode cX7_ghosts 107 = .ok (.iload 9, 2) := by decide +kernel
theorem dX7_ghosts_109 : decode cX7_ghosts 109 = .ok (.isub, 1) := by decide +kernel
theorem dX7_ghosts_110 : decode cX7_ghosts 110 = .ok (.imul, 1) := by decide +kernel
theorem dX7_ghosts_111 : decode cX7_ghosts 111 = .ok (.iload_n 3, 1) := by decide +kernel
theorem dX7_ghosts_112 : decode cX7_ghosts 112 = .ok (.invokestatic 144, 3) := by decide +kernel
theorem dX7_ghosts_115 : decode cX7_ghosts 115 = .ok (.lmul, 1) := by decide +kernel
theorem dX7_ghosts_116 : decode cX7_ghosts 116 = .ok (.lstore 10, 2) := by decide +kernel
theorem dX7_ghosts_118 : decode cX7_ghosts 118 = .ok (.lload 6, 2) := by decide +kernel
theorem dX7_ghosts_120 : decode cX7_ghosts 120 = .ok (.iload 8, 2) := by decide +kernel
theorem dX7_ghosts_122 : decode cX7_ghosts 122 = .ok (.iload 9, 2) := by decide +kernel
theorem dX7_ghosts_124 : decode cX7_ghosts 124 = .ok (.iadd, 1) := by decide +kernel
theorem dX7_ghosts_125 : decode cX7_ghosts 125 = .ok (.iconst 2, 1) := by decide +kernel
theorem dX7_ghosts_126 : decode cX7_ghosts 126 = .ok (.irem, 1) := by decide +kernel
theorem dX7_ghosts_127 : decode cX7_ghosts 127 = .ok (.ifCond .ne 8, 3) := by decide +kernel
theorem dX7_ghosts_130 : decode cX7_ghosts 130 = .ok (.lload 10, 2) := by decide +kernel
theorem dX7_ghosts_132 : decode cX7_ghosts 132 = .ok (.goto 6, 3) := by decide +kernel
theorem dX7_ghosts_135 : decode cX7_ghosts 135 = .ok (.lload 10, 2) := by decide +kernel
theorem dX7_ghosts_137 : decode cX7_ghosts 137 = .ok (.lneg, 1) := by decide +kernel
theorem dX7_ghosts_138 : decode cX7_ghosts 138 = .ok (.ladd, 1) := by decide +kernel
theorem dX7_ghosts_139 : decode cX7_ghosts 139 = .ok (.lstore 6, 2) := by decide +kernel
theorem dX7_ghosts_141 : decode cX7_ghosts 141 = .ok (.iinc 9 1, 3) := by decide +kernel
theorem dX7_ghosts_144 : decode cX7_ghosts 144 = .ok (.goto (-66), 3) := by decide +kernel
theorem dX7_ghosts_147 : decode cX7_ghosts 147 = .ok (.iinc 8 1, 3) := by decide +kernel
theorem dX7_ghosts_150 : decode cX7_ghosts 150 = .ok (.goto (-82), 3) := by decide +kernel
theorem dX7_ghosts_153 : decode cX7_ghosts 153 = .ok (.lload 6, 2) := by decide +kernel
theorem dX7_ghosts_155 : decode cX7_ghosts 155 = .ok (.lreturn, 1) := by decide +kernel
theorem dX7_digest_0 : decode cX7_digest 0 = .ok (.ldc2_w 148, 3) := by decide +kernel
theorem dX7_digest_3 : decode cX7_digest 3 = .ok (.lstore_n 1, 1) := by decide +kernel
theorem dX7_digest_4 : decode cX7_digest 4 = .ok (.bipush 6, 2) := by decide +kernel
theorem dX7_digest_6 : decode cX7_digest 6 = .ok (.istore_n 3, 1) := by decide +kernel
theorem dX7_digest_7 : decode cX7_digest 7 = .ok (.iload_n 3, 1) := by decide +kernel
theorem dX7_digest_8 : decode cX7_digest 8 = .ok (.bipush 13, 2) := by decide +kernel
theorem dX7_digest_10 : decode cX7_digest 10 = .ok (.if_icmp .gt 23, 3) := by decide +kernel
theorem dX7_digest_13 : decode cX7_digest 13 = .ok (.ldc2_w 150, 3) := by decide +kernel
theorem dX7_digest_16 : decode cX7_digest 16 = .ok (.lload_n 1, 1) := by decide +kernel
theorem dX7_digest_17 : decode cX7_digest 17 = .ok (.lmul, 1) := by decide +kernel
theorem dX7_digest_18 : decode cX7_digest 18 = .ok (.aload_n 0, 1) := by decide +kernel
theorem dX7_digest_19 : decode cX7_digest 19 = .ok (.getfield 7, 3) := by decide +kernel
theorem dX7_digest_22 : decode cX7_digest 22 = .ok (.iload_n 3, 1) := by decide +kernel
theorem dX7_digest_23 : decode cX7_digest 23 = .ok (.iaload, 1) := by decide +kernel
theorem dX7_digest_24 : decode cX7_digest 24 = .ok (.i2l, 1) := by decide +kernel
theorem dX7_digest_25 : decode cX7_digest 25 = .ok (.ladd, 1) := by decide +kernel
theorem dX7_digest_26 : decode cX7_digest 26 = .ok (.lstore_n 1, 1) := by decide +kernel
theorem dX7_digest_27 : decode cX7_digest 27 = .ok (.iinc 3 1, 3) := by decide +kernel
theorem dX7_digest_30 : decode cX7_digest 30 = .ok (.goto (-23), 3) := by decide +kernel
theorem dX7_digest_33 : decode cX7_digest 33 = .ok (.iconst 0, 1) := by decide +kernel
theorem dX7_digest_34 : decode cX7_digest 34 = .ok (.istore_n 3, 1) := by decide +kernel
theorem dX7_digest_35 : decode cX7_digest 35 = .ok (.iload_n 3, 1) := by decide +kernel
theorem dX7_digest_36 : decode cX7_digest 36 = .ok (.aload_n 0, 1) := by decide +kernel
theorem dX7_digest_37 : decode cX7_digest 37 = .ok (.invokevirtual 52, 3) := by decide +kernel
theorem dX7_digest_40 : decode cX7_digest 40 = .ok (.if_icmp .ge 39, 3) := by decide +kernel
theorem dX7_digest_43 : decode cX7_digest 43 = .ok (.iconst 0, 1) := by decide +kernel
theorem dX7_digest_44 : decode cX7_digest 44 = .ok (.istore 4, 2) := by decide +kernel
theorem dX7_digest_46 : decode cX7_digest 46 = .ok (.iload 4, 2) := by decide +kernel
theorem dX7_digest_48 : decode cX7_digest 48 = .ok (.iconst 5, 1) := by decide +kernel
theorem dX7_digest_49 : decode cX7_digest 49 = .ok (.if_icmp .ge 24, 3) := by decide +kernel
theorem dX7_digest_52 : decode cX7_digest 52 = .ok (.ldc2_w 150, 3) := by decide +kernel
theorem dX7_digest_55 : decode cX7_digest 55 = .ok (.lload_n 1, 1) := by decide +kernel
theorem dX7_digest_56 : decode cX7_digest 56 = .ok (.lmul, 1) := by decide +kernel
theorem dX7_digest_57 : decode cX7_digest 57 = .ok (.aload_n 0, 1) := by decide +kernel
theorem dX7_digest_58 : decode cX7_digest 58 = .ok (.iload_n 3, 1) := by decide +kernel
theorem dX7_digest_59 : decode cX7_digest 59 = .ok (.iload 4, 2) := by decide +kernel
theorem dX7_digest_61 : decode cX7_digest 61 = .ok (.invokevirtual 131, 3) := by decide +kernel
theorem dX7_digest_64 : decode cX7_digest 64 = .ok (.i2l, 1) := by decide +kernel
theorem dX7_digest_65 : decode cX7_digest 65 = .ok (.ladd, 1) := by decide +kernel
theorem dX7_digest_66 : decode cX7_digest 66 = .ok (.lstore_n 1, 1) := by decide +kernel
theorem dX7_digest_67 : decode cX7_digest 67 = .ok (.iinc 4 1, 3) := by decide +kernel
theorem dX7_digest_70 : decode cX7_digest 70 = .ok (.goto (-24), 3) := by decide +kernel
theorem dX7_digest_73 : decode cX7_digest 73 = .ok (.iinc 3 1, 3) := by decide +kernel
theorem dX7_digest_76 : decode cX7_digest 76 = .ok (.goto (-41), 3) := by decide +kernel
theorem dX7_digest_79 : decode cX7_digest 79 = .ok (.iconst 0, 1) := by decide +kernel
theorem dX7_digest_80 : decode cX7_digest 80 = .ok (.istore_n 3, 1) := by decide +kernel
theorem dX7_digest_81 : decode cX7_digest 81 = .ok (.iload_n 3, 1) := by decide +kernel
theorem dX7_digest_82 : decode cX7_digest 82 = .ok (.aload_n 0, 1) := by decide +kernel
theorem dX7_digest_83 : decode cX7_digest 83 = .ok (.getfield 7, 3) := by decide +kernel
theorem dX7_digest_86 : decode cX7_digest 86 = .ok (.bipush 8, 2) := by decide +kernel
theorem dX7_digest_88 : decode cX7_digest 88 = .ok (.iaload, 1) := by decide +kernel
theorem dX7_digest_89 : decode cX7_digest 89 = .ok (.if_icmp .ge 39, 3) := by decide +kernel
theorem dX7_digest_92 : decode cX7_digest 92 = .ok (.iconst 0, 1) := by decide +kernel
theorem dX7_digest_93 : decode cX7_digest 93 = .ok (.istore 4, 2) := by decide +kernel
theorem dX7_digest_95 : decode cX7_digest 95 = .ok (.iload 4, 2) := by decide +kernel
theorem dX7_digest_97 : decode cX7_digest 97 = .ok (.iconst 5, 1) := by decide +kernel
theorem dX7_digest_98 : decode cX7_digest 98 = .ok (.if_icmp .ge 24, 3) := by decide +kernel
theorem dX7_digest_101 : decode cX7_digest 101 = .ok (.ldc2_w 150, 3) := by decide +kernel
theorem dX7_digest_104 : decode cX7_digest 104 = .ok (.lload_n 1, 1) := by decide +kernel
theorem dX7_digest_105 : decode cX7_digest 105 = .ok (.lmul, 1) := by decide +kernel
theorem dX7_digest_106 : decode cX7_digest 106 = .ok (.aload_n 0, 1) := by decide +kernel
theorem dX7_digest_107 : decode cX7_digest 107 = .ok (.iload_n 3, 1) := by decide +kernel
theorem dX7_digest_108 : decode cX7_digest 108 = .ok (.iload 4, 2) := by decide +kernel
theorem dX7_digest_110 : decode cX7_digest 110 = .ok (.invokevirtual 139, 3) := by decide +kernel
theorem dX7_digest_113 : decode cX7_digest 113 = .ok (.i2l, 1) := by decide +kernel
theorem dX7_digest_114 : decode cX7_digest 114 = .ok (.ladd, 1) := by decide +kernel
theorem dX7_digest_115 : decode cX7_digest 115 = .ok (.lstore_n 1, 1) := by decide +kernel
theorem dX7_digest_116 : decode cX7_digest 116 = .ok (.iinc 4 1, 3) := by decide +kernel
theorem dX7_digest_119 : decode cX7_digest 119 = .ok (.goto (-24), 3) := by decide +kernel
theorem dX7_digest_122 : decode cX7_digest 122 = .ok (.iinc 3 1, 3) := by decide +kernel
theorem dX7_digest_125 : decode cX7_digest 125 = .ok (.goto (-44), 3) := by decide +kernel
theorem dX7_digest_128 : decode cX7_digest 128 = .ok (.iconst 0, 1) := by decide +kernel
theorem dX7_digest_129 : decode cX7_digest 129 = .ok (.istore_n 3, 1) := by decide +kernel
theorem dX7_digest_130 : decode cX7_digest 130 = .ok (.iload_n 3, 1) := by decide +kernel
theorem dX7_digest_131 : decode cX7_digest 131 = .ok (.aload_n 0, 1) := by decide +kernel
theorem dX7_digest_132 : decode cX7_digest 132 = .ok (.getfield 7, 3) := by decide +kernel
theorem dX7_digest_135 : decode cX7_digest 135 = .ok (.bipush 10, 2) := by decide +kernel
theorem dX7_digest_137 : decode cX7_digest 137 = .ok (.iaload, 1) := by decide +kernel
theorem dX7_digest_138 : decode cX7_digest 138 = .ok (.if_icmp .ge 39, 3) := by decide +kernel
theorem dX7_digest_141 : decode cX7_digest 141 = .ok (.iconst 0, 1) := by decide +kernel
theorem dX7_digest_142 : decode cX7_digest 142 = .ok (.istore 4, 2) := by decide +kernel
theorem dX7_digest_144 : decode cX7_digest 144 = .ok (.iload 4, 2) := by decide +kernel
theorem dX7_digest_146 : decode cX7_digest 146 = .ok (.iconst 5, 1) := by decide +kernel
theorem dX7_digest_147 : decode cX7_digest 147 = .ok (.if_icmp .ge 24, 3) := by decide +kernel
theorem dX7_digest_150 : decode cX7_digest 150 = .ok (.ldc2_w 150, 3) := by decide +kernel
theorem dX7_digest_153 : decode cX7_digest 153 = .ok (.lload_n 1, 1) := by decide +kernel
theorem dX7_digest_154 : decode cX7_digest 154 = .ok (.lmul, 1) := by decide +kernel
theorem dX7_digest_155 : decode cX7_digest 155 = .ok (.aload_n 0, 1) := by decide +kernel
theorem dX7_digest_156 : decode cX7_digest 156 = .ok (.iload_n 3, 1) := by decide +kernel
theorem dX7_digest_157 : decode cX7_digest 157 = .ok (.iload 4, 2) := by decide +kernel
theorem dX7_digest_159 : decode cX7_digest 159 = .ok (.invokevirtual 78, 3) := by decide +kernel
theorem dX7_digest_162 : decode cX7_digest 162 = .ok (.i2l, 1) := by decide +kernel
theorem dX7_digest_163 : decode cX7_digest 163 = .ok (.ladd, 1) := by decide +kernel
theorem dX7_digest_164 : decode cX7_digest 164 = .ok (.lstore_n 1, 1) := by decide +kernel
theorem dX7_digest_165 : decode cX7_digest 165 = .ok (.iinc 4 1, 3) := by decide +kernel
theorem dX7_digest_168 : decode cX7_digest 168 = .ok (.goto (-24), 3) := by decide +kernel
theorem dX7_digest_171 : decode cX7_digest 171 = .ok (.iinc 3 1, 3) := by decide +kernel
theorem dX7_digest_174 : decode cX7_digest 174 = .ok (.goto (-44), 3) := by decide +kernel
theorem dX7_digest_177 : decode cX7_digest 177 = .ok (.lload_n 1, 1) := by decide +kernel
theorem dX7_digest_178 : decode cX7_digest 178 = .ok (.lreturn, 1) := by decide +kernel
theorem dX7_keep_0 : decode cX7_keep 0 = .ok (.iload_n 1, 1) := by decide +kernel
theorem dX7_keep_1 : decode cX7_keep 1 = .ok (.iconst 0, 1) := by decide +kernel
theorem dX7_keep_2 : decode cX7_keep 2 = .ok (.iconst 1, 1) := by decide +kernel
theorem dX7_keep_3 : decode cX7_keep 3 = .ok (.invokestatic 30, 3) := by decide +kernel
theorem dX7_keep_6 : decode cX7_keep 6 = .ok (.ifCond .ne 6, 3) := by decide +kernel
theorem dX7_keep_9 : decode cX7_keep 9 = .ok (.ldc 43, 2) := by decide +kernel
theorem dX7_keep_11 : decode cX7_keep 11 = .ok (.ireturn, 1) := by decide +kernel
theorem dX7_keep_12 : decode cX7_keep 12 = .ok (.aload_n 0, 1) := by decide +kernel
theorem dX7_keep_13 : decode cX7_keep 13 = .ok (.getfield 19, 3) := by decide +kernel
theorem dX7_keep_16 : decode cX7_keep 16 = .ok (.iload_n 1, 1) := by decide +kernel
theorem dX7_keep_17 : decode cX7_keep 17 = .ok (.iconst 1, 1) := by decide +kernel
theorem dX7_keep_18 : decode cX7_keep 18 = .ok (.bastore, 1) := by decide +kernel
theorem dX7_keep_19 : decode cX7_keep 19 = .ok (.iconst 0, 1) := by decide +kernel
theorem dX7_keep_20 : decode cX7_keep 20 = .ok (.istore_n 2, 1) := by decide +kernel
theorem dX7_keep_21 : decode cX7_keep 21 = .ok (.iload_n 2, 1) := by decide +kernel
theorem dX7_keep_22 : decode cX7_keep 22 = .ok (.sipush 316, 3) := by decide +kernel
theorem dX7_keep_25 : decode cX7_keep 25 = .ok (.if_icmp .ge 27, 3) := by decide +kernel
theorem dX7_keep_28 : decode cX7_keep 28 = .ok (.aload_n 0, 1) := by decide +kernel
theorem dX7_keep_29 : decode cX7_keep 29 = .ok (.getfield 23, 3) := by decide +kernel
theorem dX7_keep_32 : decode cX7_keep 32 = .ok (.sipush 316, 3) := by decide +kernel
theorem dX7_keep_35 : decode cX7_keep 35 = .ok (.iload_n 1, 1) := by decide +kernel
theorem dX7_keep_36 : decode cX7_keep 36 = .ok (.imul, 1) := by decide +kernel
theorem dX7_keep_37 : decode cX7_keep 37 = .ok (.iload_n 2, 1) := by decide +kernel
theorem dX7_keep_38 : decode cX7_keep 38 = .ok (.iadd, 1) := by decide +kernel
theorem dX7_keep_39 : decode cX7_keep 39 = .ok (.aload_n 0, 1) := by decide +kernel
theorem dX7_keep_40 : decode cX7_keep 40 = .ok (.getfield 7, 3) := by decide +kernel
theorem dX7_keep_43 : decode cX7_keep 43 = .ok (.iload_n 2, 1) := by decide +kernel
theorem dX7_keep_44 : decode cX7_keep 44 = .ok (.iaload, 1) := by decide +kernel
theorem dX7_keep_45 : decode cX7_keep 45 = .ok (.iastore, 1) := by decide +kernel
theorem dX7_keep_46 : decode cX7_keep 46 = .ok (.iinc 2 1, 3) := by decide +kernel
theorem dX7_keep_49 : decode cX7_keep 49 = .ok (.goto (-28), 3) := by decide +kernel
theorem dX7_keep_52 : decode cX7_keep 52 = .ok (.iconst 1, 1) := by decide +kernel
theorem dX7_keep_53 : decode cX7_keep 53 = .ok (.ireturn, 1) := by decide +kernel
theorem dX7_goBack_0 : decode cX7_goBack 0 = .ok (.iload_n 1, 1) := by decide +kernel
theorem dX7_goBack_1 : decode cX7_goBack 1 = .ok (.iconst 0, 1) := by decide +kernel
theorem dX7_goBack_2 : decode cX7_goBack 2 = .ok (.iconst 1, 1) := by decide +kernel
theorem dX7_goBack_3 : decode cX7_goBack 3 = .ok (.invokestatic 30, 3) := by decide +kernel
theorem dX7_goBack_6 : decode cX7_goBack 6 = .ok (.ifCond .ne 6, 3) := by decide +kernel
theorem dX7_goBack_9 : decode cX7_goBack 9 = .ok (.ldc 43, 2) := by decide +kernel
theorem dX7_goBack_11 : decode cX7_goBack 11 = .ok (.ireturn, 1) := by decide +kernel
theorem dX7_goBack_12 : decode cX7_goBack 12 = .ok (.aload_n 0, 1) := by decide +kernel
theorem dX7_goBack_13 : decode cX7_goBack 13 = .ok (.getfield 19, 3) := by decide +kernel
theorem dX7_goBack_16 : decode cX7_goBack 16 = .ok (.iload_n 1, 1) := by decide +kernel
theorem dX7_goBack_17 : decode cX7_goBack 17 = .ok (.baload, 1) := by decide +kernel
theorem dX7_goBack_18 : decode cX7_goBack 18 = .ok (.ifCond .ne 6, 3) := by decide +kernel
theorem dX7_goBack_21 : decode cX7_goBack 21 = .ok (.ldc 59, 2) := by decide +kernel
theorem dX7_goBack_23 : decode cX7_goBack 23 = .ok (.ireturn, 1) := by decide +kernel
theorem dX7_goBack_24 : decode cX7_goBack 24 = .ok (.iconst 0, 1) := by decide +kernel
theorem dX7_goBack_25 : decode cX7_goBack 25 = .ok (.istore_n 2, 1) := by decide +kernel
theorem dX7_goBack_26 : decode cX7_goBack 26 = .ok (.iload_n 2, 1) := by decide +kernel
theorem dX7_goBack_27 : decode cX7_goBack 27 = .ok (.sipush 316, 3) := by decide +kernel
theorem dX7_goBack_30 : decode cX7_goBack 30 = .ok (.if_icmp .ge 27, 3) := by decide +kernel
theorem dX7_goBack_33 : decode cX7_goBack 33 = .ok (.aload_n 0, 1) := by decide +kernel
theorem dX7_goBack_34 : decode cX7_goBack 34 = .ok (.getfield 7, 3) := by decide +kernel
theorem dX7_goBack_37 : decode cX7_goBack 37 = .ok (.iload_n 2, 1) := by decide +kernel
theorem dX7_goBack_38 : decode cX7_goBack 38 = .ok (.aload_n 0, 1) := by decide +kernel
theorem dX7_goBack_39 : decode cX7_goBack 39 = .ok (.getfield 23, 3) := by decide +kernel
theorem dX7_goBack_42 : decode cX7_goBack 42 = .ok (.sipush 316, 3) := by decide +kernel
theorem dX7_goBack_45 : decode cX7_goBack 45 = .ok (.iload_n 1, 1) := by decide +kernel
theorem dX7_goBack_46 : decode cX7_goBack 46 = .ok (.imul, 1) := by decide +kernel
theorem dX7_goBack_47 : decode cX7_goBack 47 = .ok (.iload_n 2, 1) := by decide +kernel
theorem dX7_goBack_48 : decode cX7_goBack 48 = .ok (.iadd, 1) := by decide +kernel
theorem dX7_goBack_49 : decode cX7_goBack 49 = .ok (.iaload, 1) := by decide +kernel
theorem dX7_goBack_50 : decode cX7_goBack 50 = .ok (.iastore, 1) := by decide +kernel
theorem dX7_goBack_51 : decode cX7_goBack 51 = .ok (.iinc 2 1, 3) := by decide +kernel
theorem dX7_goBack_54 : decode cX7_goBack 54 = .ok (.goto (-28), 3) := by decide +kernel
theorem dX7_goBack_57 : decode cX7_goBack 57 = .ok (.iconst 1, 1) := by decide +kernel
theorem dX7_goBack_58 : decode cX7_goBack 58 = .ok (.ireturn, 1) := by decide +kernel
theorem dJ6_bitCount_0f7a4_0 : decode cJ6_bitCount_0f7a4 0 = .ok (.iload_n 0, 1) := by decide +kernel
theorem dJ6_bitCount_0f7a4_1 : decode cJ6_bitCount_0f7a4 1 = .ok (.iload_n 0, 1) := by decide +kernel
theorem dJ6_bitCount_0f7a4_2 : decode cJ6_bitCount_0f7a4 2 = .ok (.iconst 1, 1) := by decide +kernel
theorem dJ6_bitCount_0f7a4_3 : decode cJ6_bitCount_0f7a4 3 = .ok (.iushr, 1) := by decide +kernel
theorem dJ6_bitCount_0f7a4_4 : decode cJ6_bitCount_0f7a4 4 = .ok (.ldc_w 265, 3) := by decide +kernel
theorem dJ6_bitCount_0f7a4_7 : decode cJ6_bitCount_0f7a4 7 = .ok (.iand, 1) := by decide +kernel
theorem dJ6_bitCount_0f7a4_8 : decode cJ6_bitCount_0f7a4 8 = .ok (.isub, 1) := by decide +kernel
theorem dJ6_bitCount_0f7a4_9 : decode cJ6_bitCount_0f7a4 9 = .ok (.istore_n 0, 1) := by decide +kernel
theorem dJ6_bitCount_0f7a4_10 : decode cJ6_bitCount_0f7a4 10 = .ok (.iload_n 0, 1) := by decide +kernel
theorem dJ6_bitCount_0f7a4_11 : decode cJ6_bitCount_0f7a4 11 = .ok (.ldc_w 266, 3) := by decide +kernel
theorem dJ6_bitCount_0f7a4_14 : decode cJ6_bitCount_0f7a4 14 = .ok (.iand, 1) := by decide +kernel
theorem dJ6_bitCount_0f7a4_15 : decode cJ6_bitCount_0f7a4 15 = .ok (.iload_n 0, 1) := by decide +kernel
theorem dJ6_bitCount_0f7a4_16 : decode cJ6_bitCount_0f7a4 16 = .ok (.iconst 2, 1) := by decide +kernel
theorem dJ6_bitCount_0f7a4_17 : decode cJ6_bitCount_0f7a4 17 = .ok (.iushr, 1) := by decide +kernel
theorem dJ6_bitCount_0f7a4_18 : decode cJ6_bitCount_0f7a4 18 = .ok (.ldc_w 266, 3) := by decide +kernel
theorem dJ6_bitCount_0f7a4_21 : decode cJ6_bitCount_0f7a4 21 = .ok (.iand, 1) := by decide +kernel
theorem dJ6_bitCount_0f7a4_22 : decode cJ6_bitCount_0f7a4 22 = .ok (.iadd, 1) := by decide +kernel
theorem dJ6_bitCount_0f7a4_23 : decode cJ6_bitCount_0f7a4 23 = .ok (.istore_n 0, 1) := by decide +kernel
theorem dJ6_bitCount_0f7a4_24 : decode cJ6_bitCount_0f7a4 24 = .ok (.iload_n 0, 1) := by decide +kernel
theorem dJ6_bitCount_0f7a4_25 : decode cJ6_bitCount_0f7a4 25 = .ok (.iload_n 0, 1) := by decide +kernel
theorem dJ6_bitCount_0f7a4_26 : decode cJ6_bitCount_0f7a4 26 = .ok (.iconst 4, 1) := by decide +kernel
theorem dJ6_bitCount_0f7a4_27 : decode cJ6_bitCount_0f7a4 27 = .ok (.iushr, 1) := by decide +kernel
theorem dJ6_bitCount_0f7a4_28 : decode cJ6_bitCount_0f7a4 28 = .ok (.iadd, 1) := by decide +kernel
theorem dJ6_bitCount_0f7a4_29 : decode cJ6_bitCount_0f7a4 29 = .ok (.ldc_w 267, 3) := by decide +kernel
theorem dJ6_bitCount_0f7a4_32 : decode cJ6_bitCount_0f7a4 32 = .ok (.iand, 1) := by decide +kernel
theorem dJ6_bitCount_0f7a4_33 : decode cJ6_bitCount_0f7a4 33 = .ok (.istore_n 0, 1) := by decide +kernel
theorem dJ6_bitCount_0f7a4_34 : decode cJ6_bitCount_0f7a4 34 = .ok (.iload_n 0, 1) := by decide +kernel
theorem dJ6_bitCount_0f7a4_35 : decode cJ6_bitCount_0f7a4 35 = .ok (.iload_n 0, 1) := by decide +kernel
theorem dJ6_bitCount_0f7a4_36 : decode cJ6_bitCount_0f7a4 36 = .ok (.bipush 8, 2) := by decide +kernel
theorem dJ6_bitCount_0f7a4_38 : decode cJ6_bitCount_0f7a4 38 = .ok (.iushr, 1) := by decide +kernel
theorem dJ6_bitCount_0f7a4_39 : decode cJ6_bitCount_0f7a4 39 = .ok (.iadd, 1) := by decide +kernel
theorem dJ6_bitCount_0f7a4_40 : decode cJ6_bitCount_0f7a4 40 = .ok (.istore_n 0, 1) := by decide +kernel
theorem dJ6_bitCount_0f7a4_41 : decode cJ6_bitCount_0f7a4 41 = .ok (.iload_n 0, 1) := by decide +kernel
theorem dJ6_bitCount_0f7a4_42 : decode cJ6_bitCount_0f7a4 42 = .ok (.iload_n 0, 1) := by decide +kernel
theorem dJ6_bitCount_0f7a4_43 : decode cJ6_bitCount_0f7a4 43 = .ok (.bipush 16, 2) := by decide +kernel
theorem dJ6_bitCount_0f7a4_45 : decode cJ6_bitCount_0f7a4 45 = .ok (.iushr, 1) := by decide +kernel
theorem dJ6_bitCount_0f7a4_46 : decode cJ6_bitCount_0f7a4 46 = .ok (.iadd, 1) := by decide +kernel
theorem dJ6_bitCount_0f7a4_47 : decode cJ6_bitCount_0f7a4 47 = .ok (.istore_n 0, 1) := by decide +kernel
theorem dJ6_bitCount_0f7a4_48 : decode cJ6_bitCount_0f7a4 48 = .ok (.iload_n 0, 1) := by decide +kernel
theorem dJ6_bitCount_0f7a4_49 : decode cJ6_bitCount_0f7a4 49 = .ok (.bipush 63, 2) := by decide +kernel
theorem dJ6_bitCount_0f7a4_51 : decode cJ6_bitCount_0f7a4 51 = .ok (.iand, 1) := by decide +kernel
theorem dJ6_bitCount_0f7a4_52 : decode cJ6_bitCount_0f7a4 52 = .ok (.ireturn, 1) := by decide +kernel
theorem dJ9_abs_0f7a4_0 : decode cJ9_abs_0f7a4 0 = .ok (.iload_n 0, 1) := by decide +kernel
theorem dJ9_abs_0f7a4_1 : decode cJ9_abs_0f7a4 1 = .ok (.ifCond .ge 8, 3) := by decide +kernel
theorem dJ9_abs_0f7a4_4 : decode cJ9_abs_0f7a4 4 = .ok (.iload_n 0, 1) := by decide +kernel
theorem dJ9_abs_0f7a4_5 : decode cJ9_abs_0f7a4 5 = .ok (.ineg, 1) := by decide +kernel
theorem dJ9_abs_0f7a4_6 : decode cJ9_abs_0f7a4 6 = .ok (.goto 4, 3) := by decide +kernel
theorem dJ9_abs_0f7a4_9 : decode cJ9_abs_0f7a4 9 = .ok (.iload_n 0, 1) := by decide +kernel
theorem dJ9_abs_0f7a4_10 : decode cJ9_abs_0f7a4 10 = .ok (.ireturn, 1) := by decide +kernel
theorem dJ9_min_7cf53_0 : decode cJ9_min_7cf53 0 = .ok (.iload_n 0, 1) := by decide +kernel
theorem dJ9_min_7cf53_1 : decode cJ9_min_7cf53 1 = .ok (.iload_n 1, 1) := by decide +kernel
theorem dJ9_min_7cf53_2 : decode cJ9_min_7cf53 2 = .ok (.if_icmp .gt 7, 3) := by decide +kernel
theorem dJ9_min_7cf53_5 : decode cJ9_min_7cf53 5 = .ok (.iload_n 0, 1) := by decide +kernel
theorem dJ9_min_7cf53_6 : decode cJ9_min_7cf53 6 = .ok (.goto 4, 3) := by decide +kernel
theorem dJ9_min_7cf53_9 : decode cJ9_min_7cf53 9 = .ok (.iload_n 1, 1) := by decide +kernel
theorem dJ9_min_7cf53_10 : decode cJ9_min_7cf53 10 = .ok (.ireturn, 1) := by decide +kernel
theorem dJ7_fill_53178_0 : decode cJ7_fill_53178 0 = .ok (.iconst 0, 1) := by decide +kernel
theorem dJ7_fill_53178_1 : decode cJ7_fill_53178 1 = .ok (.istore_n 2, 1) := by decide +kernel
theorem dJ7_fill_53178_2 : decode cJ7_fill_53178 2 = .ok (.aload_n 0, 1) := by decide +kernel
theorem dJ7_fill_53178_3 : decode cJ7_fill_53178 3 = .ok (.arraylength, 1) := by decide +kernel
theorem dJ7_fill_53178_4 : decode cJ7_fill_53178 4 = .ok (.istore_n 3, 1) := by decide +kernel
theorem dJ7_fill_53178_5 : decode cJ7_fill_53178 5 = .ok (.iload_n 2, 1) := by decide +kernel
theorem dJ7_fill_53178_6 : decode cJ7_fill_53178 6 = .ok (.iload_n 3, 1) := by decide +kernel
theorem dJ7_fill_53178_7 : decode cJ7_fill_53178 7 = .ok (.if_icmp .ge 13, 3) := by decide +kernel
theorem dJ7_fill_53178_10 : decode cJ7_fill_53178 10 = .ok (.aload_n 0, 1) := by decide +kernel
theorem dJ7_fill_53178_11 : decode cJ7_fill_53178 11 = .ok (.iload_n 2, 1) := by decide +kernel
theorem dJ7_fill_53178_12 : decode cJ7_fill_53178 12 = .ok (.iload_n 1, 1) := by decide +kernel
theorem dJ7_fill_53178_13 : decode cJ7_fill_53178 13 = .ok (.iastore, 1) := by decide +kernel
theorem dJ7_fill_53178_14 : decode cJ7_fill_53178 14 = .ok (.iinc 2 1, 3) := by decide +kernel
theorem dJ7_fill_53178_17 : decode cJ7_fill_53178 17 = .ok (.goto (-12), 3) := by decide +kernel
theorem dJ7_fill_53178_20 : decode cJ7_fill_53178 20 = .ok (.return_, 1) := by decide +kernel
theorem dL_law_0 : decode cL_law 0 = .ok (.new 7, 3) := by decide +kernel
theorem dL_law_3 : decode cL_law 3 = .ok (.dup, 1) := by decide +kernel
theorem dL_law_4 : decode cL_law 4 = .ok (.invokespecial 9, 3) := by decide +kernel
theorem dL_law_7 : decode cL_law 7 = .ok (.astore_n 1, 1) := by decide +kernel
theorem dL_law_8 : decode cL_law 8 = .ok (.new 10, 3) := by decide +kernel
theorem dL_law_11 : decode cL_law 11 = .ok (.dup, 1) := by decide +kernel
theorem dL_law_12 : decode cL_law 12 = .ok (.invokespecial 12, 3) := by decide +kernel
theorem dL_law_15 : decode cL_law 15 = .ok (.astore_n 2, 1) := by decide +kernel
theorem dL_law_16 : decode cL_law 16 = .ok (.iconst 0, 1) := by decide +kernel
theorem dL_law_17 : decode cL_law 17 = .ok (.istore_n 3, 1) := by decide +kernel
theorem dL_law_18 : decode cL_law 18 = .ok (.iload_n 3, 1) := by decide +kernel
theorem dL_law_19 : decode cL_law 19 = .ok (.aload_n 0, 1) := by decide +kernel
theorem dL_law_20 : decode cL_law 20 = .ok (.arraylength, 1) := by decide +kernel
theorem dL_law_21 : decode cL_law 21 = .ok (.iconst 5, 1) := by decide +kernel
theorem dL_law_22 : decode cL_law 22 = .ok (.isub, 1) := by decide +kernel
theorem dL_law_23 : decode cL_law 23 = .ok (.if_icmp .gt 686, 3) := by decide +kernel
theorem dL_law_26 : decode cL_law 26 = .ok (.aload_n 0, 1) := by decide +kernel
theorem dL_law_27 : decode cL_law 27 = .ok (.iload_n 3, 1) := by decide +kernel
theorem dL_law_28 : decode cL_law 28 = .ok (.iaload, 1) := by decide +kernel
theorem dL_law_29 : decode cL_law 29 = .ok (.bipush 31, 2) := by decide +kernel
theorem dL_law_31 : decode cL_law 31 = .ok (.iand, 1) := by decide +kernel
theorem dL_law_32 : decode cL_law 32 = .ok (.tableswitch 671 0 18 #[92, 125, 158, 201, 244, 257, 280, 303, 336, 359, 402, 435, 468, 491, 514, 567, 611, 625, 648], 92) := by decide +kernel
theorem dL_law_124 : decode cL_law 124 = .ok (.aload_n 1, 1) := by decide +kernel
theorem dL_law_125 : decode cL_law 125 = .ok (.aload_n 0, 1) := by decide +kernel
theorem dL_law_126 : decode cL_law 126 = .ok (.iload_n 3, 1) := by decide +kernel
theorem dL_law_127 : decode cL_law 127 = .ok (.iconst 1, 1) := by decide +kernel
theorem dL_law_128 : decode cL_law 128 = .ok (.iadd, 1) := by decide +kernel
theorem dL_law_129 : decode cL_law 129 = .ok (.iaload, 1) := by decide +kernel
theorem dL_law_130 : decode cL_law 130 = .ok (.aload_n 0, 1) := by decide +kernel
theorem dL_law_131 : decode cL_law 131 = .ok (.iload_n 3, 1) := by decide +kernel
theorem dL_law_132 : decode cL_law 132 = .ok (.iconst 2, 1) := by decide +kernel
theorem dL_law_133 : decode cL_law 133 = .ok (.iadd, 1) := by decide +kernel
theorem dL_law_134 : decode cL_law 134 = .ok (.iaload, 1) := by decide +kernel
theorem dL_law_135 : decode cL_law 135 = .ok (.invokevirtual 13, 3) := by decide +kernel
theorem dL_law_138 : decode cL_law 138 = .ok (.aload_n 2, 1) := by decide +kernel
theorem dL_law_139 : decode cL_law 139 = .ok (.aload_n 0, 1) := by decide +kernel
theorem dL_law_140 : decode cL_law 140 = .ok (.iload_n 3, 1) := by decide +kernel
theorem dL_law_141 : decode cL_law 141 = .ok (.iconst 1, 1) := by decide +kernel
theorem dL_law_142 : decode cL_law 142 = .ok (.iadd, 1) := by decide +kernel
theorem dL_law_143 : decode cL_law 143 = .ok (.iaload, 1) := by decide +kernel
theorem dL_law_144 : decode cL_law 144 = .ok (.aload_n 0, 1) := by decide +kernel
theorem dL_law_145 : decode cL_law 145 = .ok (.iload_n 3, 1) := by decide +kernel
theorem dL_law_146 : decode cL_law 146 = .ok (.iconst 2, 1) := by decide +kernel
theorem dL_law_147 : decode cL_law 147 = .ok (.iadd, 1) := by decide +kernel
theorem dL_law_148 : decode cL_law 148 = .ok (.iaload, 1) := by decide +kernel
theorem dL_law_149 : decode cL_law 149 = .ok (.invokevirtual 17, 3) := by decide +kernel
theorem dL_law_152 : decode cL_law 152 = .ok (.if_icmp .eq 551, 3) := by decide +kernel
theorem dL_law_155 : decode cL_law 155 = .ok (.iconst 0, 1) := by decide +kernel
theorem dL_law_156 : decode cL_law 156 = .ok (.ireturn, 1) := by decide +kernel
theorem dL_law_157 : decode cL_law 157 = .ok (.aload_n 1, 1) := by decide +kernel
theorem dL_law_158 : decode cL_law 158 = .ok (.aload_n 0, 1) := by decide +kernel
theorem dL_law_159 : decode cL_law 159 = .ok (.iload_n 3, 1) := by decide +kernel
theorem dL_law_160 : decode cL_law 160 = .ok (.iconst 1, 1) := by decide +kernel
theorem dL_law_161 : decode cL_law 161 = .ok (.iadd, 1) := by decide +kernel
theorem dL_law_162 : decode cL_law 162 = .ok (.iaload, 1) := by decide +kernel
theorem dL_law_163 : decode cL_law 163 = .ok (.aload_n 0, 1) := by decide +kernel
theorem dL_law_164 : decode cL_law 164 = .ok (.iload_n 3, 1) := by decide +kernel
theorem dL_law_165 : decode cL_law 165 = .ok (.iconst 2, 1) := by decide +kernel
theorem dL_law_166 : decode cL_law 166 = .ok (.iadd, 1) := by decide +kernel
theorem dL_law_167 : decode cL_law 167 = .ok (.iaload, 1) := by decide +kernel
theorem dL_law_168 : decode cL_law 168 = .ok (.invokevirtual 18, 3) := by decide +kernel
theorem dL_law_171 : decode cL_law 171 = .ok (.aload_n 2, 1) := by decide +kernel
theorem dL_law_172 : decode cL_law 172 = .ok (.aload_n 0, 1) := by decide +kernel
theorem dL_law_173 : decode cL_law 173 = .ok (.iload_n 3, 1) := by decide +kernel
theorem dL_law_174 : decode cL_law 174 = .ok (.iconst 1, 1) := by decide +kernel
theorem dL_law_175 : decode cL_law 175 = .ok (.iadd, 1) := by decide +kernel
theorem dL_law_176 : decode cL_law 176 = .ok (.iaload, 1) := by decide +kernel
theorem dL_law_177 : decode cL_law 177 = .ok (.aload_n 0, 1) := by decide +kernel
theorem dL_law_178 : decode cL_law 178 = .ok (.iload_n 3, 1) := by decide +kernel
theorem dL_law_179 : decode cL_law 179 = .ok (.iconst 2, 1) := by decide +kernel
theorem dL_law_180 : decode cL_law 180 = .ok (.iadd, 1) := by decide +kernel
theorem dL_law_181 : decode cL_law 181 = .ok (.iaload, 1) := by decide +kernel
theorem dL_law_182 : decode cL_law 182 = .ok (.invokevirtual 21, 3) := by decide +kernel
theorem dL_law_185 : decode cL_law 185 = .ok (.if_icmp .eq 518, 3) := by decide +kernel
theorem dL_law_188 : decode cL_law 188 = .ok (.iconst 0, 1) := by decide +kernel
theorem dL_law_189 : decode cL_law 189 = .ok (.ireturn, 1) := by decide +kernel
theorem dL_law_190 : decode cL_law 190 = .ok (.aload_n 1, 1) := by decide +kernel
theorem dL_law_191 : decode cL_law 191 = .ok (.aload_n 0, 1) := by decide +kernel
theorem dL_law_192 : decode cL_law 192 = .ok (.iload_n 3, 1) := by decide +kernel
theorem dL_law_193 : decode cL_law 193 = .ok (.iconst 1, 1) := by decide +kernel
theorem dL_law_194 : decode cL_law 194 = .ok (.iadd, 1) := by decide +kernel
theorem dL_law_195 : decode cL_law 195 = .ok (.iaload, 1) := by decide +kernel
theorem dL_law_196 : decode cL_law 196 = .ok (.aload_n 0, 1) := by decide +kernel
theorem dL_law_197 : decode cL_law 197 = .ok (.iload_n 3, 1) := by decide +kernel
theorem dL_law_198 : decode cL_law 198 = .ok (.iconst 2, 1) := by decide +kernel
theorem dL_law_199 : decode cL_law 199 = .ok (.iadd, 1) := by decide +kernel
theorem dL_law_200 : decode cL_law 200 = .ok (.iaload, 1) := by decide +kernel
theorem dL_law_201 : decode cL_law 201 = .ok (.aload_n 0, 1) := by decide +kernel
theorem dL_law_202 : decode cL_law 202 = .ok (.iload_n 3, 1) := by decide +kernel
theorem dL_law_203 : decode cL_law 203 = .ok (.iconst 3, 1) := by decide +kernel
theorem dL_law_204 : decode cL_law 204 = .ok (.iadd, 1) := by decide +kernel
theorem dL_law_205 : decode cL_law 205 = .ok (.iaload, 1) := by decide +kernel
theorem dL_law_206 : decode cL_law 206 = .ok (.invokevirtual 22, 3) := by decide +kernel
theorem dL_law_209 : decode cL_law 209 = .ok (.aload_n 2, 1) := by decide +kernel
theorem dL_law_210 : decode cL_law 210 = .ok (.aload_n 0, 1) := by decide +kernel
theorem dL_law_211 : decode cL_law 211 = .ok (.iload_n 3, 1) := by decide +kernel
theorem dL_law_212 : decode cL_law 212 = .ok (.iconst 1, 1) := by decide +kernel
theorem dL_law_213 : decode cL_law 213 = .ok (.iadd, 1) := by decide +kernel
theorem dL_law_214 : decode cL_law 214 = .ok (.iaload, 1) := by decide +kernel
theorem dL_law_215 : decode cL_law 215 = .ok (.aload_n 0, 1) := by decide +kernel
theorem dL_law_216 : decode cL_law 216 = .ok (.iload_n 3, 1) := by decide +kernel
theorem dL_law_217 : decode cL_law 217 = .ok (.iconst 2, 1) := by decide +kernel
theorem dL_law_218 : decode cL_law 218 = .ok (.iadd, 1) := by decide +kernel
theorem dL_law_219 : decode cL_law 219 = .ok (.iaload, 1) := by decide +kernel
theorem dL_law_220 : decode cL_law 220 = .ok (.aload_n 0, 1) := by decide +kernel
theorem dL_law_221 : decode cL_law 221 = .ok (.iload_n 3, 1) := by decide +kernel
theorem dL_law_222 : decode cL_law 222 = .ok (.iconst 3, 1) := by decide +kernel
theorem dL_law_223 : decode cL_law 223 = .ok (.iadd, 1) := by decide +kernel
theorem dL_law_224 : decode cL_law 224 = .ok (.iaload, 1) := by decide +kernel
theorem dL_law_225 : decode cL_law 225 = .ok (.invokevirtual 26, 3) := by decide +kernel
theorem dL_law_228 : decode cL_law 228 = .ok (.if_icmp .eq 475, 3) := by decide +kernel
theorem dL_law_231 : decode cL_law 231 = .ok (.iconst 0, 1) := by decide +kernel
theorem dL_law_232 : decode cL_law 232 = .ok (.ireturn, 1) := by decide +kernel
theorem dL_law_233 : decode cL_law 233 = .ok (.aload_n 1, 1) := by decide +kernel
theorem dL_law_234 : decode cL_law 234 = .ok (.aload_n 0, 1) := by decide +kernel
theorem dL_law_235 : decode cL_law 235 = .ok (.iload_n 3, 1) := by decide +kernel
theorem dL_law_236 : decode cL_law 236 = .ok (.iconst 1, 1) := by decide +kernel
theorem dL_law_237 : decode cL_law 237 = .ok (.iadd, 1) := by decide +kernel
theorem dL_law_238 : decode cL_law 238 = .ok (.iaload, 1) := by decide +kernel
theorem dL_law_239 : decode cL_law 239 = .ok (.aload_n 0, 1) := by decide +kernel
theorem dL_law_240 : decode cL_law 240 = .ok (.iload_n 3, 1) := by decide +kernel
theorem dL_law_241 : decode cL_law 241 = .ok (.iconst 2, 1) := by decide +kernel
theorem dL_law_242 : decode cL_law 242 = .ok (.iadd, 1) := by decide +kernel
theorem dL_law_243 : decode cL_law 243 = .ok (.iaload, 1) := by decide +kernel
theorem dL_law_244 : decode cL_law 244 = .ok (.aload_n 0, 1) := by decide +kernel
theorem dL_law_245 : decode cL_law 245 = .ok (.iload_n 3, 1) := by decide +kernel
theorem dL_law_246 : decode cL_law 246 = .ok (.iconst 3, 1) := by decide +kernel
theorem dL_law_247 : decode cL_law 247 = .ok (.iadd, 1) := by decide +kernel
theorem dL_law_248 : decode cL_law 248 = .ok (.iaload, 1) := by decide +kernel
theorem dL_law_249 : decode cL_law 249 = .ok (.invokevirtual 27, 3) := by decide +kernel
theorem dL_law_252 : decode cL_law 252 = .ok (.aload_n 2, 1) := by decide +kernel
theorem dL_law_253 : decode cL_law 253 = .ok (.aload_n 0, 1) := by decide +kernel
theorem dL_law_254 : decode cL_law 254 = .ok (.iload_n 3, 1) := by decide +kernel
theorem dL_law_255 : decode cL_law 255 = .ok (.iconst 1, 1) := by decide +kernel
theorem dL_law_256 : decode cL_law 256 = .ok (.iadd, 1) := by decide +kernel
theorem dL_law_257 : decode cL_law 257 = .ok (.iaload, 1) := by decide +kernel
theorem dL_law_258 : decode cL_law 258 = .ok (.aload_n 0, 1) := by decide +kernel
theorem dL_law_259 : decode cL_law 259 = .ok (.iload_n 3, 1) := by decide +kernel
theorem dL_law_260 : decode cL_law 260 = .ok (.iconst 2, 1) := by decide +kernel
theorem dL_law_261 : decode cL_law 261 = .ok (.iadd, 1) := by decide +kernel
theorem dL_law_262 : decode cL_law 262 = .ok (.iaload, 1) := by decide +kernel
theorem dL_law_263 : decode cL_law 263 = .ok (.aload_n 0, 1) := by decide +kernel
theorem dL_law_264 : decode cL_law 264 = .ok (.iload_n 3, 1) := by decide +kernel
theorem dL_law_265 : decode cL_law 265 = .ok (.iconst 3, 1) := by decide +kernel
theorem dL_law_266 : decode cL_law 266 = .ok (.iadd, 1) := by decide +kernel
theorem dL_law_267 : decode cL_law 267 = .ok (.iaload, 1) := by decide +kernel
theorem dL_law_268 : decode cL_law 268 = .ok (.invokevirtual 30, 3) := by decide +kernel
theorem dL_law_271 : decode cL_law 271 = .ok (.if_icmp .eq 432, 3) := by decide +kernel
theorem dL_law_274 : decode cL_law 274 = .ok (.iconst 0, 1) := by decide +kernel
theorem dL_law_275 : decode cL_law 275 = .ok (.ireturn, 1) := by decide +kernel
theorem dL_law_276 : decode cL_law 276 = .ok (.aload_n 1, 1) := by decide +kernel
theorem dL_law_277 : decode cL_law 277 = .ok (.invokevirtual 31, 3) := by decide +kernel
theorem dL_law_280 : decode cL_law 280 = .ok (.aload_n 2, 1) := by decide +kernel
theorem dL_law_281 : decode cL_law 281 = .ok (.invokevirtual 35, 3) := by decide +kernel
theorem dL_law_284 : decode cL_law 284 = .ok (.if_icmp .eq 419, 3) := by decide +kernel
theorem dL_law_287 : decode cL_law 287 = .ok (.iconst 0, 1) := by decide +kernel
theorem dL_law_288 : decode cL_law 288 = .ok (.ireturn, 1) := by decide +kernel
theorem dL_law_289 : decode cL_law 289 = .ok (.aload_n 1, 1) := by decide +kernel
theorem dL_law_290 : decode cL_law 290 = .ok (.aload_n 0, 1) := by decide +kernel
theorem dL_law_291 : decode cL_law 291 = .ok (.iload_n 3, 1) := by decide +kernel
theorem dL_law_292 : decode cL_law 292 = .ok (.iconst 1, 1) := by decide +kernel
theorem dL_law_293 : decode cL_law 293 = .ok (.iadd, 1) := by decide +kernel
theorem dL_law_294 : decode cL_law 294 = .ok (.iaload, 1) := by decide +kernel
theorem dL_law_295 : decode cL_law 295 = .ok (.invokevirtual 36, 3) := by decide +kernel
theorem dL_law_298 : decode cL_law 298 = .ok (.aload_n 2, 1) := by decide +kernel
theorem dL_law_299 : decode cL_law 299 = .ok (.aload_n 0, 1) := by decide +kernel
theorem dL_law_300 : decode cL_law 300 = .ok (.iload_n 3, 1) := by decide +kernel
theorem dL_law_301 : decode cL_law 301 = .ok (.iconst 1, 1) := by decide +kernel
theorem dL_law_302 : decode cL_law 302 = .ok (.iadd, 1) := by decide +kernel
theorem dL_law_303 : decode cL_law 303 = .ok (.iaload, 1) := by decide +kernel
theorem dL_law_304 : decode cL_law 304 = .ok (.invokevirtual 40, 3) := by decide +kernel
theorem dL_law_307 : decode cL_law 307 = .ok (.if_icmp .eq 396, 3) := by decide +kernel
theorem dL_law_310 : decode cL_law 310 = .ok (.iconst 0, 1) := by decide +kernel
theorem dL_law_311 : decode cL_law 311 = .ok (.ireturn, 1) := by decide +kernel
theorem dL_law_312 : decode cL_law 312 = .ok (.aload_n 1, 1) := by decide +kernel
theorem dL_law_313 : decode cL_law 313 = .ok (.aload_n 0, 1) := by decide +kernel
theorem dL_law_314 : decode cL_law 314 = .ok (.iload_n 3, 1) := by decide +kernel
theorem dL_law_315 : decode cL_law 315 = .ok (.iconst 1, 1) := by decide +kernel
theorem dL_law_316 : decode cL_law 316 = .ok (.iadd, 1) := by decide +kernel
theorem dL_law_317 : decode cL_law 317 = .ok (.iaload, 1) := by decide +kernel
theorem dL_law_318 : decode cL_law 318 = .ok (.invokevirtual 41, 3) := by decide +kernel
theorem dL_law_321 : decode cL_law 321 = .ok (.aload_n 2, 1) := by decide +kernel
theorem dL_law_322 : decode cL_law 322 = .ok (.aload_n 0, 1) := by decide +kernel
theorem dL_law_323 : decode cL_law 323 = .ok (.iload_n 3, 1) := by decide +kernel
theorem dL_law_324 : decode cL_law 324 = .ok (.iconst 1, 1) := by decide +kernel
theorem dL_law_325 : decode cL_law 325 = .ok (.iadd, 1) := by decide +kernel
theorem dL_law_326 : decode cL_law 326 = .ok (.iaload, 1) := by decide +kernel
theorem dL_law_327 : decode cL_law 327 = .ok (.invokevirtual 44, 3) := by decide +kernel
theorem dL_law_330 : decode cL_law 330 = .ok (.if_icmp .eq 373, 3) := by decide +kernel
theorem dL_law_333 : decode cL_law 333 = .ok (.iconst 0, 1) := by decide +kernel
theorem dL_law_334 : decode cL_law 334 = .ok (.ireturn, 1) := by decide +kernel
theorem dL_law_335 : decode cL_law 335 = .ok (.aload_n 1, 1) := by decide +kernel
theorem dL_law_336 : decode cL_law 336 = .ok (.aload_n 0, 1) := by decide +kernel
theorem dL_law_337 : decode cL_law 337 = .ok (.iload_n 3, 1) := by decide +kernel
theorem dL_law_338 : decode cL_law 338 = .ok (.iconst 1, 1) := by decide +kernel
theorem dL_law_339 : decode cL_law 339 = .ok (.iadd, 1) := by decide +kernel
theorem dL_law_340 : decode cL_law 340 = .ok (.iaload, 1) := by decide +kernel
theorem dL_law_341 : decode cL_law 341 = .ok (.aload_n 0, 1) := by decide +kernel
theorem dL_law_342 : decode cL_law 342 = .ok (.iload_n 3, 1) := by decide +kernel
theorem dL_law_343 : decode cL_law 343 = .ok (.iconst 2, 1) := by decide +kernel
theorem dL_law_344 : decode cL_law 344 = .ok (.iadd, 1) := by decide +kernel
theorem dL_law_345 : decode cL_law 345 = .ok (.iaload, 1) := by decide +kernel
theorem dL_law_346 : decode cL_law 346 = .ok (.invokevirtual 45, 3) := by decide +kernel
theorem dL_law_349 : decode cL_law 349 = .ok (.aload_n 2, 1) := by decide +kernel
theorem dL_law_350 : decode cL_law 350 = .ok (.aload_n 0, 1) := by decide +kernel
theorem dL_law_351 : decode cL_law 351 = .ok (.iload_n 3, 1) := by decide +kernel
theorem dL_law_352 : decode cL_law 352 = .ok (.iconst 1, 1) := by decide +kernel
theorem dL_law_353 : decode cL_law 353 = .ok (.iadd, 1) := by decide +kernel
theorem dL_law_354 : decode cL_law 354 = .ok (.iaload, 1) := by decide +kernel
theorem dL_law_355 : decode cL_law 355 = .ok (.aload_n 0, 1) := by decide +kernel
theorem dL_law_356 : decode cL_law 356 = .ok (.iload_n 3, 1) := by decide +kernel
theorem dL_law_357 : decode cL_law 357 = .ok (.iconst 2, 1) := by decide +kernel
theorem dL_law_358 : decode cL_law 358 = .ok (.iadd, 1) := by decide +kernel
theorem dL_law_359 : decode cL_law 359 = .ok (.iaload, 1) := by decide +kernel
theorem dL_law_360 : decode cL_law 360 = .ok (.invokevirtual 48, 3) := by decide +kernel
theorem dL_law_363 : decode cL_law 363 = .ok (.if_icmp .eq 340, 3) := by decide +kernel
theorem dL_law_366 : decode cL_law 366 = .ok (.iconst 0, 1) := by decide +kernel
theorem dL_law_367 : decode cL_law 367 = .ok (.ireturn, 1) := by decide +kernel
theorem dL_law_368 : decode cL_law 368 = .ok (.aload_n 1, 1) := by decide +kernel
theorem dL_law_369 : decode cL_law 369 = .ok (.aload_n 0, 1) := by decide +kernel
theorem dL_law_370 : decode cL_law 370 = .ok (.iload_n 3, 1) := by decide +kernel
theorem dL_law_371 : decode cL_law 371 = .ok (.iconst 1, 1) := by decide +kernel
theorem dL_law_372 : decode cL_law 372 = .ok (.iadd, 1) := by decide +kernel
theorem dL_law_373 : decode cL_law 373 = .ok (.iaload, 1) := by decide +kernel
theorem dL_law_374 : decode cL_law 374 = .ok (.invokevirtual 49, 3) := by decide +kernel
theorem dL_law_377 : decode cL_law 377 = .ok (.aload_n 2, 1) := by decide +kernel
theorem dL_law_378 : decode cL_law 378 = .ok (.aload_n 0, 1) := by decide +kernel
theorem dL_law_379 : decode cL_law 379 = .ok (.iload_n 3, 1) := by decide +kernel
theorem dL_law_380 : decode cL_law 380 = .ok (.iconst 1, 1) := by decide +kernel
theorem dL_law_381 : decode cL_law 381 = .ok (.iadd, 1) := by decide +kernel
theorem dL_law_382 : decode cL_law 382 = .ok (.iaload, 1) := by decide +kernel
theorem dL_law_383 : decode cL_law 383 = .ok (.invokevirtual 52, 3) := by decide +kernel
theorem dL_law_386 : decode cL_law 386 = .ok (.if_icmp .eq 317, 3) := by decide +kernel
theorem dL_law_389 : decode cL_law 389 = .ok (.iconst 0, 1) := by decide +kernel
theorem dL_law_390 : decode cL_law 390 = .ok (.ireturn, 1) := by decide +kernel
theorem dL_law_391 : decode cL_law 391 = .ok (.aload_n 1, 1) := by decide +kernel
theorem dL_law_392 : decode cL_law 392 = .ok (.aload_n 0, 1) := by decide +kernel
theorem dL_law_393 : decode cL_law 393 = .ok (.iload_n 3, 1) := by decide +kernel
theorem dL_law_394 : decode cL_law 394 = .ok (.iconst 1, 1) := by decide +kernel
theorem dL_law_395 : decode cL_law 395 = .ok (.iadd, 1) := by decide +kernel
theorem dL_law_396 : decode cL_law 396 = .ok (.iaload, 1) := by decide +kernel
theorem dL_law_397 : decode cL_law 397 = .ok (.aload_n 0, 1) := by decide +kernel
theorem dL_law_398 : decode cL_law 398 = .ok (.iload_n 3, 1) := by decide +kernel
theorem dL_law_399 : decode cL_law 399 = .ok (.iconst 2, 1) := by decide +kernel
theorem dL_law_400 : decode cL_law 400 = .ok (.iadd, 1) := by decide +kernel
theorem dL_law_401 : decode cL_law 401 = .ok (.iaload, 1) := by decide +kernel
theorem dL_law_402 : decode cL_law 402 = .ok (.aload_n 0, 1) := by decide +kernel
theorem dL_law_403 : decode cL_law 403 = .ok (.iload_n 3, 1) := by decide +kernel
theorem dL_law_404 : decode cL_law 404 = .ok (.iconst 3, 1) := by decide +kernel
theorem dL_law_405 : decode cL_law 405 = .ok (.iadd, 1) := by decide +kernel
theorem dL_law_406 : decode cL_law 406 = .ok (.iaload, 1) := by decide +kernel
theorem dL_law_407 : decode cL_law 407 = .ok (.invokevirtual 53, 3) := by decide +kernel
theorem dL_law_410 : decode cL_law 410 = .ok (.aload_n 2, 1) := by decide +kernel
theorem dL_law_411 : decode cL_law 411 = .ok (.aload_n 0, 1) := by decide +kernel
theorem dL_law_412 : decode cL_law 412 = .ok (.iload_n 3, 1) := by decide +kernel
theorem dL_law_413 : decode cL_law 413 = .ok (.iconst 1, 1) := by decide +kernel
theorem dL_law_414 : decode cL_law 414 = .ok (.iadd, 1) := by decide +kernel
theorem dL_law_415 : decode cL_law 415 = .ok (.iaload, 1) := by decide +kernel
theorem dL_law_416 : decode cL_law 416 = .ok (.aload_n 0, 1) := by decide +kernel
theorem dL_law_417 : decode cL_law 417 = .ok (.iload_n 3, 1) := by decide +kernel
theorem dL_law_418 : decode cL_law 418 = .ok (.iconst 2, 1) := by decide +kernel
theorem dL_law_419 : decode cL_law 419 = .ok (.iadd, 1) := by decide +kernel
theorem dL_law_420 : decode cL_law 420 = .ok (.iaload, 1) := by decide +kernel
theorem dL_law_421 : decode cL_law 421 = .ok (.aload_n 0, 1) := by decide +kernel
theorem dL_law_422 : decode cL_law 422 = .ok (.iload_n 3, 1) := by decide +kernel
theorem dL_law_423 : decode cL_law 423 = .ok (.iconst 3, 1) := by decide +kernel
theorem dL_law_424 : decode cL_law 424 = .ok (.iadd, 1) := by decide +kernel
theorem dL_law_425 : decode cL_law 425 = .ok (.iaload, 1) := by decide +kernel
theorem dL_law_426 : decode cL_law 426 = .ok (.invokevirtual 56, 3) := by decide +kernel
theorem dL_law_429 : decode cL_law 429 = .ok (.if_icmp .eq 274, 3) := by decide +kernel
theorem dL_law_432 : decode cL_law 432 = .ok (.iconst 0, 1) := by decide +kernel
theorem dL_law_433 : decode cL_law 433 = .ok (.ireturn, 1) := by decide +kernel
theorem dL_law_434 : decode cL_law 434 = .ok (.aload_n 1, 1) := by decide +kernel
theorem dL_law_435 : decode cL_law 435 = .ok (.aload_n 0, 1) := by decide +kernel
theorem dL_law_436 : decode cL_law 436 = .ok (.iload_n 3, 1) := by decide +kernel
theorem dL_law_437 : decode cL_law 437 = .ok (.iconst 1, 1) := by decide +kernel
theorem dL_law_438 : decode cL_law 438 = .ok (.iadd, 1) := by decide +kernel
theorem dL_law_439 : decode cL_law 439 = .ok (.iaload, 1) := by decide +kernel
theorem dL_law_440 : decode cL_law 440 = .ok (.aload_n 0, 1) := by decide +kernel
theorem dL_law_441 : decode cL_law 441 = .ok (.iload_n 3, 1) := by decide +kernel
theorem dL_law_442 : decode cL_law 442 = .ok (.iconst 2, 1) := by decide +kernel
theorem dL_law_443 : decode cL_law 443 = .ok (.iadd, 1) := by decide +kernel
theorem dL_law_444 : decode cL_law 444 = .ok (.iaload, 1) := by decide +kernel
theorem dL_law_445 : decode cL_law 445 = .ok (.invokevirtual 57, 3) := by decide +kernel
theorem dL_law_448 : decode cL_law 448 = .ok (.aload_n 2, 1) := by decide +kernel
theorem dL_law_449 : decode cL_law 449 = .ok (.aload_n 0, 1) := by decide +kernel
theorem dL_law_450 : decode cL_law 450 = .ok (.iload_n 3, 1) := by decide +kernel
theorem dL_law_451 : decode cL_law 451 = .ok (.iconst 1, 1) := by decide +kernel
theorem dL_law_452 : decode cL_law 452 = .ok (.iadd, 1) := by decide +kernel
theorem dL_law_453 : decode cL_law 453 = .ok (.iaload, 1) := by decide +kernel
theorem dL_law_454 : decode cL_law 454 = .ok (.aload_n 0, 1) := by decide +kernel
theorem dL_law_455 : decode cL_law 455 = .ok (.iload_n 3, 1) := by decide +kernel
theorem dL_law_456 : decode cL_law 456 = .ok (.iconst 2, 1) := by decide +kernel
theorem dL_law_457 : decode cL_law 457 = .ok (.iadd, 1) := by decide +kernel
theorem dL_law_458 : decode cL_law 458 = .ok (.iaload, 1) := by decide +kernel
theorem dL_law_459 : decode cL_law 459 = .ok (.invokevirtual 60, 3) := by decide +kernel
theorem dL_law_462 : decode cL_law 462 = .ok (.if_icmp .eq 241, 3) := by decide +kernel
theorem dL_law_465 : decode cL_law 465 = .ok (.iconst 0, 1) := by decide +kernel
theorem dL_law_466 : decode cL_law 466 = .ok (.ireturn, 1) := by decide +kernel
theorem dL_law_467 : decode cL_law 467 = .ok (.aload_n 1, 1) := by decide +kernel
theorem dL_law_468 : decode cL_law 468 = .ok (.aload_n 0, 1) := by decide +kernel
theorem dL_law_469 : decode cL_law 469 = .ok (.iload_n 3, 1) := by decide +kernel
theorem dL_law_470 : decode cL_law 470 = .ok (.iconst 1, 1) := by decide +kernel
theorem dL_law_471 : decode cL_law 471 = .ok (.iadd, 1) := by decide +kernel
theorem dL_law_472 : decode cL_law 472 = .ok (.iaload, 1) := by decide +kernel
theorem dL_law_473 : decode cL_law 473 = .ok (.aload_n 0, 1) := by decide +kernel
theorem dL_law_474 : decode cL_law 474 = .ok (.iload_n 3, 1) := by decide +kernel
theorem dL_law_475 : decode cL_law 475 = .ok (.iconst 2, 1) := by decide +kernel
theorem dL_law_476 : decode cL_law 476 = .ok (.iadd, 1) := by decide +kernel
theorem dL_law_477 : decode cL_law 477 = .ok (.iaload, 1) := by decide +kernel
theorem dL_law_478 : decode cL_law 478 = .ok (.invokevirtual 61, 3) := by decide +kernel
theorem dL_law_481 : decode cL_law 481 = .ok (.aload_n 2, 1) := by decide +kernel
theorem dL_law_482 : decode cL_law 482 = .ok (.aload_n 0, 1) := by decide +kernel
theorem dL_law_483 : decode cL_law 483 = .ok (.iload_n 3, 1) := by decide +kernel
theorem dL_law_484 : decode cL_law 484 = .ok (.iconst 1, 1) := by decide +kernel
theorem dL_law_485 : decode cL_law 485 = .ok (.iadd, 1) := by decide +kernel
theorem dL_law_486 : decode cL_law 486 = .ok (.iaload, 1) := by decide +kernel
theorem dL_law_487 : decode cL_law 487 = .ok (.aload_n 0, 1) := by decide +kernel
theorem dL_law_488 : decode cL_law 488 = .ok (.iload_n 3, 1) := by decide +kernel
theorem dL_law_489 : decode cL_law 489 = .ok (.iconst 2, 1) := by decide +kernel
theorem dL_law_490 : decode cL_law 490 = .ok (.iadd, 1) := by decide +kernel
theorem dL_law_491 : decode cL_law 491 = .ok (.iaload, 1) := by decide +kernel
theorem dL_law_492 : decode cL_law 492 = .ok (.invokevirtual 64, 3) := by decide +kernel
theorem dL_law_495 : decode cL_law 495 = .ok (.if_icmp .eq 208, 3) := by decide +kernel
theorem dL_law_498 : decode cL_law 498 = .ok (.iconst 0, 1) := by decide +kernel
theorem dL_law_499 : decode cL_law 499 = .ok (.ireturn, 1) := by decide +kernel
theorem dL_law_500 : decode cL_law 500 = .ok (.aload_n 1, 1) := by decide +kernel
theorem dL_law_501 : decode cL_law 501 = .ok (.aload_n 0, 1) := by decide +kernel
theorem dL_law_502 : decode cL_law 502 = .ok (.iload_n 3, 1) := by decide +kernel
theorem dL_law_503 : decode cL_law 503 = .ok (.iconst 1, 1) := by decide +kernel
theorem dL_law_504 : decode cL_law 504 = .ok (.iadd, 1) := by decide +kernel
theorem dL_law_505 : decode cL_law 505 = .ok (.iaload, 1) := by decide +kernel
theorem dL_law_506 : decode cL_law 506 = .ok (.invokevirtual 65, 3) := by decide +kernel
theorem dL_law_509 : decode cL_law 509 = .ok (.aload_n 2, 1) := by decide +kernel
theorem dL_law_510 : decode cL_law 510 = .ok (.aload_n 0, 1) := by decide +kernel
theorem dL_law_511 : decode cL_law 511 = .ok (.iload_n 3, 1) := by decide +kernel
theorem dL_law_512 : decode cL_law 512 = .ok (.iconst 1, 1) := by decide +kernel
theorem dL_law_513 : decode cL_law 513 = .ok (.iadd, 1) := by decide +kernel
theorem dL_law_514 : decode cL_law 514 = .ok (.iaload, 1) := by decide +kernel
theorem dL_law_515 : decode cL_law 515 = .ok (.invokevirtual 68, 3) := by decide +kernel
theorem dL_law_518 : decode cL_law 518 = .ok (.if_icmp .eq 185, 3) := by decide +kernel
theorem dL_law_521 : decode cL_law 521 = .ok (.iconst 0, 1) := by decide +kernel
theorem dL_law_522 : decode cL_law 522 = .ok (.ireturn, 1) := by decide +kernel
theorem dL_law_523 : decode cL_law 523 = .ok (.aload_n 1, 1) := by decide +kernel
theorem dL_law_524 : decode cL_law 524 = .ok (.aload_n 0, 1) := by decide +kernel
theorem dL_law_525 : decode cL_law 525 = .ok (.iload_n 3, 1) := by decide +kernel
theorem dL_law_526 : decode cL_law 526 = .ok (.iconst 1, 1) := by decide +kernel
theorem dL_law_527 : decode cL_law 527 = .ok (.iadd, 1) := by decide +kernel
theorem dL_law_528 : decode cL_law 528 = .ok (.iaload, 1) := by decide +kernel
theorem dL_law_529 : decode cL_law 529 = .ok (.invokevirtual 69, 3) := by decide +kernel
theorem dL_law_532 : decode cL_law 532 = .ok (.aload_n 2, 1) := by decide +kernel
theorem dL_law_533 : decode cL_law 533 = .ok (.aload_n 0, 1) := by decide +kernel
theorem dL_law_534 : decode cL_law 534 = .ok (.iload_n 3, 1) := by decide +kernel
theorem dL_law_535 : decode cL_law 535 = .ok (.iconst 1, 1) := by decide +kernel
theorem dL_law_536 : decode cL_law 536 = .ok (.iadd, 1) := by decide +kernel
theorem dL_law_537 : decode cL_law 537 = .ok (.iaload, 1) := by decide +kernel
theorem dL_law_538 : decode cL_law 538 = .ok (.invokevirtual 72, 3) := by decide +kernel
theorem dL_law_541 : decode cL_law 541 = .ok (.if_icmp .eq 162, 3) := by decide +kernel
theorem dL_law_544 : decode cL_law 544 = .ok (.iconst 0, 1) := by decide +kernel
theorem dL_law_545 : decode cL_law 545 = .ok (.ireturn, 1) := by decide +kernel
theorem dL_law_546 : decode cL_law 546 = .ok (.aload_n 1, 1) := by decide +kernel
theorem dL_law_547 : decode cL_law 547 = .ok (.aload_n 0, 1) := by decide +kernel
theorem dL_law_548 : decode cL_law 548 = .ok (.iload_n 3, 1) := by decide +kernel
theorem dL_law_549 : decode cL_law 549 = .ok (.iconst 1, 1) := by decide +kernel
theorem dL_law_550 : decode cL_law 550 = .ok (.iadd, 1) := by decide +kernel
theorem dL_law_551 : decode cL_law 551 = .ok (.iaload, 1) := by decide +kernel
theorem dL_law_552 : decode cL_law 552 = .ok (.aload_n 0, 1) := by decide +kernel
theorem dL_law_553 : decode cL_law 553 = .ok (.iload_n 3, 1) := by decide +kernel
theorem dL_law_554 : decode cL_law 554 = .ok (.iconst 2, 1) := by decide +kernel
theorem dL_law_555 : decode cL_law 555 = .ok (.iadd, 1) := by decide +kernel
theorem dL_law_556 : decode cL_law 556 = .ok (.iaload, 1) := by decide +kernel
theorem dL_law_557 : decode cL_law 557 = .ok (.aload_n 0, 1) := by decide +kernel
theorem dL_law_558 : decode cL_law 558 = .ok (.iload_n 3, 1) := by decide +kernel
theorem dL_law_559 : decode cL_law 559 = .ok (.iconst 3, 1) := by decide +kernel
theorem dL_law_560 : decode cL_law 560 = .ok (.iadd, 1) := by decide +kernel
theorem dL_law_561 : decode cL_law 561 = .ok (.iaload, 1) := by decide +kernel
theorem dL_law_562 : decode cL_law 562 = .ok (.aload_n 0, 1) := by decide +kernel
theorem dL_law_563 : decode cL_law 563 = .ok (.iload_n 3, 1) := by decide +kernel
theorem dL_law_564 : decode cL_law 564 = .ok (.iconst 4, 1) := by decide +kernel
theorem dL_law_565 : decode cL_law 565 = .ok (.iadd, 1) := by decide +kernel
theorem dL_law_566 : decode cL_law 566 = .ok (.iaload, 1) := by decide +kernel
theorem dL_law_567 : decode cL_law 567 = .ok (.invokevirtual 73, 3) := by decide +kernel
theorem dL_law_570 : decode cL_law 570 = .ok (.aload_n 2, 1) := by decide +kernel
theorem dL_law_571 : decode cL_law 571 = .ok (.aload_n 0, 1) := by decide +kernel
theorem dL_law_572 : decode cL_law 572 = .ok (.iload_n 3, 1) := by decide +kernel
theorem dL_law_573 : decode cL_law 573 = .ok (.iconst 1, 1) := by decide +kernel
theorem dL_law_574 : decode cL_law 574 = .ok (.iadd, 1) := by decide +kernel
theorem dL_law_575 : decode cL_law 575 = .ok (.iaload, 1) := by decide +kernel
theorem dL_law_576 : decode cL_law 576 = .ok (.aload_n 0, 1) := by decide +kernel
theorem dL_law_577 : decode cL_law 577 = .ok (.iload_n 3, 1) := by decide +kernel
theorem dL_law_578 : decode cL_law 578 = .ok (.iconst 2, 1) := by decide +kernel
theorem dL_law_579 : decode cL_law 579 = .ok (.iadd, 1) := by decide +kernel
theorem dL_law_580 : decode cL_law 580 = .ok (.iaload, 1) := by decide +kernel
theorem dL_law_581 : decode cL_law 581 = .ok (.aload_n 0, 1) := by decide +kernel
theorem dL_law_582 : decode cL_law 582 = .ok (.iload_n 3, 1) := by decide +kernel
theorem dL_law_583 : decode cL_law 583 = .ok (.iconst 3, 1) := by decide +kernel
theorem dL_law_584 : decode cL_law 584 = .ok (.iadd, 1) := by decide +kernel
theorem dL_law_585 : decode cL_law 585 = .ok (.iaload, 1) := by decide +kernel
theorem dL_law_586 : decode cL_law 586 = .ok (.aload_n 0, 1) := by decide +kernel
theorem dL_law_587 : decode cL_law 587 = .ok (.iload_n 3, 1) := by decide +kernel
theorem dL_law_588 : decode cL_law 588 = .ok (.iconst 4, 1) := by decide +kernel
theorem dL_law_589 : decode cL_law 589 = .ok (.iadd, 1) := by decide +kernel
theorem dL_law_590 : decode cL_law 590 = .ok (.iaload, 1) := by decide +kernel
theorem dL_law_591 : decode cL_law 591 = .ok (.invokevirtual 77, 3) := by decide +kernel
theorem dL_law_594 : decode cL_law 594 = .ok (.if_icmp .eq 109, 3) := by decide +kernel
theorem dL_law_597 : decode cL_law 597 = .ok (.iconst 0, 1) := by decide +kernel
theorem dL_law_598 : decode cL_law 598 = .ok (.ireturn, 1) := by decide +kernel
theorem dL_law_599 : decode cL_law 599 = .ok (.aload_n 1, 1) := by decide +kernel
theorem dL_law_600 : decode cL_law 600 = .ok (.aload_n 0, 1) := by decide +kernel
theorem dL_law_601 : decode cL_law 601 = .ok (.iload_n 3, 1) := by decide +kernel
theorem dL_law_602 : decode cL_law 602 = .ok (.iconst 1, 1) := by decide +kernel
theorem dL_law_603 : decode cL_law 603 = .ok (.iadd, 1) := by decide +kernel
theorem dL_law_604 : decode cL_law 604 = .ok (.iaload, 1) := by decide +kernel
theorem dL_law_605 : decode cL_law 605 = .ok (.aload_n 0, 1) := by decide +kernel
theorem dL_law_606 : decode cL_law 606 = .ok (.iload_n 3, 1) := by decide +kernel
theorem dL_law_607 : decode cL_law 607 = .ok (.iconst 2, 1) := by decide +kernel
theorem dL_law_608 : decode cL_law 608 = .ok (.iadd, 1) := by decide +kernel
theorem dL_law_609 : decode cL_law 609 = .ok (.iaload, 1) := by decide +kernel
theorem dL_law_610 : decode cL_law 610 = .ok (.aload_n 0, 1) := by decide +kernel
theorem dL_law_611 : decode cL_law 611 = .ok (.iload_n 3, 1) := by decide +kernel
theorem dL_law_612 : decode cL_law 612 = .ok (.iconst 3, 1) := by decide +kernel
theorem dL_law_613 : decode cL_law 613 = .ok (.iadd, 1) := by decide +kernel
theorem dL_law_614 : decode cL_law 614 = .ok (.iaload, 1) := by decide +kernel
theorem dL_law_615 : decode cL_law 615 = .ok (.invokevirtual 78, 3) := by decide +kernel
theorem dL_law_618 : decode cL_law 618 = .ok (.aload_n 2, 1) := by decide +kernel
theorem dL_law_619 : decode cL_law 619 = .ok (.aload_n 0, 1) := by decide +kernel
theorem dL_law_620 : decode cL_law 620 = .ok (.iload_n 3, 1) := by decide +kernel
theorem dL_law_621 : decode cL_law 621 = .ok (.iconst 1, 1) := by decide +kernel
theorem dL_law_622 : decode cL_law 622 = .ok (.iadd, 1) := by decide +kernel
theorem dL_law_623 : decode cL_law 623 = .ok (.iaload, 1) := by decide +kernel
theorem dL_law_624 : decode cL_law 624 = .ok (.aload_n 0, 1) := by decide +kernel
theorem dL_law_625 : decode cL_law 625 = .ok (.iload_n 3, 1) := by decide +kernel
theorem dL_law_626 : decode cL_law 626 = .ok (.iconst 2, 1) := by decide +kernel
theorem dL_law_627 : decode cL_law 627 = .ok (.iadd, 1) := by decide +kernel
theorem dL_law_628 : decode cL_law 628 = .ok (.iaload, 1) := by decide +kernel
theorem dL_law_629 : decode cL_law 629 = .ok (.aload_n 0, 1) := by decide +kernel
theorem dL_law_630 : decode cL_law 630 = .ok (.iload_n 3, 1) := by decide +kernel
theorem dL_law_631 : decode cL_law 631 = .ok (.iconst 3, 1) := by decide +kernel
theorem dL_law_632 : decode cL_law 632 = .ok (.iadd, 1) := by decide +kernel
theorem dL_law_633 : decode cL_law 633 = .ok (.iaload, 1) := by decide +kernel
theorem dL_law_634 : decode cL_law 634 = .ok (.invokevirtual 82, 3) := by decide +kernel
theorem dL_law_637 : decode cL_law 637 = .ok (.lcmp, 1) := by decide +kernel
theorem dL_law_638 : decode cL_law 638 = .ok (.ifCond .eq 65, 3) := by decide +kernel
theorem dL_law_641 : decode cL_law 641 = .ok (.iconst 0, 1) := by decide +kernel
theorem dL_law_642 : decode cL_law 642 = .ok (.ireturn, 1) := by decide +kernel
theorem dL_law_643 : decode cL_law 643 = .ok (.aload_n 1, 1) := by decide +kernel
theorem dL_law_644 : decode cL_law 644 = .ok (.invokevirtual 83, 3) := by decide +kernel
theorem dL_law_647 : decode cL_law 647 = .ok (.aload_n 2, 1) := by decide +kernel
theorem dL_law_648 : decode cL_law 648 = .ok (.invokevirtual 87, 3) := by decide +kernel
theorem dL_law_651 : decode cL_law 651 = .ok (.lcmp, 1) := by decide +kernel
theorem dL_law_652 : decode cL_law 652 = .ok (.ifCond .eq 51, 3) := by decide +kernel
theorem dL_law_655 : decode cL_law 655 = .ok (.iconst 0, 1) := by decide +kernel
theorem dL_law_656 : decode cL_law 656 = .ok (.ireturn, 1) := by decide +kernel
theorem dL_law_657 : decode cL_law 657 = .ok (.aload_n 1, 1) := by decide +kernel
theorem dL_law_658 : decode cL_law 658 = .ok (.aload_n 0, 1) := by decide +kernel
theorem dL_law_659 : decode cL_law 659 = .ok (.iload_n 3, 1) := by decide +kernel
theorem dL_law_660 : decode cL_law 660 = .ok (.iconst 1, 1) := by decide +kernel
theorem dL_law_661 : decode cL_law 661 = .ok (.iadd, 1) := by decide +kernel
theorem dL_law_662 : decode cL_law 662 = .ok (.iaload, 1) := by decide +kernel
theorem dL_law_663 : decode cL_law 663 = .ok (.invokevirtual 88, 3) := by decide +kernel
theorem dL_law_666 : decode cL_law 666 = .ok (.aload_n 2, 1) := by decide +kernel
theorem dL_law_667 : decode cL_law 667 = .ok (.aload_n 0, 1) := by decide +kernel
theorem dL_law_668 : decode cL_law 668 = .ok (.iload_n 3, 1) := by decide +kernel
theorem dL_law_669 : decode cL_law 669 = .ok (.iconst 1, 1) := by decide +kernel
theorem dL_law_670 : decode cL_law 670 = .ok (.iadd, 1) := by decide +kernel
theorem dL_law_671 : decode cL_law 671 = .ok (.iaload, 1) := by decide +kernel
theorem dL_law_672 : decode cL_law 672 = .ok (.invokevirtual 91, 3) := by decide +kernel
theorem dL_law_675 : decode cL_law 675 = .ok (.if_icmp .eq 28, 3) := by decide +kernel
theorem dL_law_678 : decode cL_law 678 = .ok (.iconst 0, 1) := by decide +kernel
theorem dL_law_679 : decode cL_law 679 = .ok (.ireturn, 1) := by decide +kernel
theorem dL_law_680 : decode cL_law 680 = .ok (.aload_n 1, 1) := by decide +kernel
theorem dL_law_681 : decode cL_law 681 = .ok (.aload_n 0, 1) := by decide +kernel
theorem dL_law_682 : decode cL_law 682 = .ok (.iload_n 3, 1) := by decide +kernel
theorem dL_law_683 : decode cL_law 683 = .ok (.iconst 1, 1) := by decide +kernel
theorem dL_law_684 : decode cL_law 684 = .ok (.iadd, 1) := by decide +kernel
theorem dL_law_685 : decode cL_law 685 = .ok (.iaload, 1) := by decide +kernel
theorem dL_law_686 : decode cL_law 686 = .ok (.invokevirtual 92, 3) := by decide +kernel
theorem dL_law_689 : decode cL_law 689 = .ok (.aload_n 2, 1) := by decide +kernel
theorem dL_law_690 : decode cL_law 690 = .ok (.aload_n 0, 1) := by decide +kernel
theorem dL_law_691 : decode cL_law 691 = .ok (.iload_n 3, 1) := by decide +kernel
theorem dL_law_692 : decode cL_law 692 = .ok (.iconst 1, 1) := by decide +kernel
theorem dL_law_693 : decode cL_law 693 = .ok (.iadd, 1) := by decide +kernel
theorem dL_law_694 : decode cL_law 694 = .ok (.iaload, 1) := by decide +kernel
theorem dL_law_695 : decode cL_law 695 = .ok (.invokevirtual 95, 3) := by decide +kernel
theorem dL_law_698 : decode cL_law 698 = .ok (.if_icmp .eq 5, 3) := by decide +kernel
theorem dL_law_701 : decode cL_law 701 = .ok (.iconst 0, 1) := by decide +kernel
theorem dL_law_702 : decode cL_law 702 = .ok (.ireturn, 1) := by decide +kernel
theorem dL_law_703 : decode cL_law 703 = .ok (.iinc 3 5, 3) := by decide +kernel
theorem dL_law_706 : decode cL_law 706 = .ok (.goto (-688), 3) := by decide +kernel
theorem dL_law_709 : decode cL_law 709 = .ok (.iconst 1, 1) := by decide +kernel
theorem dL_law_710 : decode cL_law 710 = .ok (.ireturn, 1) := by decide +kernel
