theorem dX4_changeState_64 : decode cX4_changeState 64 = .ok (.iload_n 1, 1) := by decide +kernel
theorem dX4_changeState_65 : decode cX4_changeState 65 = .ok (.aload_n 0, 1) := by decide +kernel
theorem dX4_changeState_66 : decode cX4_changeState 66 = .ok (.getfield 51, 3) := by decide +kernel
theorem dX4_changeState_69 : decode cX4_changeState 69 = .ok (.isub, 1) := by decide +kernel
theorem dX4_changeState_70 : decode cX4_changeState 70 = .ok (.invokestatic 131, 3) := by decide +kernel
theorem dX4_changeState_73 : decode cX4_changeState 73 = .ok (.invokestatic 137, 3) := by decide +kernel
theorem dX4_changeState_76 : decode cX4_changeState 76 = .ok (.istore_n 2, 1) := by decide +kernel
theorem dX4_changeState_77 : decode cX4_changeState 77 = .ok (.iload_n 2, 1) := by decide +kernel
theorem dX4_changeState_78 : decode cX4_changeState 78 = .ok (.iconst 3, 1) := by decide +kernel
theorem dX4_changeState_79 : decode cX4_changeState 79 = .ok (.if_icmp .ne 16, 3) := by decide +kernel
theorem dX4_changeState_82 : decode cX4_changeState 82 = .ok (.aload_n 0, 1) := by decide +kernel
theorem dX4_changeState_83 : decode cX4_changeState 83 = .ok (.getfield 48, 3) := by decide +kernel
theorem dX4_changeState_86 : decode cX4_changeState 86 = .ok (.iconst 3, 1) := by decide +kernel
theorem dX4_changeState_87 : decode cX4_changeState 87 = .ok (.if_icmp .eq 8, 3) := by decide +kernel
theorem dX4_changeState_90 : decode cX4_changeState 90 = .ok (.aload_n 0, 1) := by decide +kernel
theorem dX4_changeState_91 : decode cX4_changeState 91 = .ok (.iload_n 1, 1) := by decide +kernel
theorem dX4_changeState_92 : decode cX4_changeState 92 = .ok (.putfield 51, 3) := by decide +kernel
theorem dX4_changeState_95 : decode cX4_changeState 95 = .ok (.aload_n 0, 1) := by decide +kernel
theorem dX4_changeState_96 : decode cX4_changeState 96 = .ok (.iload_n 2, 1) := by decide +kernel
theorem dX4_changeState_97 : decode cX4_changeState 97 = .ok (.putfield 48, 3) := by decide +kernel
theorem dX4_changeState_100 : decode cX4_changeState 100 = .ok (.return_, 1) := by decide +kernel
theorem dX5_init_0 : decode cX5_init 0 = .ok (.aload_n 0, 1) := by decide +kernel
theorem dX5_init_1 : decode cX5_init 1 = .ok (.invokespecial 3, 3) := by decide +kernel
theorem dX5_init_4 : decode cX5_init 4 = .ok (.aload_n 0, 1) := by decide +kernel
theorem dX5_init_5 : decode cX5_init 5 = .ok (.bipush 6, 2) := by decide +kernel
theorem dX5_init_7 : decode cX5_init 7 = .ok (.newarray .int, 2) := by decide +kernel
theorem dX5_init_9 : decode cX5_init 9 = .ok (.putfield 9, 3) := by decide +kernel
theorem dX5_init_12 : decode cX5_init 12 = .ok (.aload_n 0, 1) := by decide +kernel
theorem dX5_init_13 : decode cX5_init 13 = .ok (.bipush 6, 2) := by decide +kernel
theorem dX5_init_15 : decode cX5_init 15 = .ok (.newarray .int, 2) := by decide +kernel
theorem dX5_init_17 : decode cX5_init 17 = .ok (.putfield 15, 3) := by decide +kernel
theorem dX5_init_20 : decode cX5_init 20 = .ok (.aload_n 0, 1) := by decide +kernel
theorem dX5_init_21 : decode cX5_init 21 = .ok (.bipush 6, 2) := by decide +kernel
theorem dX5_init_23 : decode cX5_init 23 = .ok (.newarray .int, 2) := by decide +kernel
theorem dX5_init_25 : decode cX5_init 25 = .ok (.putfield 18, 3) := by decide +kernel
theorem dX5_init_28 : decode cX5_init 28 = .ok (.aload_n 0, 1) := by decide +kernel
theorem dX5_init_29 : decode cX5_init 29 = .ok (.bipush 6, 2) := by decide +kernel
theorem dX5_init_31 : decode cX5_init 31 = .ok (.newarray .int, 2) := by decide +kernel
theorem dX5_init_33 : decode cX5_init 33 = .ok (.putfield 21, 3) := by decide +kernel
theorem dX5_init_36 : decode cX5_init 36 = .ok (.aload_n 0, 1) := by decide +kernel
theorem dX5_init_37 : decode cX5_init 37 = .ok (.bipush 6, 2) := by decide +kernel
theorem dX5_init_39 : decode cX5_init 39 = .ok (.newarray .int, 2) := by decide +kernel
theorem dX5_init_41 : decode cX5_init 41 = .ok (.putfield 24, 3) := by decide +kernel
theorem dX5_init_44 : decode cX5_init 44 = .ok (.aload_n 0, 1) := by decide +kernel
theorem dX5_init_45 : decode cX5_init 45 = .ok (.iconst 0, 1) := by decide +kernel
theorem dX5_init_46 : decode cX5_init 46 = .ok (.putfield 27, 3) := by decide +kernel
theorem dX5_init_49 : decode cX5_init 49 = .ok (.aload_n 0, 1) := by decide +kernel
theorem dX5_init_50 : decode cX5_init 50 = .ok (.iconst 0, 1) := by decide +kernel
theorem dX5_init_51 : decode cX5_init 51 = .ok (.putfield 31, 3) := by decide +kernel
theorem dX5_init_54 : decode cX5_init 54 = .ok (.aload_n 0, 1) := by decide +kernel
theorem dX5_init_55 : decode cX5_init 55 = .ok (.iconst 0, 1) := by decide +kernel
theorem dX5_init_56 : decode cX5_init 56 = .ok (.putfield 34, 3) := by decide +kernel
theorem dX5_init_59 : decode cX5_init 59 = .ok (.aload_n 0, 1) := by decide +kernel
theorem dX5_init_60 : decode cX5_init 60 = .ok (.iconst 0, 1) := by decide +kernel
theorem dX5_init_61 : decode cX5_init 61 = .ok (.putfield 37, 3) := by decide +kernel
theorem dX5_init_64 : decode cX5_init 64 = .ok (.return_, 1) := by decide +kernel
theorem dX5_forget_0 : decode cX5_forget 0 = .ok (.aload_n 0, 1) := by decide +kernel
theorem dX5_forget_1 : decode cX5_forget 1 = .ok (.iconst 0, 1) := by decide +kernel
theorem dX5_forget_2 : decode cX5_forget 2 = .ok (.putfield 27, 3) := by decide +kernel
theorem dX5_forget_5 : decode cX5_forget 5 = .ok (.aload_n 0, 1) := by decide +kernel
theorem dX5_forget_6 : decode cX5_forget 6 = .ok (.iconst 0, 1) := by decide +kernel
theorem dX5_forget_7 : decode cX5_forget 7 = .ok (.putfield 31, 3) := by decide +kernel
theorem dX5_forget_10 : decode cX5_forget 10 = .ok (.aload_n 0, 1) := by decide +kernel
theorem dX5_forget_11 : decode cX5_forget 11 = .ok (.iconst 0, 1) := by decide +kernel
theorem dX5_forget_12 : decode cX5_forget 12 = .ok (.putfield 34, 3) := by decide +kernel
theorem dX5_forget_15 : decode cX5_forget 15 = .ok (.aload_n 0, 1) := by decide +kernel
theorem dX5_forget_16 : decode cX5_forget 16 = .ok (.iconst 0, 1) := by decide +kernel
theorem dX5_forget_17 : decode cX5_forget 17 = .ok (.putfield 37, 3) := by decide +kernel
theorem dX5_forget_20 : decode cX5_forget 20 = .ok (.return_, 1) := by decide +kernel
theorem dX5_copyFrom_0 : decode cX5_copyFrom 0 = .ok (.iconst 0, 1) := by decide +kernel
theorem dX5_copyFrom_1 : decode cX5_copyFrom 1 = .ok (.istore_n 2, 1) := by decide +kernel
theorem dX5_copyFrom_2 : decode cX5_copyFrom 2 = .ok (.iload_n 2, 1) := by decide +kernel
theorem dX5_copyFrom_3 : decode cX5_copyFrom 3 = .ok (.bipush 6, 2) := by decide +kernel
theorem dX5_copyFrom_5 : decode cX5_copyFrom 5 = .ok (.if_icmp .ge 69, 3) := by decide +kernel
theorem dX5_copyFrom_8 : decode cX5_copyFrom 8 = .ok (.aload_n 0, 1) := by decide +kernel
theorem dX5_copyFrom_9 : decode cX5_copyFrom 9 = .ok (.getfield 9, 3) := by decide +kernel
theorem dX5_copyFrom_12 : decode cX5_copyFrom 12 = .ok (.iload_n 2, 1) := by decide +kernel
theorem dX5_copyFrom_13 : decode cX5_copyFrom 13 = .ok (.aload_n 1, 1) := by decide +kernel
theorem dX5_copyFrom_14 : decode cX5_copyFrom 14 = .ok (.getfield 9, 3) := by decide +kernel
theorem dX5_copyFrom_17 : decode cX5_copyFrom 17 = .ok (.iload_n 2, 1) := by decide +kernel
theorem dX5_copyFrom_18 : decode cX5_copyFrom 18 = .ok (.iaload, 1) := by decide +kernel
theorem dX5_copyFrom_19 : decode cX5_copyFrom 19 = .ok (.iastore, 1) := by decide +kernel
theorem dX5_copyFrom_20 : decode cX5_copyFrom 20 = .ok (.aload_n 0, 1) := by decide +kernel
theorem dX5_copyFrom_21 : decode cX5_copyFrom 21 = .ok (.getfield 15, 3) := by decide +kernel
theorem dX5_copyFrom_24 : decode cX5_copyFrom 24 = .ok (.iload_n 2, 1) := by decide +kernel
theorem dX5_copyFrom_25 : decode cX5_copyFrom 25 = .ok (.aload_n 1, 1) := by decide +kernel
theorem dX5_copyFrom_26 : decode cX5_copyFrom 26 = .ok (.getfield 15, 3) := by decide +kernel
theorem dX5_copyFrom_29 : decode cX5_copyFrom 29 = .ok (.iload_n 2, 1) := by decide +kernel
theorem dX5_copyFrom_30 : decode cX5_copyFrom 30 = .ok (.iaload, 1) := by decide +kernel
theorem dX5_copyFrom_31 : decode cX5_copyFrom 31 = .ok (.iastore, 1) := by decide +kernel
theorem dX5_copyFrom_32 : decode cX5_copyFrom 32 = .ok (.aload_n 0, 1) := by decide +kernel
theorem dX5_copyFrom_33 : decode cX5_copyFrom 33 = .ok (.getfield 18, 3) := by decide +kernel
theorem dX5_copyFrom_36 : decode cX5_copyFrom 36 = .ok (.iload_n 2, 1) := by decide +kernel
theorem dX5_copyFrom_37 : decode cX5_copyFrom 37 = .ok (.aload_n 1, 1) := by decide +kernel
theorem dX5_copyFrom_38 : decode cX5_copyFrom 38 = .ok (.getfield 18, 3) := by decide +kernel
theorem dX5_copyFrom_41 : decode cX5_copyFrom 41 = .ok (.iload_n 2, 1) := by decide +kernel
theorem dX5_copyFrom_42 : decode cX5_copyFrom 42 = .ok (.iaload, 1) := by decide +kernel
theorem dX5_copyFrom_43 : decode cX5_copyFrom 43 = .ok (.iastore, 1) := by decide +kernel
theorem dX5_copyFrom_44 : decode cX5_copyFrom 44 = .ok (.aload_n 0, 1) := by decide +kernel
theorem dX5_copyFrom_45 : decode cX5_copyFrom 45 = .ok (.getfield 21, 3) := by decide +kernel
theorem dX5_copyFrom_48 : decode cX5_copyFrom 48 = .ok (.iload_n 2, 1) := by decide +kernel
theorem dX5_copyFrom_49 : decode cX5_copyFrom 49 = .ok (.aload_n 1, 1) := by decide +kernel
theorem dX5_copyFrom_50 : decode cX5_copyFrom 50 = .ok (.getfield 21, 3) := by decide +kernel
theorem dX5_copyFrom_53 : decode cX5_copyFrom 53 = .ok (.iload_n 2, 1) := by decide +kernel
theorem dX5_copyFrom_54 : decode cX5_copyFrom 54 = .ok (.iaload, 1) := by decide +kernel
theorem dX5_copyFrom_55 : decode cX5_copyFrom 55 = .ok (.iastore, 1) := by decide +kernel
theorem dX5_copyFrom_56 : decode cX5_copyFrom 56 = .ok (.aload_n 0, 1) := by decide +kernel
theorem dX5_copyFrom_57 : decode cX5_copyFrom 57 = .ok (.getfield 24, 3) := by decide +kernel
theorem dX5_copyFrom_60 : decode cX5_copyFrom 60 = .ok (.iload_n 2, 1) := by decide +kernel
theorem dX5_copyFrom_61 : decode cX5_copyFrom 61 = .ok (.aload_n 1, 1) := by decide +kernel
theorem dX5_copyFrom_62 : decode cX5_copyFrom 62 = .ok (.getfield 24, 3) := by decide +kernel
theorem dX5_copyFrom_65 : decode cX5_copyFrom 65 = .ok (.iload_n 2, 1) := by decide +kernel
theorem dX5_copyFrom_66 : decode cX5_copyFrom 66 = .ok (.iaload, 1) := by decide +kernel
theorem dX5_copyFrom_67 : decode cX5_copyFrom 67 = .ok (.iastore, 1) := by decide +kernel
theorem dX5_copyFrom_68 : decode cX5_copyFrom 68 = .ok (.iinc 2 1, 3) := by decide +kernel
theorem dX5_copyFrom_71 : decode cX5_copyFrom 71 = .ok (.goto (-69), 3) := by decide +kernel
theorem dX5_copyFrom_74 : decode cX5_copyFrom 74 = .ok (.aload_n 0, 1) := by decide +kernel
theorem dX5_copyFrom_75 : decode cX5_copyFrom 75 = .ok (.aload_n 1, 1) := by decide +kernel
theorem dX5_copyFrom_76 : decode cX5_copyFrom 76 = .ok (.getfield 27, 3) := by decide +kernel
theorem dX5_copyFrom_79 : decode cX5_copyFrom 79 = .ok (.putfield 27, 3) := by decide +kernel
theorem dX5_copyFrom_82 : decode cX5_copyFrom 82 = .ok (.aload_n 0, 1) := by decide +kernel
theorem dX5_copyFrom_83 : decode cX5_copyFrom 83 = .ok (.aload_n 1, 1) := by decide +kernel
theorem dX5_copyFrom_84 : decode cX5_copyFrom 84 = .ok (.getfield 31, 3) := by decide +kernel
theorem dX5_copyFrom_87 : decode cX5_copyFrom 87 = .ok (.putfield 31, 3) := by decide +kernel
theorem dX5_copyFrom_90 : decode cX5_copyFrom 90 = .ok (.aload_n 0, 1) := by decide +kernel
theorem dX5_copyFrom_91 : decode cX5_copyFrom 91 = .ok (.aload_n 1, 1) := by decide +kernel
theorem dX5_copyFrom_92 : decode cX5_copyFrom 92 = .ok (.getfield 34, 3) := by decide +kernel
theorem dX5_copyFrom_95 : decode cX5_copyFrom 95 = .ok (.putfield 34, 3) := by decide +kernel
theorem dX5_copyFrom_98 : decode cX5_copyFrom 98 = .ok (.aload_n 0, 1) := by decide +kernel
theorem dX5_copyFrom_99 : decode cX5_copyFrom 99 = .ok (.aload_n 1, 1) := by decide +kernel
theorem dX5_copyFrom_100 : decode cX5_copyFrom 100 = .ok (.getfield 37, 3) := by decide +kernel
theorem dX5_copyFrom_103 : decode cX5_copyFrom 103 = .ok (.putfield 37, 3) := by decide +kernel
theorem dX5_copyFrom_106 : decode cX5_copyFrom 106 = .ok (.return_, 1) := by decide +kernel
theorem dX5_has_0 : decode cX5_has 0 = .ok (.iload_n 1, 1) := by decide +kernel
theorem dX5_has_1 : decode cX5_has 1 = .ok (.iconst 0, 1) := by decide +kernel
theorem dX5_has_2 : decode cX5_has 2 = .ok (.aload_n 0, 1) := by decide +kernel
theorem dX5_has_3 : decode cX5_has 3 = .ok (.getfield 27, 3) := by decide +kernel
theorem dX5_has_6 : decode cX5_has 6 = .ok (.iconst 1, 1) := by decide +kernel
theorem dX5_has_7 : decode cX5_has 7 = .ok (.isub, 1) := by decide +kernel
theorem dX5_has_8 : decode cX5_has 8 = .ok (.invokestatic 40, 3) := by decide +kernel
theorem dX5_has_11 : decode cX5_has 11 = .ok (.ireturn, 1) := by decide +kernel
theorem dX5_follow_0 : decode cX5_follow 0 = .ok (.iconst 0, 1) := by decide +kernel
theorem dX5_follow_1 : decode cX5_follow 1 = .ok (.istore 4, 2) := by decide +kernel
theorem dX5_follow_3 : decode cX5_follow 3 = .ok (.iload 4, 2) := by decide +kernel
theorem dX5_follow_5 : decode cX5_follow 5 = .ok (.aload_n 0, 1) := by decide +kernel
theorem dX5_follow_6 : decode cX5_follow 6 = .ok (.getfield 27, 3) := by decide +kernel
theorem dX5_follow_9 : decode cX5_follow 9 = .ok (.if_icmp .ge 67, 3) := by decide +kernel
theorem dX5_follow_12 : decode cX5_follow 12 = .ok (.aload_n 2, 1) := by decide +kernel
theorem dX5_follow_13 : decode cX5_follow 13 = .ok (.iload 4, 2) := by decide +kernel
theorem dX5_follow_15 : decode cX5_follow 15 = .ok (.invokevirtual 44, 3) := by decide +kernel
theorem dX5_follow_18 : decode cX5_follow 18 = .ok (.istore 5, 2) := by decide +kernel
theorem dX5_follow_20 : decode cX5_follow 20 = .ok (.iload 5, 2) := by decide +kernel
theorem dX5_follow_22 : decode cX5_follow 22 = .ok (.iconst 0, 1) := by decide +kernel
theorem dX5_follow_23 : decode cX5_follow 23 = .ok (.aload_n 1, 1) := by decide +kernel
theorem dX5_follow_24 : decode cX5_follow 24 = .ok (.getfield 50, 3) := by decide +kernel
theorem dX5_follow_27 : decode cX5_follow 27 = .ok (.iconst 1, 1) := by decide +kernel
theorem dX5_follow_28 : decode cX5_follow 28 = .ok (.isub, 1) := by decide +kernel
theorem dX5_follow_29 : decode cX5_follow 29 = .ok (.invokestatic 40, 3) := by decide +kernel
theorem dX5_follow_32 : decode cX5_follow 32 = .ok (.ifCond .eq 27, 3) := by decide +kernel
theorem dX5_follow_35 : decode cX5_follow 35 = .ok (.aload_n 0, 1) := by decide +kernel
theorem dX5_follow_36 : decode cX5_follow 36 = .ok (.iload 4, 2) := by decide +kernel
theorem dX5_follow_38 : decode cX5_follow 38 = .ok (.aload_n 1, 1) := by decide +kernel
theorem dX5_follow_39 : decode cX5_follow 39 = .ok (.getfield 53, 3) := by decide +kernel
theorem dX5_follow_42 : decode cX5_follow 42 = .ok (.iload 5, 2) := by decide +kernel
theorem dX5_follow_44 : decode cX5_follow 44 = .ok (.iaload, 1) := by decide +kernel
theorem dX5_follow_45 : decode cX5_follow 45 = .ok (.aload_n 2, 1) := by decide +kernel
theorem dX5_follow_46 : decode cX5_follow 46 = .ok (.iload 4, 2) := by decide +kernel
theorem dX5_follow_48 : decode cX5_follow 48 = .ok (.iload 5, 2) := by decide +kernel
theorem dX5_follow_50 : decode cX5_follow 50 = .ok (.invokevirtual 56, 3) := by decide +kernel
theorem dX5_follow_53 : decode cX5_follow 53 = .ok (.invokevirtual 60, 3) := by decide +kernel
theorem dX5_follow_56 : decode cX5_follow 56 = .ok (.goto 14, 3) := by decide +kernel
theorem dX5_follow_59 : decode cX5_follow 59 = .ok (.aload_n 0, 1) := by decide +kernel
theorem dX5_follow_60 : decode cX5_follow 60 = .ok (.getfield 21, 3) := by decide +kernel
theorem dX5_follow_63 : decode cX5_follow 63 = .ok (.iload 4, 2) := by decide +kernel
theorem dX5_follow_65 : decode cX5_follow 65 = .ok (.dup2, 1) := by decide +kernel
theorem dX5_follow_66 : decode cX5_follow 66 = .ok (.iaload, 1) := by decide +kernel
theorem dX5_follow_67 : decode cX5_follow 67 = .ok (.iconst 1, 1) := by decide +kernel
theorem dX5_follow_68 : decode cX5_follow 68 = .ok (.iadd, 1) := by decide +kernel
theorem dX5_follow_69 : decode cX5_follow 69 = .ok (.iastore, 1) := by decide +kernel
theorem dX5_follow_70 : decode cX5_follow 70 = .ok (.iinc 4 1, 3) := by decide +kernel
theorem dX5_follow_73 : decode cX5_follow 73 = .ok (.goto (-70), 3) := by decide +kernel
theorem dX5_follow_76 : decode cX5_follow 76 = .ok (.aload_n 0, 1) := by decide +kernel
theorem dX5_follow_77 : decode cX5_follow 77 = .ok (.iload_n 3, 1) := by decide +kernel
theorem dX5_follow_78 : decode cX5_follow 78 = .ok (.invokevirtual 64, 3) := by decide +kernel
theorem dX5_follow_81 : decode cX5_follow 81 = .ok (.iconst 0, 1) := by decide +kernel
theorem dX5_follow_82 : decode cX5_follow 82 = .ok (.istore 4, 2) := by decide +kernel
theorem dX5_follow_84 : decode cX5_follow 84 = .ok (.iload 4, 2) := by decide +kernel
theorem dX5_follow_86 : decode cX5_follow 86 = .ok (.aload_n 1, 1) := by decide +kernel
theorem dX5_follow_87 : decode cX5_follow 87 = .ok (.getfield 50, 3) := by decide +kernel
theorem dX5_follow_90 : decode cX5_follow 90 = .ok (.if_icmp .ge 29, 3) := by decide +kernel
theorem dX5_follow_93 : decode cX5_follow 93 = .ok (.aload_n 2, 1) := by decide +kernel
theorem dX5_follow_94 : decode cX5_follow 94 = .ok (.iload 4, 2) := by decide +kernel
theorem dX5_follow_96 : decode cX5_follow 96 = .ok (.invokevirtual 68, 3) := by decide +kernel
theorem dX5_follow_99 : decode cX5_follow 99 = .ok (.ifCond .ne 14, 3) := by decide +kernel
theorem dX5_follow_102 : decode cX5_follow 102 = .ok (.aload_n 0, 1) := by decide +kernel
theorem dX5_follow_103 : decode cX5_follow 103 = .ok (.aload_n 1, 1) := by decide +kernel
theorem dX5_follow_104 : decode cX5_follow 104 = .ok (.getfield 53, 3) := by decide +kernel
theorem dX5_follow_107 : decode cX5_follow 107 = .ok (.iload 4, 2) := by decide +kernel
theorem dX5_follow_109 : decode cX5_follow 109 = .ok (.iaload, 1) := by decide +kernel
theorem dX5_follow_110 : decode cX5_follow 110 = .ok (.invokevirtual 72, 3) := by decide +kernel
theorem dX5_follow_113 : decode cX5_follow 113 = .ok (.iinc 4 1, 3) := by decide +kernel
theorem dX5_follow_116 : decode cX5_follow 116 = .ok (.goto (-32), 3) := by decide +kernel
theorem dX5_follow_119 : decode cX5_follow 119 = .ok (.return_, 1) := by decide +kernel
theorem dX5_goOn_0 : decode cX5_goOn 0 = .ok (.aload_n 0, 1) := by decide +kernel
theorem dX5_goOn_1 : decode cX5_goOn 1 = .ok (.getfield 15, 3) := by decide +kernel
theorem dX5_goOn_4 : decode cX5_goOn 4 = .ok (.iload_n 1, 1) := by decide +kernel
theorem dX5_goOn_5 : decode cX5_goOn 5 = .ok (.iload_n 2, 1) := by decide +kernel
theorem dX5_goOn_6 : decode cX5_goOn 6 = .ok (.iastore, 1) := by decide +kernel
theorem dX5_goOn_7 : decode cX5_goOn 7 = .ok (.aload_n 0, 1) := by decide +kernel
theorem dX5_goOn_8 : decode cX5_goOn 8 = .ok (.getfield 18, 3) := by decide +kernel
theorem dX5_goOn_11 : decode cX5_goOn 11 = .ok (.iload_n 1, 1) := by decide +kernel
theorem dX5_goOn_12 : decode cX5_goOn 12 = .ok (.dup2, 1) := by decide +kernel
theorem dX5_goOn_13 : decode cX5_goOn 13 = .ok (.iaload, 1) := by decide +kernel
theorem dX5_goOn_14 : decode cX5_goOn 14 = .ok (.iconst 1, 1) := by decide +kernel
theorem dX5_goOn_15 : decode cX5_goOn 15 = .ok (.iadd, 1) := by decide +kernel
theorem dX5_goOn_16 : decode cX5_goOn 16 = .ok (.iastore, 1) := by decide +kernel
theorem dX5_goOn_17 : decode cX5_goOn 17 = .ok (.aload_n 0, 1) := by decide +kernel
theorem dX5_goOn_18 : decode cX5_goOn 18 = .ok (.getfield 21, 3) := by decide +kernel
theorem dX5_goOn_21 : decode cX5_goOn 21 = .ok (.iload_n 1, 1) := by decide +kernel
theorem dX5_goOn_22 : decode cX5_goOn 22 = .ok (.iconst 0, 1) := by decide +kernel
theorem dX5_goOn_23 : decode cX5_goOn 23 = .ok (.iastore, 1) := by decide +kernel
theorem dX5_goOn_24 : decode cX5_goOn 24 = .ok (.aload_n 0, 1) := by decide +kernel
theorem dX5_goOn_25 : decode cX5_goOn 25 = .ok (.getfield 24, 3) := by decide +kernel
theorem dX5_goOn_28 : decode cX5_goOn 28 = .ok (.iload_n 1, 1) := by decide +kernel
theorem dX5_goOn_29 : decode cX5_goOn 29 = .ok (.dup2, 1) := by decide +kernel
theorem dX5_goOn_30 : decode cX5_goOn 30 = .ok (.iaload, 1) := by decide +kernel
theorem dX5_goOn_31 : decode cX5_goOn 31 = .ok (.iload_n 3, 1) := by decide +kernel
theorem dX5_goOn_32 : decode cX5_goOn 32 = .ok (.iadd, 1) := by decide +kernel
theorem dX5_goOn_33 : decode cX5_goOn 33 = .ok (.iastore, 1) := by decide +kernel
theorem dX5_goOn_34 : decode cX5_goOn 34 = .ok (.return_, 1) := by decide +kernel
theorem dX5_endThoseGone_0 : decode cX5_endThoseGone 0 = .ok (.iconst 0, 1) := by decide +kernel
theorem dX5_endThoseGone_1 : decode cX5_endThoseGone 1 = .ok (.istore_n 2, 1) := by decide +kernel
theorem dX5_endThoseGone_2 : decode cX5_endThoseGone 2 = .ok (.iconst 0, 1) := by decide +kernel
theorem dX5_endThoseGone_3 : decode cX5_endThoseGone 3 = .ok (.istore_n 3, 1) := by decide +kernel
theorem dX5_endThoseGone_4 : decode cX5_endThoseGone 4 = .ok (.iload_n 3, 1) := by decide +kernel
theorem dX5_endThoseGone_5 : decode cX5_endThoseGone 5 = .ok (.aload_n 0, 1) := by decide +kernel
theorem dX5_endThoseGone_6 : decode cX5_endThoseGone 6 = .ok (.getfield 27, 3) := by decide +kernel
theorem dX5_endThoseGone_9 : decode cX5_endThoseGone 9 = .ok (.if_icmp .ge 36, 3) := by decide +kernel
theorem dX5_endThoseGone_12 : decode cX5_endThoseGone 12 = .ok (.aload_n 0, 1) := by decide +kernel
theorem dX5_endThoseGone_13 : decode cX5_endThoseGone 13 = .ok (.getfield 21, 3) := by decide +kernel
theorem dX5_endThoseGone_16 : decode cX5_endThoseGone 16 = .ok (.iload_n 3, 1) := by decide +kernel
theorem dX5_endThoseGone_17 : decode cX5_endThoseGone 17 = .ok (.iaload, 1) := by decide +kernel
theorem dX5_endThoseGone_18 : decode cX5_endThoseGone 18 = .ok (.iload_n 1, 1) := by decide +kernel
theorem dX5_endThoseGone_19 : decode cX5_endThoseGone 19 = .ok (.if_icmp .le 11, 3) := by decide +kernel
theorem dX5_endThoseGone_22 : decode cX5_endThoseGone 22 = .ok (.aload_n 0, 1) := by decide +kernel
theorem dX5_endThoseGone_23 : decode cX5_endThoseGone 23 = .ok (.iload_n 3, 1) := by decide +kernel
theorem dX5_endThoseGone_24 : decode cX5_endThoseGone 24 = .ok (.invokevirtual 75, 3) := by decide +kernel
theorem dX5_endThoseGone_27 : decode cX5_endThoseGone 27 = .ok (.goto 12, 3) := by decide +kernel
theorem dX5_endThoseGone_30 : decode cX5_endThoseGone 30 = .ok (.aload_n 0, 1) := by decide +kernel
theorem dX5_endThoseGone_31 : decode cX5_endThoseGone 31 = .ok (.iload_n 3, 1) := by decide +kernel
theorem dX5_endThoseGone_32 : decode cX5_endThoseGone 32 = .ok (.iload_n 2, 1) := by decide +kernel
theorem dX5_endThoseGone_33 : decode cX5_endThoseGone 33 = .ok (.invokevirtual 78, 3) := by decide +kernel
theorem dX5_endThoseGone_36 : decode cX5_endThoseGone 36 = .ok (.iinc 2 1, 3) := by decide +kernel
theorem dX5_endThoseGone_39 : decode cX5_endThoseGone 39 = .ok (.iinc 3 1, 3) := by decide +kernel
theorem dX5_endThoseGone_42 : decode cX5_endThoseGone 42 = .ok (.goto (-38), 3) := by decide +kernel
theorem dX5_endThoseGone_45 : decode cX5_endThoseGone 45 = .ok (.aload_n 0, 1) := by decide +kernel
theorem dX5_endThoseGone_46 : decode cX5_endThoseGone 46 = .ok (.iload_n 2, 1) := by decide +kernel
theorem dX5_endThoseGone_47 : decode cX5_endThoseGone 47 = .ok (.putfield 27, 3) := by decide +kernel
theorem dX5_endThoseGone_50 : decode cX5_endThoseGone 50 = .ok (.return_, 1) := by decide +kernel
theorem dX5_countEnd_0 : decode cX5_countEnd 0 = .ok (.aload_n 0, 1) := by decide +kernel
theorem dX5_countEnd_1 : decode cX5_countEnd 1 = .ok (.getfield 18, 3) := by decide +kernel
theorem dX5_countEnd_4 : decode cX5_countEnd 4 = .ok (.iload_n 1, 1) := by decide +kernel
theorem dX5_countEnd_5 : decode cX5_countEnd 5 = .ok (.iaload, 1) := by decide +kernel
theorem dX5_countEnd_6 : decode cX5_countEnd 6 = .ok (.iconst 3, 1) := by decide +kernel
theorem dX5_countEnd_7 : decode cX5_countEnd 7 = .ok (.if_icmp .gt 26, 3) := by decide +kernel
theorem dX5_countEnd_10 : decode cX5_countEnd 10 = .ok (.aload_n 0, 1) := by decide +kernel
theorem dX5_countEnd_11 : decode cX5_countEnd 11 = .ok (.getfield 24, 3) := by decide +kernel
theorem dX5_countEnd_14 : decode cX5_countEnd 14 = .ok (.iload_n 1, 1) := by decide +kernel
theorem dX5_countEnd_15 : decode cX5_countEnd 15 = .ok (.iaload, 1) := by decide +kernel
theorem dX5_countEnd_16 : decode cX5_countEnd 16 = .ok (.iconst 1, 1) := by decide +kernel
theorem dX5_countEnd_17 : decode cX5_countEnd 17 = .ok (.if_icmp .gt 16, 3) := by decide +kernel
theorem dX5_countEnd_20 : decode cX5_countEnd 20 = .ok (.aload_n 0, 1) := by decide +kernel
theorem dX5_countEnd_21 : decode cX5_countEnd 21 = .ok (.dup, 1) := by decide +kernel
theorem dX5_countEnd_22 : decode cX5_countEnd 22 = .ok (.getfield 34, 3) := by decide +kernel
theorem dX5_countEnd_25 : decode cX5_countEnd 25 = .ok (.iconst 1, 1) := by decide +kernel
theorem dX5_countEnd_26 : decode cX5_countEnd 26 = .ok (.iadd, 1) := by decide +kernel
theorem dX5_countEnd_27 : decode cX5_countEnd 27 = .ok (.putfield 34, 3) := by decide +kernel
theorem dX5_countEnd_30 : decode cX5_countEnd 30 = .ok (.goto 13, 3) := by decide +kernel
theorem dX5_countEnd_33 : decode cX5_countEnd 33 = .ok (.aload_n 0, 1) := by decide +kernel
theorem dX5_countEnd_34 : decode cX5_countEnd 34 = .ok (.dup, 1) := by decide +kernel
theorem dX5_countEnd_35 : decode cX5_countEnd 35 = .ok (.getfield 37, 3) := by decide +kernel
theorem dX5_countEnd_38 : decode cX5_countEnd 38 = .ok (.iconst 1, 1) := by decide +kernel
theorem dX5_countEnd_39 : decode cX5_countEnd 39 = .ok (.iadd, 1) := by decide +kernel
theorem dX5_countEnd_40 : decode cX5_countEnd 40 = .ok (.putfield 37, 3) := by decide +kernel
theorem dX5_countEnd_43 : decode cX5_countEnd 43 = .ok (.return_, 1) := by decide +kernel
theorem dX5_moveDown_0 : decode cX5_moveDown 0 = .ok (.aload_n 0, 1) := by decide +kernel
theorem dX5_moveDown_1 : decode cX5_moveDown 1 = .ok (.getfield 9, 3) := by decide +kernel
theorem dX5_moveDown_4 : decode cX5_moveDown 4 = .ok (.iload_n 2, 1) := by decide +kernel
theorem dX5_moveDown_5 : decode cX5_moveDown 5 = .ok (.aload_n 0, 1) := by decide +kernel
theorem dX5_moveDown_6 : decode cX5_moveDown 6 = .ok (.getfield 9, 3) := by decide +kernel
theorem dX5_moveDown_9 : decode cX5_moveDown 9 = .ok (.iload_n 1, 1) := by decide +kernel
theorem dX5_moveDown_10 : decode cX5_moveDown 10 = .ok (.iaload, 1) := by decide +kernel
theorem dX5_moveDown_11 : decode cX5_moveDown 11 = .ok (.iastore, 1) := by decide +kernel
theorem dX5_moveDown_12 : decode cX5_moveDown 12 = .ok (.aload_n 0, 1) := by decide +kernel
theorem dX5_moveDown_13 : decode cX5_moveDown 13 = .ok (.getfield 15, 3) := by decide +kernel
theorem dX5_moveDown_16 : decode cX5_moveDown 16 = .ok (.iload_n 2, 1) := by decide +kernel
theorem dX5_moveDown_17 : decode cX5_moveDown 17 = .ok (.aload_n 0, 1) := by decide +kernel
theorem dX5_moveDown_18 : decode cX5_moveDown 18 = .ok (.getfield 15, 3) := by decide +kernel
theorem dX5_moveDown_21 : decode cX5_moveDown 21 = .ok (.iload_n 1, 1) := by decide +kernel
theorem dX5_moveDown_22 : decode cX5_moveDown 22 = .ok (.iaload, 1) := by decide +kernel
theorem dX5_moveDown_23 : decode cX5_moveDown 23 = .ok (.iastore, 1) := by decide +kernel
theorem dX5_moveDown_24 : decode cX5_moveDown 24 = .ok (.aload_n 0, 1) := by decide +kernel
theorem dX5_moveDown_25 : decode cX5_moveDown 25 = .ok (.getfield 18, 3) := by decide +kernel
theorem dX5_moveDown_28 : decode cX5_moveDown 28 = .ok (.iload_n 2, 1) := by decide +kernel
theorem dX5_moveDown_29 : decode cX5_moveDown 29 = .ok (.aload_n 0, 1) := by decide +kernel
theorem dX5_moveDown_30 : decode cX5_moveDown 30 = .ok (.getfield 18, 3) := by decide +kernel
theorem dX5_moveDown_33 : decode cX5_moveDown 33 = .ok (.iload_n 1, 1) := by decide +kernel
theorem dX5_moveDown_34 : decode cX5_moveDown 34 = .ok (.iaload, 1) := by decide +kernel
theorem dX5_moveDown_35 : decode cX5_moveDown 35 = .ok (.iastore, 1) := by decide +kernel
theorem dX5_moveDown_36 : decode cX5_moveDown 36 = .ok (.aload_n 0, 1) := by decide +kernel
theorem dX5_moveDown_37 : decode cX5_moveDown 37 = .ok (.getfield 21, 3) := by decide +kernel
theorem dX5_moveDown_40 : decode cX5_moveDown 40 = .ok (.iload_n 2, 1) := by decide +kernel
theorem dX5_moveDown_41 : decode cX5_moveDown 41 = .ok (.aload_n 0, 1) := by decide +kernel
theorem dX5_moveDown_42 : decode cX5_moveDown 42 = .ok (.getfield 21, 3) := by decide +kernel
theorem dX5_moveDown_45 : decode cX5_moveDown 45 = .ok (.iload_n 1, 1) := by decide +kernel
theorem dX5_moveDown_46 : decode cX5_moveDown 46 = .ok (.iaload, 1) := by decide +kernel
theorem dX5_moveDown_47 : decode cX5_moveDown 47 = .ok (.iastore, 1) := by decide +kernel
theorem dX5_moveDown_48 : decode cX5_moveDown 48 = .ok (.aload_n 0, 1) := by decide +kernel
theorem dX5_moveDown_49 : decode cX5_moveDown 49 = .ok (.getfield 24, 3) := by decide +kernel
theorem dX5_moveDown_52 : decode cX5_moveDown 52 = .ok (.iload_n 2, 1) := by decide +kernel
theorem dX5_moveDown_53 : decode cX5_moveDown 53 = .ok (.aload_n 0, 1) := by decide +kernel
theorem dX5_moveDown_54 : decode cX5_moveDown 54 = .ok (.getfield 24, 3) := by decide +kernel
theorem dX5_moveDown_57 : decode cX5_moveDown 57 = .ok (.iload_n 1, 1) := by decide +kernel
theorem dX5_moveDown_58 : decode cX5_moveDown 58 = .ok (.iaload, 1) := by decide +kernel
theorem dX5_moveDown_59 : decode cX5_moveDown 59 = .ok (.iastore, 1) := by decide +kernel
theorem dX5_moveDown_60 : decode cX5_moveDown 60 = .ok (.return_, 1) := by decide +kernel
theorem dX5_begin_0 : decode cX5_begin 0 = .ok (.aload_n 0, 1) := by decide +kernel
theorem dX5_begin_1 : decode cX5_begin 1 = .ok (.getfield 27, 3) := by decide +kernel
theorem dX5_begin_4 : decode cX5_begin 4 = .ok (.bipush 6, 2) := by decide +kernel
theorem dX5_begin_6 : decode cX5_begin 6 = .ok (.if_icmp .ge 76, 3) := by decide +kernel
theorem dX5_begin_9 : decode cX5_begin 9 = .ok (.aload_n 0, 1) := by decide +kernel
theorem dX5_begin_10 : decode cX5_begin 10 = .ok (.getfield 9, 3) := by decide +kernel
theorem dX5_begin_13 : decode cX5_begin 13 = .ok (.aload_n 0, 1) := by decide +kernel
theorem dX5_begin_14 : decode cX5_begin 14 = .ok (.getfield 27, 3) := by decide +kernel
theorem dX5_begin_17 : decode cX5_begin 17 = .ok (.aload_n 0, 1) := by decide +kernel
theorem dX5_begin_18 : decode cX5_begin 18 = .ok (.getfield 31, 3) := by decide +kernel
theorem dX5_begin_21 : decode cX5_begin 21 = .ok (.iastore, 1) := by decide +kernel
theorem dX5_begin_22 : decode cX5_begin 22 = .ok (.aload_n 0, 1) := by decide +kernel
theorem dX5_begin_23 : decode cX5_begin 23 = .ok (.getfield 15, 3) := by decide +kernel
theorem dX5_begin_26 : decode cX5_begin 26 = .ok (.aload_n 0, 1) := by decide +kernel
theorem dX5_begin_27 : decode cX5_begin 27 = .ok (.getfield 27, 3) := by decide +kernel
theorem dX5_begin_30 : decode cX5_begin 30 = .ok (.iload_n 1, 1) := by decide +kernel
theorem dX5_begin_31 : decode cX5_begin 31 = .ok (.iastore, 1) := by decide +kernel
theorem dX5_begin_32 : decode cX5_begin 32 = .ok (.aload_n 0, 1) := by decide +kernel
theorem dX5_begin_33 : decode cX5_begin 33 = .ok (.getfield 18, 3) := by decide +kernel
theorem dX5_begin_36 : decode cX5_begin 36 = .ok (.aload_n 0, 1) := by decide +kernel
theorem dX5_begin_37 : decode cX5_begin 37 = .ok (.getfield 27, 3) := by decide +kernel
theorem dX5_begin_40 : decode cX5_begin 40 = .ok (.iconst 1, 1) := by decide +kernel
theorem dX5_begin_41 : decode cX5_begin 41 = .ok (.iastore, 1) := by decide +kernel
theorem dX5_begin_42 : decode cX5_begin 42 = .ok (.aload_n 0, 1) := by decide +kernel
theorem dX5_begin_43 : decode cX5_begin 43 = .ok (.getfield 21, 3) := by decide +kernel
theorem dX5_begin_46 : decode cX5_begin 46 = .ok (.aload_n 0, 1) := by decide +kernel
theorem dX5_begin_47 : decode cX5_begin 47 = .ok (.getfield 27, 3) := by decide +kernel
theorem dX5_begin_50 : decode cX5_begin 50 = .ok (.iconst 0, 1) := by decide +kernel
theorem dX5_begin_51 : decode cX5_begin 51 = .ok (.iastore, 1) := by decide +kernel
theorem dX5_begin_52 : decode cX5_begin 52 = .ok (.aload_n 0, 1) := by decide +kernel
theorem dX5_begin_53 : decode cX5_begin 53 = .ok (.getfield 24, 3) := by decide +kernel
theorem dX5_begin_56 : decode cX5_begin 56 = .ok (.aload_n 0, 1) := by decide +kernel
theorem dX5_begin_57 : decode cX5_begin 57 = .ok (.getfield 27, 3) := by decide +kernel
theorem dX5_begin_60 : decode cX5_begin 60 = .ok (.iconst 0, 1) := by decide +kernel
theorem dX5_begin_61 : decode cX5_begin 61 = .ok (.iastore, 1) := by decide +kernel
theorem dX5_begin_62 : decode cX5_begin 62 = .ok (.aload_n 0, 1) := by decide +kernel
theorem dX5_begin_63 : decode cX5_begin 63 = .ok (.dup, 1) := by decide +kernel
theorem dX5_begin_64 : decode cX5_begin 64 = .ok (.getfield 27, 3) := by decide +kernel
theorem dX5_begin_67 : decode cX5_begin 67 = .ok (.iconst 1, 1) := by decide +kernel
theorem dX5_begin_68 : decode cX5_begin 68 = .ok (.iadd, 1) := by decide +kernel
theorem dX5_begin_69 : decode cX5_begin 69 = .ok (.putfield 27, 3) := by decide +kernel
theorem dX5_begin_72 : decode cX5_begin 72 = .ok (.aload_n 0, 1) := by decide +kernel
theorem dX5_begin_73 : decode cX5_begin 73 = .ok (.dup, 1) := by decide +kernel
theorem dX5_begin_74 : decode cX5_begin 74 = .ok (.getfield 31, 3) := by decide +kernel
theorem dX5_begin_77 : decode cX5_begin 77 = .ok (.iconst 1, 1) := by decide +kernel
theorem dX5_begin_78 : decode cX5_begin 78 = .ok (.iadd, 1) := by decide +kernel
theorem dX5_begin_79 : decode cX5_begin 79 = .ok (.putfield 31, 3) := by decide +kernel
theorem dX5_begin_82 : decode cX5_begin 82 = .ok (.return_, 1) := by decide +kernel
theorem dX6_init_0 : decode cX6_init 0 = .ok (.aload_n 0, 1) := by decide +kernel
theorem dX6_init_1 : decode cX6_init 1 = .ok (.invokespecial 3, 3) := by decide +kernel
theorem dX6_init_4 : decode cX6_init 4 = .ok (.aload_n 0, 1) := by decide +kernel
theorem dX6_init_5 : decode cX6_init 5 = .ok (.new 9, 3) := by decide +kernel
theorem dX6_init_8 : decode cX6_init 8 = .ok (.dup, 1) := by decide +kernel
theorem dX6_init_9 : decode cX6_init 9 = .ok (.invokespecial 11, 3) := by decide +kernel
theorem dX6_init_12 : decode cX6_init 12 = .ok (.putfield 12, 3) := by decide +kernel
theorem dX6_init_15 : decode cX6_init 15 = .ok (.aload_n 0, 1) := by decide +kernel
theorem dX6_init_16 : decode cX6_init 16 = .ok (.new 9, 3) := by decide +kernel
theorem dX6_init_19 : decode cX6_init 19 = .ok (.dup, 1) := by decide +kernel
theorem dX6_init_20 : decode cX6_init 20 = .ok (.invokespecial 11, 3) := by decide +kernel
theorem dX6_init_23 : decode cX6_init 23 = .ok (.putfield 16, 3) := by decide +kernel
theorem dX6_init_26 : decode cX6_init 26 = .ok (.aload_n 0, 1) := by decide +kernel
theorem dX6_init_27 : decode cX6_init 27 = .ok (.new 9, 3) := by decide +kernel
theorem dX6_init_30 : decode cX6_init 30 = .ok (.dup, 1) := by decide +kernel
theorem dX6_init_31 : decode cX6_init 31 = .ok (.invokespecial 11, 3) := by decide +kernel
theorem dX6_init_34 : decode cX6_init 34 = .ok (.putfield 19, 3) := by decide +kernel
theorem dX6_init_37 : decode cX6_init 37 = .ok (.aload_n 0, 1) := by decide +kernel
theorem dX6_init_38 : decode cX6_init 38 = .ok (.new 22, 3) := by decide +kernel
theorem dX6_init_41 : decode cX6_init 41 = .ok (.dup, 1) := by decide +kernel
theorem dX6_init_42 : decode cX6_init 42 = .ok (.invokespecial 24, 3) := by decide +kernel
theorem dX6_init_45 : decode cX6_init 45 = .ok (.putfield 25, 3) := by decide +kernel
theorem dX6_init_48 : decode cX6_init 48 = .ok (.aload_n 0, 1) := by decide +kernel
theorem dX6_init_49 : decode cX6_init 49 = .ok (.new 29, 3) := by decide +kernel
theorem dX6_init_52 : decode cX6_init 52 = .ok (.dup, 1) := by decide +kernel
theorem dX6_init_53 : decode cX6_init 53 = .ok (.invokespecial 31, 3) := by decide +kernel
theorem dX6_init_56 : decode cX6_init 56 = .ok (.putfield 32, 3) := by decide +kernel
theorem dX6_init_59 : decode cX6_init 59 = .ok (.aload_n 0, 1) := by decide +kernel
theorem dX6_init_60 : decode cX6_init 60 = .ok (.iconst 0, 1) := by decide +kernel
theorem dX6_init_61 : decode cX6_init 61 = .ok (.putfield 36, 3) := by decide +kernel
theorem dX6_init_64 : decode cX6_init 64 = .ok (.return_, 1) := by decide +kernel
theorem dX6_panel_0 : decode cX6_panel 0 = .ok (.iload_n 1, 1) := by decide +kernel
theorem dX6_panel_1 : decode cX6_panel 1 = .ok (.iconst 2, 1) := by decide +kernel
theorem dX6_panel_2 : decode cX6_panel 2 = .ok (.bipush 8, 2) := by decide +kernel
theorem dX6_panel_4 : decode cX6_panel 4 = .ok (.invokestatic 40, 3) := by decide +kernel
theorem dX6_panel_7 : decode cX6_panel 7 = .ok (.ifCond .eq 13, 3) := by decide +kernel
theorem dX6_panel_10 : decode cX6_panel 10 = .ok (.iload_n 2, 1) := by decide +kernel
theorem dX6_panel_11 : decode cX6_panel 11 = .ok (.iconst 2, 1) := by decide +kernel
theorem dX6_panel_12 : decode cX6_panel 12 = .ok (.bipush 8, 2) := by decide +kernel
theorem dX6_panel_14 : decode cX6_panel 14 = .ok (.invokestatic 40, 3) := by decide +kernel
theorem dX6_panel_17 : decode cX6_panel 17 = .ok (.ifCond .ne 6, 3) := by decide +kernel
theorem dX6_panel_20 : decode cX6_panel 20 = .ok (.ldc 44, 2) := by decide +kernel
theorem dX6_panel_22 : decode cX6_panel 22 = .ok (.ireturn, 1) := by decide +kernel
theorem dX6_panel_23 : decode cX6_panel 23 = .ok (.aload_n 0, 1) := by decide +kernel
theorem dX6_panel_24 : decode cX6_panel 24 = .ok (.getfield 12, 3) := by decide +kernel
theorem dX6_panel_27 : decode cX6_panel 27 = .ok (.iload_n 1, 1) := by decide +kernel
theorem dX6_panel_28 : decode cX6_panel 28 = .ok (.iload_n 2, 1) := by decide +kernel
theorem dX6_panel_29 : decode cX6_panel 29 = .ok (.invokevirtual 45, 3) := by decide +kernel
theorem dX6_panel_32 : decode cX6_panel 32 = .ok (.aload_n 0, 1) := by decide +kernel
theorem dX6_panel_33 : decode cX6_panel 33 = .ok (.getfield 12, 3) := by decide +kernel
theorem dX6_panel_36 : decode cX6_panel 36 = .ok (.getfield 49, 3) := by decide +kernel
theorem dX6_panel_39 : decode cX6_panel 39 = .ok (.invokevirtual 53, 3) := by decide +kernel
theorem dX6_panel_42 : decode cX6_panel 42 = .ok (.ireturn, 1) := by decide +kernel
theorem dX6_bound_0 : decode cX6_bound 0 = .ok (.iload_n 1, 1) := by decide +kernel
theorem dX6_bound_1 : decode cX6_bound 1 = .ok (.iconst 0, 1) := by decide +kernel
theorem dX6_bound_2 : decode cX6_bound 2 = .ok (.iconst 3, 1) := by decide +kernel
theorem dX6_bound_3 : decode cX6_bound 3 = .ok (.invokestatic 40, 3) := by decide +kernel
theorem dX6_bound_6 : decode cX6_bound 6 = .ok (.ifCond .eq 20, 3) := by decide +kernel
theorem dX6_bound_9 : decode cX6_bound 9 = .ok (.iload_n 2, 1) := by decide +kernel
theorem dX6_bound_10 : decode cX6_bound 10 = .ok (.getstatic 59, 3) := by decide +kernel
theorem dX6_bound_13 : decode cX6_bound 13 = .ok (.iload_n 1, 1) := by decide +kernel
theorem dX6_bound_14 : decode cX6_bound 14 = .ok (.iaload, 1) := by decide +kernel
theorem dX6_bound_15 : decode cX6_bound 15 = .ok (.getstatic 63, 3) := by decide +kernel
theorem dX6_bound_18 : decode cX6_bound 18 = .ok (.iload_n 1, 1) := by decide +kernel
theorem dX6_bound_19 : decode cX6_bound 19 = .ok (.iaload, 1) := by decide +kernel
theorem dX6_bound_20 : decode cX6_bound 20 = .ok (.invokestatic 40, 3) := by decide +kernel
theorem dX6_bound_23 : decode cX6_bound 23 = .ok (.ifCond .ne 6, 3) := by decide +kernel
theorem dX6_bound_26 : decode cX6_bound 26 = .ok (.ldc 44, 2) := by decide +kernel
theorem dX6_bound_28 : decode cX6_bound 28 = .ok (.ireturn, 1) := by decide +kernel
theorem dX6_bound_29 : decode cX6_bound 29 = .ok (.aload_n 0, 1) := by decide +kernel
theorem dX6_bound_30 : decode cX6_bound 30 = .ok (.getfield 12, 3) := by decide +kernel
theorem dX6_bound_33 : decode cX6_bound 33 = .ok (.getfield 66, 3) := by decide +kernel
theorem dX6_bound_36 : decode cX6_bound 36 = .ok (.iload_n 1, 1) := by decide +kernel
theorem dX6_bound_37 : decode cX6_bound 37 = .ok (.iaload, 1) := by decide +kernel
theorem dX6_bound_38 : decode cX6_bound 38 = .ok (.istore_n 3, 1) := by decide +kernel
theorem dX6_bound_39 : decode cX6_bound 39 = .ok (.aload_n 0, 1) := by decide +kernel
theorem dX6_bound_40 : decode cX6_bound 40 = .ok (.getfield 12, 3) := by decide +kernel
theorem dX6_bound_43 : decode cX6_bound 43 = .ok (.getfield 66, 3) := by decide +kernel
theorem dX6_bound_46 : decode cX6_bound 46 = .ok (.iload_n 1, 1) := by decide +kernel
theorem dX6_bound_47 : decode cX6_bound 47 = .ok (.iload_n 2, 1) := by decide +kernel
theorem dX6_bound_48 : decode cX6_bound 48 = .ok (.iastore, 1) := by decide +kernel
theorem dX6_bound_49 : decode cX6_bound 49 = .ok (.iload_n 3, 1) := by decide +kernel
theorem dX6_bound_50 : decode cX6_bound 50 = .ok (.ireturn, 1) := by decide +kernel
theorem dX6_set_0 : decode cX6_set 0 = .ok (.aload_n 0, 1) := by decide +kernel
theorem dX6_set_1 : decode cX6_set 1 = .ok (.getfield 12, 3) := by decide +kernel
theorem dX6_set_4 : decode cX6_set 4 = .ok (.getfield 49, 3) := by decide +kernel
theorem dX6_set_7 : decode cX6_set 7 = .ok (.iload_n 1, 1) := by decide +kernel
theorem dX6_set_8 : decode cX6_set 8 = .ok (.iload_n 2, 1) := by decide +kernel
theorem dX6_set_9 : decode cX6_set 9 = .ok (.invokevirtual 69, 3) := by decide +kernel
theorem dX6_set_12 : decode cX6_set 12 = .ok (.ifCond .ne 6, 3) := by decide +kernel
theorem dX6_set_15 : decode cX6_set 15 = .ok (.ldc 73, 2) := by decide +kernel
theorem dX6_set_17 : decode cX6_set 17 = .ok (.ireturn, 1) := by decide +kernel
theorem dX6_set_18 : decode cX6_set 18 = .ok (.iload_n 3, 1) := by decide +kernel
theorem dX6_set_19 : decode cX6_set 19 = .ok (.iconst 0, 1) := by decide +kernel
theorem dX6_set_20 : decode cX6_set 20 = .ok (.sipush 999, 3) := by decide +kernel
theorem dX6_set_23 : decode cX6_set 23 = .ok (.invokestatic 40, 3) := by decide +kernel
theorem dX6_set_26 : decode cX6_set 26 = .ok (.ifCond .ne 6, 3) := by decide +kernel
theorem dX6_set_29 : decode cX6_set 29 = .ok (.ldc 44, 2) := by decide +kernel
theorem dX6_set_31 : decode cX6_set 31 = .ok (.ireturn, 1) := by decide +kernel
theorem dX6_set_32 : decode cX6_set 32 = .ok (.aload_n 0, 1) := by decide +kernel
theorem dX6_set_33 : decode cX6_set 33 = .ok (.getfield 12, 3) := by decide +kernel
theorem dX6_set_36 : decode cX6_set 36 = .ok (.getfield 49, 3) := by decide +kernel
theorem dX6_set_39 : decode cX6_set 39 = .ok (.iload_n 1, 1) := by decide +kernel
theorem dX6_set_40 : decode cX6_set 40 = .ok (.iload_n 2, 1) := by decide +kernel
theorem dX6_set_41 : decode cX6_set 41 = .ok (.invokevirtual 74, 3) := by decide +kernel
theorem dX6_set_44 : decode cX6_set 44 = .ok (.istore 4, 2) := by decide +kernel
theorem dX6_set_46 : decode cX6_set 46 = .ok (.aload_n 0, 1) := by decide +kernel
theorem dX6_set_47 : decode cX6_set 47 = .ok (.getfield 12, 3) := by decide +kernel
theorem dX6_set_50 : decode cX6_set 50 = .ok (.getfield 49, 3) := by decide +kernel
theorem dX6_set_53 : decode cX6_set 53 = .ok (.getfield 78, 3) := by decide +kernel
theorem dX6_set_56 : decode cX6_set 56 = .ok (.iload 4, 2) := by decide +kernel
theorem dX6_set_58 : decode cX6_set 58 = .ok (.iaload, 1) := by decide +kernel
theorem dX6_set_59 : decode cX6_set 59 = .ok (.istore 5, 2) := by decide +kernel
theorem dX6_set_61 : decode cX6_set 61 = .ok (.aload_n 0, 1) := by decide +kernel
theorem dX6_set_62 : decode cX6_set 62 = .ok (.getfield 12, 3) := by decide +kernel
theorem dX6_set_65 : decode cX6_set 65 = .ok (.getfield 49, 3) := by decide +kernel
theorem dX6_set_68 : decode cX6_set 68 = .ok (.getfield 78, 3) := by decide +kernel
theorem dX6_set_71 : decode cX6_set 71 = .ok (.iload 4, 2) := by decide +kernel
theorem dX6_set_73 : decode cX6_set 73 = .ok (.iload_n 3, 1) := by decide +kernel
theorem dX6_set_74 : decode cX6_set 74 = .ok (.iastore, 1) := by decide +kernel
theorem dX6_set_75 : decode cX6_set 75 = .ok (.iload 5, 2) := by decide +kernel
theorem dX6_set_77 : decode cX6_set 77 = .ok (.ireturn, 1) := by decide +kernel
theorem dX6_press_0 : decode cX6_press 0 = .ok (.aload_n 0, 1) := by decide +kernel
theorem dX6_press_1 : decode cX6_press 1 = .ok (.getfield 12, 3) := by decide +kernel
theorem dX6_press_4 : decode cX6_press 4 = .ok (.getfield 49, 3) := by decide +kernel
theorem dX6_press_7 : decode cX6_press 7 = .ok (.iload_n 1, 1) := by decide +kernel
theorem dX6_press_8 : decode cX6_press 8 = .ok (.iload_n 2, 1) := by decide +kernel
theorem dX6_press_9 : decode cX6_press 9 = .ok (.invokevirtual 69, 3) := by decide +kernel
theorem dX6_press_12 : decode cX6_press 12 = .ok (.ifCond .ne 6, 3) := by decide +kernel
theorem dX6_press_15 : decode cX6_press 15 = .ok (.ldc 73, 2) := by decide +kernel
theorem dX6_press_17 : decode cX6_press 17 = .ok (.ireturn, 1) := by decide +kernel
theorem dX6_press_18 : decode cX6_press 18 = .ok (.iload_n 3, 1) := by decide +kernel
theorem dX6_press_19 : decode cX6_press 19 = .ok (.iconst 0, 1) := by decide +kernel
theorem dX6_press_20 : decode cX6_press 20 = .ok (.sipush 999, 3) := by decide +kernel
theorem dX6_press_23 : decode cX6_press 23 = .ok (.invokestatic 40, 3) := by decide +kernel
theorem dX6_press_26 : decode cX6_press 26 = .ok (.ifCond .ne 6, 3) := by decide +kernel
theorem dX6_press_29 : decode cX6_press 29 = .ok (.ldc 44, 2) := by decide +kernel
theorem dX6_press_31 : decode cX6_press 31 = .ok (.ireturn, 1) := by decide +kernel
theorem dX6_press_32 : decode cX6_press 32 = .ok (.iload_n 3, 1) := by decide +kernel
theorem dX6_press_33 : decode cX6_press 33 = .ok (.iconst 2, 1) := by decide +kernel
theorem dX6_press_34 : decode cX6_press 34 = .ok (.idiv, 1) := by decide +kernel
theorem dX6_press_35 : decode cX6_press 35 = .ok (.istore 4, 2) := by decide +kernel
theorem dX6_press_37 : decode cX6_press 37 = .ok (.aload_n 0, 1) := by decide +kernel
theorem dX6_press_38 : decode cX6_press 38 = .ok (.getfield 12, 3) := by decide +kernel
theorem dX6_press_41 : decode cX6_press 41 = .ok (.getfield 49, 3) := by decide +kernel
theorem dX6_press_44 : decode cX6_press 44 = .ok (.iload_n 1, 1) := by decide +kernel
theorem dX6_press_45 : decode cX6_press 45 = .ok (.iload_n 2, 1) := by decide +kernel
theorem dX6_press_46 : decode cX6_press 46 = .ok (.iload_n 3, 1) := by decide +kernel
theorem dX6_press_47 : decode cX6_press 47 = .ok (.invokevirtual 81, 3) := by decide +kernel
theorem dX6_press_50 : decode cX6_press 50 = .ok (.aload_n 0, 1) := by decide +kernel
theorem dX6_press_51 : decode cX6_press 51 = .ok (.getfield 12, 3) := by decide +kernel
theorem dX6_press_54 : decode cX6_press 54 = .ok (.getfield 49, 3) := by decide +kernel
theorem dX6_press_57 : decode cX6_press 57 = .ok (.iload_n 1, 1) := by decide +kernel
theorem dX6_press_58 : decode cX6_press 58 = .ok (.iconst 1, 1) := by decide +kernel
theorem dX6_press_59 : decode cX6_press 59 = .ok (.isub, 1) := by decide +kernel
theorem dX6_press_60 : decode cX6_press 60 = .ok (.iload_n 2, 1) := by decide +kernel
theorem dX6_press_61 : decode cX6_press 61 = .ok (.iload 4, 2) := by decide +kernel
theorem dX6_press_63 : decode cX6_press 63 = .ok (.invokevirtual 81, 3) := by decide +kernel
theorem dX6_press_66 : decode cX6_press 66 = .ok (.aload_n 0, 1) := by decide +kernel
theorem dX6_press_67 : decode cX6_press 67 = .ok (.getfield 12, 3) := by decide +kernel
theorem dX6_press_70 : decode cX6_press 70 = .ok (.getfield 49, 3) := by decide +kernel
theorem dX6_press_73 : decode cX6_press 73 = .ok (.iload_n 1, 1) := by decide +kernel
theorem dX6_press_74 : decode cX6_press 74 = .ok (.iconst 1, 1) := by decide +kernel
theorem dX6_press_75 : decode cX6_press 75 = .ok (.iadd, 1) := by decide +kernel
theorem dX6_press_76 : decode cX6_press 76 = .ok (.iload_n 2, 1) := by decide +kernel
theorem dX6_press_77 : decode cX6_press 77 = .ok (.iload 4, 2) := by decide +kernel
theorem dX6_press_79 : decode cX6_press 79 = .ok (.invokevirtual 81, 3) := by decide +kernel
theorem dX6_press_82 : decode cX6_press 82 = .ok (.aload_n 0, 1) := by decide +kernel
theorem dX6_press_83 : decode cX6_press 83 = .ok (.getfield 12, 3) := by decide +kernel
theorem dX6_press_86 : decode cX6_press 86 = .ok (.getfield 49, 3) := by decide +kernel
theorem dX6_press_89 : decode cX6_press 89 = .ok (.iload_n 1, 1) := by decide +kernel
theorem dX6_press_90 : decode cX6_press 90 = .ok (.iload_n 2, 1) := by decide +kernel
theorem dX6_press_91 : decode cX6_press 91 = .ok (.iconst 1, 1) := by decide +kernel
theorem dX6_press_92 : decode cX6_press 92 = .ok (.isub, 1) := by decide +kernel
theorem dX6_press_93 : decode cX6_press 93 = .ok (.iload 4, 2) := by decide +kernel
theorem dX6_press_95 : decode cX6_press 95 = .ok (.invokevirtual 81, 3) := by decide +kernel
theorem dX6_press_98 : decode cX6_press 98 = .ok (.aload_n 0, 1) := by decide +kernel
theorem dX6_press_99 : decode cX6_press 99 = .ok (.getfield 12, 3) := by decide +kernel
theorem dX6_press_102 : decode cX6_press 102 = .ok (.getfield 49, 3) := by decide +kernel
theorem dX6_press_105 : decode cX6_press 105 = .ok (.iload_n 1, 1) := by decide +kernel
theorem dX6_press_106 : decode cX6_press 106 = .ok (.iload_n 2, 1) := by decide +kernel
theorem dX6_press_107 : decode cX6_press 107 = .ok (.iconst 1, 1) := by decide +kernel
theorem dX6_press_108 : decode cX6_press 108 = .ok (.iadd, 1) := by decide +kernel
theorem dX6_press_109 : decode cX6_press 109 = .ok (.iload 4, 2) := by decide +kernel
theorem dX6_press_111 : decode cX6_press 111 = .ok (.invokevirtual 81, 3) := by decide +kernel
theorem dX6_press_114 : decode cX6_press 114 = .ok (.aload_n 0, 1) := by decide +kernel
theorem dX6_press_115 : decode cX6_press 115 = .ok (.getfield 12, 3) := by decide +kernel
theorem dX6_press_118 : decode cX6_press 118 = .ok (.getfield 49, 3) := by decide +kernel
theorem dX6_press_121 : decode cX6_press 121 = .ok (.getfield 78, 3) := by decide +kernel
theorem dX6_press_124 : decode cX6_press 124 = .ok (.aload_n 0, 1) := by decide +kernel
theorem dX6_press_125 : decode cX6_press 125 = .ok (.getfield 12, 3) := by decide +kernel
theorem dX6_press_128 : decode cX6_press 128 = .ok (.getfield 49, 3) := by decide +kernel
theorem dX6_press_131 : decode cX6_press 131 = .ok (.iload_n 1, 1) := by decide +kernel
theorem dX6_press_132 : decode cX6_press 132 = .ok (.iload_n 2, 1) := by decide +kernel
theorem dX6_press_133 : decode cX6_press 133 = .ok (.invokevirtual 74, 3) := by decide +kernel
theorem dX6_press_136 : decode cX6_press 136 = .ok (.iaload, 1) := by decide +kernel
theorem dX6_press_137 : decode cX6_press 137 = .ok (.ireturn, 1) := by decide +kernel
theorem dX6_wipe_0 : decode cX6_wipe 0 = .ok (.aload_n 0, 1) := by decide +kernel
theorem dX6_wipe_1 : decode cX6_wipe 1 = .ok (.getfield 12, 3) := by decide +kernel
theorem dX6_wipe_4 : decode cX6_wipe 4 = .ok (.getfield 49, 3) := by decide +kernel
theorem dX6_wipe_7 : decode cX6_wipe 7 = .ok (.invokevirtual 85, 3) := by decide +kernel
theorem dX6_wipe_10 : decode cX6_wipe 10 = .ok (.ireturn, 1) := by decide +kernel
theorem dX6_lose_0 : decode cX6_lose 0 = .ok (.aload_n 0, 1) := by decide +kernel
theorem dX6_lose_1 : decode cX6_lose 1 = .ok (.getfield 12, 3) := by decide +kernel
theorem dX6_lose_4 : decode cX6_lose 4 = .ok (.getfield 49, 3) := by decide +kernel
theorem dX6_lose_7 : decode cX6_lose 7 = .ok (.iload_n 1, 1) := by decide +kernel
theorem dX6_lose_8 : decode cX6_lose 8 = .ok (.invokevirtual 88, 3) := by decide +kernel
theorem dX6_lose_11 : decode cX6_lose 11 = .ok (.ifCond .ne 6, 3) := by decide +kernel
theorem dX6_lose_14 : decode cX6_lose 14 = .ok (.ldc 73, 2) := by decide +kernel
theorem dX6_lose_16 : decode cX6_lose 16 = .ok (.ireturn, 1) := by decide +kernel
theorem dX6_lose_17 : decode cX6_lose 17 = .ok (.aload_n 0, 1) := by decide +kernel
theorem dX6_lose_18 : decode cX6_lose 18 = .ok (.getfield 12, 3) := by decide +kernel
theorem dX6_lose_21 : decode cX6_lose 21 = .ok (.getfield 49, 3) := by decide +kernel
theorem dX6_lose_24 : decode cX6_lose 24 = .ok (.iload_n 1, 1) := by decide +kernel
theorem dX6_lose_25 : decode cX6_lose 25 = .ok (.invokevirtual 92, 3) := by decide +kernel
theorem dX6_lose_28 : decode cX6_lose 28 = .ok (.ifCond .eq 6, 3) := by decide +kernel
theorem dX6_lose_31 : decode cX6_lose 31 = .ok (.ldc 95, 2) := by decide +kernel
theorem dX6_lose_33 : decode cX6_lose 33 = .ok (.ireturn, 1) := by decide +kernel
theorem dX6_lose_34 : decode cX6_lose 34 = .ok (.aload_n 0, 1) := by decide +kernel
theorem dX6_lose_35 : decode cX6_lose 35 = .ok (.getfield 12, 3) := by decide +kernel
theorem dX6_lose_38 : decode cX6_lose 38 = .ok (.getfield 49, 3) := by decide +kernel
theorem dX6_lose_41 : decode cX6_lose 41 = .ok (.iload_n 1, 1) := by decide +kernel
theorem dX6_lose_42 : decode cX6_lose 42 = .ok (.invokevirtual 96, 3) := by decide +kernel
theorem dX6_lose_45 : decode cX6_lose 45 = .ok (.aload_n 0, 1) := by decide +kernel
theorem dX6_lose_46 : decode cX6_lose 46 = .ok (.getfield 12, 3) := by decide +kernel
theorem dX6_lose_49 : decode cX6_lose 49 = .ok (.getfield 49, 3) := by decide +kernel
theorem dX6_lose_52 : decode cX6_lose 52 = .ok (.getfield 100, 3) := by decide +kernel
theorem dX6_lose_55 : decode cX6_lose 55 = .ok (.ireturn, 1) := by decide +kernel
theorem dX6_frame_0 : decode cX6_frame 0 = .ok (.iload_n 1, 1) := by decide +kernel
theorem dX6_frame_1 : decode cX6_frame 1 = .ok (.iconst 1, 1) := by decide +kernel
theorem dX6_frame_2 : decode cX6_frame 2 = .ok (.bipush 30, 2) := by decide +kernel
theorem dX6_frame_4 : decode cX6_frame 4 = .ok (.invokestatic 40, 3) := by decide +kernel
theorem dX6_frame_7 : decode cX6_frame 7 = .ok (.ifCond .ne 6, 3) := by decide +kernel
theorem dX6_frame_10 : decode cX6_frame 10 = .ok (.ldc 44, 2) := by decide +kernel
theorem dX6_frame_12 : decode cX6_frame 12 = .ok (.ireturn, 1) := by decide +kernel
theorem dX6_frame_13 : decode cX6_frame 13 = .ok (.aload_n 0, 1) := by decide +kernel
theorem dX6_frame_14 : decode cX6_frame 14 = .ok (.getfield 12, 3) := by decide +kernel
theorem dX6_frame_17 : decode cX6_frame 17 = .ok (.getfield 103, 3) := by decide +kernel
theorem dX6_frame_20 : decode cX6_frame 20 = .ok (.sipush 9000, 3) := by decide +kernel
theorem dX6_frame_23 : decode cX6_frame 23 = .ok (.if_icmp .le 6, 3) := by decide +kernel
theorem dX6_frame_26 : decode cX6_frame 26 = .ok (.ldc 106, 2) := by decide +kernel
theorem dX6_frame_28 : decode cX6_frame 28 = .ok (.ireturn, 1) := by decide +kernel
theorem dX6_frame_29 : decode cX6_frame 29 = .ok (.iconst 0, 1) := by decide +kernel
theorem dX6_frame_30 : decode cX6_frame 30 = .ok (.istore_n 2, 1) := by decide +kernel
theorem dX6_frame_31 : decode cX6_frame 31 = .ok (.iload_n 2, 1) := by decide +kernel
theorem dX6_frame_32 : decode cX6_frame 32 = .ok (.iload_n 1, 1) := by decide +kernel
theorem dX6_frame_33 : decode cX6_frame 33 = .ok (.if_icmp .ge 20, 3) := by decide +kernel
theorem dX6_frame_36 : decode cX6_frame 36 = .ok (.aload_n 0, 1) := by decide +kernel
theorem dX6_frame_37 : decode cX6_frame 37 = .ok (.getfield 12, 3) := by decide +kernel
theorem dX6_frame_40 : decode cX6_frame 40 = .ok (.aload_n 0, 1) := by decide +kernel
theorem dX6_frame_41 : decode cX6_frame 41 = .ok (.getfield 25, 3) := by decide +kernel
theorem dX6_frame_44 : decode cX6_frame 44 = .ok (.invokevirtual 107, 3) := by decide +kernel
theorem dX6_frame_47 : decode cX6_frame 47 = .ok (.iinc 2 1, 3) := by decide +kernel
theorem dX6_frame_50 : decode cX6_frame 50 = .ok (.goto (-19), 3) := by decide +kernel
theorem dX6_frame_53 : decode cX6_frame 53 = .ok (.aload_n 0, 1) := by decide +kernel
theorem dX6_frame_54 : decode cX6_frame 54 = .ok (.getfield 12, 3) := by decide +kernel
theorem dX6_frame_57 : decode cX6_frame 57 = .ok (.getfield 111, 3) := by decide +kernel
theorem dX6_frame_60 : decode cX6_frame 60 = .ok (.ireturn, 1) := by decide +kernel
theorem dX6_drift_0 : decode cX6_drift 0 = .ok (.iload_n 1, 1) := by decide +kernel
theorem dX6_drift_1 : decode cX6_drift 1 = .ok (.iconst 1, 1) := by decide +kernel
theorem dX6_drift_2 : decode cX6_drift 2 = .ok (.bipush 30, 2) := by decide +kernel
theorem dX6_drift_4 : decode cX6_drift 4 = .ok (.invokestatic 40, 3) := by decide +kernel
theorem dX6_drift_7 : decode cX6_drift 7 = .ok (.ifCond .eq 13, 3) := by decide +kernel
theorem dX6_drift_10 : decode cX6_drift 10 = .ok (.iload_n 2, 1) := by decide +kernel
theorem dX6_drift_11 : decode cX6_drift 11 = .ok (.iconst 1, 1) := by decide +kernel
theorem dX6_drift_12 : decode cX6_drift 12 = .ok (.ldc 114, 2) := by decide +kernel
theorem dX6_drift_14 : decode cX6_drift 14 = .ok (.invokestatic 40, 3) := by decide +kernel
theorem dX6_drift_17 : decode cX6_drift 17 = .ok (.ifCond .ne 6, 3) := by decide +kernel
theorem dX6_drift_20 : decode cX6_drift 20 = .ok (.ldc 44, 2) := by decide +kernel
theorem dX6_drift_22 : decode cX6_drift 22 = .ok (.ireturn, 1) := by decide +kernel
theorem dX6_drift_23 : decode cX6_drift 23 = .ok (.aload_n 0, 1) := by decide +kernel
theorem dX6_drift_24 : decode cX6_drift 24 = .ok (.getfield 12, 3) := by decide +kernel
theorem dX6_drift_27 : decode cX6_drift 27 = .ok (.getfield 103, 3) := by decide +kernel
theorem dX6_drift_30 : decode cX6_drift 30 = .ok (.sipush 9000, 3) := by decide +kernel
theorem dX6_drift_33 : decode cX6_drift 33 = .ok (.if_icmp .le 6, 3) := by decide +kernel
theorem dX6_drift_36 : decode cX6_drift 36 = .ok (.ldc 106, 2) := by decide +kernel
theorem dX6_drift_38 : decode cX6_drift 38 = .ok (.ireturn, 1) := by decide +kernel
theorem dX6_drift_39 : decode cX6_drift 39 = .ok (.aload_n 0, 1) := by decide +kernel
theorem dX6_drift_40 : decode cX6_drift 40 = .ok (.getfield 32, 3) := by decide +kernel
theorem dX6_drift_43 : decode cX6_drift 43 = .ok (.iload_n 2, 1) := by decide +kernel
theorem dX6_drift_44 : decode cX6_drift 44 = .ok (.i2l, 1) := by decide +kernel
theorem dX6_drift_45 : decode cX6_drift 45 = .ok (.putfield 115, 3) := by decide +kernel
theorem dX6_drift_48 : decode cX6_drift 48 = .ok (.iconst 0, 1) := by decide +kernel
theorem dX6_drift_49 : decode cX6_drift 49 = .ok (.istore_n 3, 1) := by decide +kernel
theorem dX6_drift_50 : decode cX6_drift 50 = .ok (.iload_n 3, 1) := by decide +kernel
theorem dX6_drift_51 : decode cX6_drift 51 = .ok (.iload_n 1, 1) := by decide +kernel
theorem dX6_drift_52 : decode cX6_drift 52 = .ok (.if_icmp .ge 34, 3) := by decide +kernel
theorem dX6_drift_55 : decode cX6_drift 55 = .ok (.aload_n 0, 1) := by decide +kernel
theorem dX6_drift_56 : decode cX6_drift 56 = .ok (.getfield 32, 3) := by decide +kernel
theorem dX6_drift_59 : decode cX6_drift 59 = .ok (.aload_n 0, 1) := by decide +kernel
theorem dX6_drift_60 : decode cX6_drift 60 = .ok (.getfield 12, 3) := by decide +kernel
theorem dX6_drift_63 : decode cX6_drift 63 = .ok (.getfield 49, 3) := by decide +kernel
theorem dX6_drift_66 : decode cX6_drift 66 = .ok (.invokevirtual 119, 3) := by decide +kernel
theorem dX6_drift_69 : decode cX6_drift 69 = .ok (.aload_n 0, 1) := by decide +kernel
theorem dX6_drift_70 : decode cX6_drift 70 = .ok (.getfield 12, 3) := by decide +kernel
theorem dX6_drift_73 : decode cX6_drift 73 = .ok (.aload_n 0, 1) := by decide +kernel
theorem dX6_drift_74 : decode cX6_drift 74 = .ok (.getfield 25, 3) := by decide +kernel
theorem dX6_drift_77 : decode cX6_drift 77 = .ok (.invokevirtual 107, 3) := by decide +kernel
theorem dX6_drift_80 : decode cX6_drift 80 = .ok (.iinc 3 1, 3) := by decide +kernel
theorem dX6_drift_83 : decode cX6_drift 83 = .ok (.goto (-33), 3) := by decide +kernel
theorem dX6_drift_86 : decode cX6_drift 86 = .ok (.aload_n 0, 1) := by decide +kernel
theorem dX6_drift_87 : decode cX6_drift 87 = .ok (.getfield 12, 3) := by decide +kernel
theorem dX6_drift_90 : decode cX6_drift 90 = .ok (.getfield 111, 3) := by decide +kernel
theorem dX6_drift_93 : decode cX6_drift 93 = .ok (.ireturn, 1) := by decide +kernel
theorem dX6_told_0 : decode cX6_told 0 = .ok (.iload_n 1, 1) := by decide +kernel
theorem dX6_told_1 : decode cX6_told 1 = .ok (.tableswitch 260 0 16 #[83, 94, 105, 115, 125, 135, 145, 153, 161, 172, 183, 194, 205, 216, 227, 238, 249], 83) := by decide +kernel
theorem dX6_told_84 : decode cX6_told 84 = .ok (.aload_n 0, 1) := by decide +kernel
theorem dX6_told_85 : decode cX6_told 85 = .ok (.getfield 12, 3) := by decide +kernel
theorem dX6_told_88 : decode cX6_told 88 = .ok (.getfield 49, 3) := by decide +kernel
theorem dX6_told_91 : decode cX6_told 91 = .ok (.getfield 123, 3) := by decide +kernel
theorem dX6_told_94 : decode cX6_told 94 = .ok (.ireturn, 1) := by decide +kernel
theorem dX6_told_95 : decode cX6_told 95 = .ok (.aload_n 0, 1) := by decide +kernel
theorem dX6_told_96 : decode cX6_told 96 = .ok (.getfield 12, 3) := by decide +kernel
theorem dX6_told_99 : decode cX6_told 99 = .ok (.getfield 49, 3) := by decide +kernel
theorem dX6_told_102 : decode cX6_told 102 = .ok (.getfield 126, 3) := by decide +kernel
theorem dX6_told_105 : decode cX6_told 105 = .ok (.ireturn, 1) := by decide +kernel
theorem dX6_told_106 : decode cX6_told 106 = .ok (.aload_n 0, 1) := by decide +kernel
theorem dX6_told_107 : decode cX6_told 107 = .ok (.getfield 12, 3) := by decide +kernel
theorem dX6_told_110 : decode cX6_told 110 = .ok (.getfield 66, 3) := by decide +kernel
theorem dX6_told_113 : decode cX6_told 113 = .ok (.iconst 0, 1) := by decide +kernel
theorem dX6_told_114 : decode cX6_told 114 = .ok (.iaload, 1) := by decide +kernel
theorem dX6_told_115 : decode cX6_told 115 = .ok (.ireturn, 1) := by decide +kernel
theorem dX6_told_116 : decode cX6_told 116 = .ok (.aload_n 0, 1) := by decide +kernel
theorem dX6_told_117 : decode cX6_told 117 = .ok (.getfield 12, 3) := by decide +kernel
theorem dX6_told_120 : decode cX6_told 120 = .ok (.getfield 66, 3) := by decide +kernel
theorem dX6_told_123 : decode cX6_told 123 = .ok (.iconst 1, 1) := by decide +kernel
theorem dX6_told_124 : decode cX6_told 124 = .ok (.iaload, 1) := by decide +kernel
theorem dX6_told_125 : decode cX6_told 125 = .ok (.ireturn, 1) := by decide +kernel
theorem dX6_told_126 : decode cX6_told 126 = .ok (.aload_n 0, 1) := by decide +kernel
theorem dX6_told_127 : decode cX6_told 127 = .ok (.getfield 12, 3) := by decide +kernel
theorem dX6_told_130 : decode cX6_told 130 = .ok (.getfield 66, 3) := by decide +kernel
theorem dX6_told_133 : decode cX6_told 133 = .ok (.iconst 2, 1) := by decide +kernel
theorem dX6_told_134 : decode cX6_told 134 = .ok (.iaload, 1) := by decide +kernel
theorem dX6_told_135 : decode cX6_told 135 = .ok (.ireturn, 1) := by decide +kernel
theorem dX6_told_136 : decode cX6_told 136 = .ok (.aload_n 0, 1) := by decide +kernel
theorem dX6_told_137 : decode cX6_told 137 = .ok (.getfield 12, 3) := by decide +kernel
theorem dX6_told_140 : decode cX6_told 140 = .ok (.getfield 66, 3) := by decide +kernel
theorem dX6_told_143 : decode cX6_told 143 = .ok (.iconst 3, 1) := by decide +kernel
theorem dX6_told_144 : decode cX6_told 144 = .ok (.iaload, 1) := by decide +kernel
theorem dX6_told_145 : decode cX6_told 145 = .ok (.ireturn, 1) := by decide +kernel
theorem dX6_told_146 : decode cX6_told 146 = .ok (.aload_n 0, 1) := by decide +kernel
theorem dX6_told_147 : decode cX6_told 147 = .ok (.getfield 12, 3) := by decide +kernel
theorem dX6_told_150 : decode cX6_told 150 = .ok (.getfield 103, 3) := by decide +kernel
theorem dX6_told_153 : decode cX6_told 153 = .ok (.ireturn, 1) := by decide +kernel
theorem dX6_told_154 : decode cX6_told 154 = .ok (.aload_n 0, 1) := by decide +kernel
theorem dX6_told_155 : decode cX6_told 155 = .ok (.getfield 12, 3) := by decide +kernel
theorem dX6_told_158 : decode cX6_told 158 = .ok (.getfield 111, 3) := by decide +kernel
theorem dX6_told_161 : decode cX6_told 161 = .ok (.ireturn, 1) := by decide +kernel
theorem dX6_told_162 : decode cX6_told 162 = .ok (.aload_n 0, 1) := by decide +kernel
theorem dX6_told_163 : decode cX6_told 163 = .ok (.getfield 12, 3) := by decide +kernel
theorem dX6_told_166 : decode cX6_told 166 = .ok (.getfield 129, 3) := by decide +kernel
theorem dX6_told_169 : decode cX6_told 169 = .ok (.getfield 133, 3) := by decide +kernel
theorem dX6_told_172 : decode cX6_told 172 = .ok (.ireturn, 1) := by decide +kernel
theorem dX6_told_173 : decode cX6_told 173 = .ok (.aload_n 0, 1) := by decide +kernel
theorem dX6_told_174 : decode cX6_told 174 = .ok (.getfield 12, 3) := by decide +kernel
theorem dX6_told_177 : decode cX6_told 177 = .ok (.getfield 129, 3) := by decide +kernel
theorem dX6_told_180 : decode cX6_told 180 = .ok (.getfield 138, 3) := by decide +kernel
theorem dX6_told_183 : decode cX6_told 183 = .ok (.ireturn, 1) := by decide +kernel
theorem dX6_told_184 : decode cX6_told 184 = .ok (.aload_n 0, 1) := by decide +kernel
theorem dX6_told_185 : decode cX6_told 185 = .ok (.getfield 12, 3) := by decide +kernel
theorem dX6_told_188 : decode cX6_told 188 = .ok (.getfield 141, 3) := by decide +kernel
theorem dX6_told_191 : decode cX6_told 191 = .ok (.getfield 145, 3) := by decide +kernel
theorem dX6_told_194 : decode cX6_told 194 = .ok (.ireturn, 1) := by decide +kernel
theorem dX6_told_195 : decode cX6_told 195 = .ok (.aload_n 0, 1) := by decide +kernel
theorem dX6_told_196 : decode cX6_told 196 = .ok (.getfield 12, 3) := by decide +kernel
theorem dX6_told_199 : decode cX6_told 199 = .ok (.getfield 141, 3) := by decide +kernel
theorem dX6_told_202 : decode cX6_told 202 = .ok (.getfield 148, 3) := by decide +kernel
theorem dX6_told_205 : decode cX6_told 205 = .ok (.ireturn, 1) := by decide +kernel
theorem dX6_told_206 : decode cX6_told 206 = .ok (.aload_n 0, 1) := by decide +kernel
theorem dX6_told_207 : decode cX6_told 207 = .ok (.getfield 12, 3) := by decide +kernel
theorem dX6_told_210 : decode cX6_told 210 = .ok (.getfield 141, 3) := by decide +kernel
theorem dX6_told_213 : decode cX6_told 213 = .ok (.getfield 151, 3) := by decide +kernel
theorem dX6_told_216 : decode cX6_told 216 = .ok (.ireturn, 1) := by decide +kernel
theorem dX6_told_217 : decode cX6_told 217 = .ok (.aload_n 0, 1) := by decide +kernel
theorem dX6_told_218 : decode cX6_told 218 = .ok (.getfield 12, 3) := by decide +kernel
theorem dX6_told_221 : decode cX6_told 221 = .ok (.getfield 141, 3) := by decide +kernel
theorem dX6_told_224 : decode cX6_told 224 = .ok (.getfield 154, 3) := by decide +kernel
theorem dX6_told_227 : decode cX6_told 227 = .ok (.ireturn, 1) := by decide +kernel
theorem dX6_told_228 : decode cX6_told 228 = .ok (.aload_n 0, 1) := by decide +kernel
theorem dX6_told_229 : decode cX6_told 229 = .ok (.getfield 12, 3) := by decide +kernel
theorem dX6_told_232 : decode cX6_told 232 = .ok (.getfield 49, 3) := by decide +kernel
theorem dX6_told_235 : decode cX6_told 235 = .ok (.getfield 100, 3) := by decide +kernel
theorem dX6_told_238 : decode cX6_told 238 = .ok (.ireturn, 1) := by decide +kernel
theorem dX6_told_239 : decode cX6_told 239 = .ok (.aload_n 0, 1) := by decide +kernel
theorem dX6_told_240 : decode cX6_told 240 = .ok (.getfield 12, 3) := by decide +kernel
theorem dX6_told_243 : decode cX6_told 243 = .ok (.getfield 49, 3) := by decide +kernel
theorem dX6_told_246 : decode cX6_told 246 = .ok (.getfield 157, 3) := by decide +kernel
theorem dX6_told_249 : decode cX6_told 249 = .ok (.ireturn, 1) := by decide +kernel
theorem dX6_told_250 : decode cX6_told 250 = .ok (.aload_n 0, 1) := by decide +kernel
theorem dX6_told_251 : decode cX6_told 251 = .ok (.getfield 12, 3) := by decide +kernel
theorem dX6_told_254 : decode cX6_told 254 = .ok (.getfield 49, 3) := by decide +kernel
theorem dX6_told_257 : decode cX6_told 257 = .ok (.getfield 160, 3) := by decide +kernel
theorem dX6_told_260 : decode cX6_told 260 = .ok (.ireturn, 1) := by decide +kernel
theorem dX6_told_261 : decode cX6_told 261 = .ok (.ldc 44, 2) := by decide +kernel
theorem dX6_told_263 : decode cX6_told 263 = .ok (.ireturn, 1) := by decide +kernel
theorem dX6_cell_0 : decode cX6_cell 0 = .ok (.aload_n 0, 1) := by decide +kernel
theorem dX6_cell_1 : decode cX6_cell 1 = .ok (.getfield 12, 3) := by decide +kernel
theorem dX6_cell_4 : decode cX6_cell 4 = .ok (.getfield 49, 3) := by decide +kernel
theorem dX6_cell_7 : decode cX6_cell 7 = .ok (.iload_n 1, 1) := by decide +kernel
theorem dX6_cell_8 : decode cX6_cell 8 = .ok (.iload_n 2, 1) := by decide +kernel
theorem dX6_cell_9 : decode cX6_cell 9 = .ok (.invokevirtual 69, 3) := by decide +kernel
theorem dX6_cell_12 : decode cX6_cell 12 = .ok (.ifCond .ne 6, 3) := by decide +kernel
theorem dX6_cell_15 : decode cX6_cell 15 = .ok (.ldc 73, 2) := by decide +kernel
theorem dX6_cell_17 : decode cX6_cell 17 = .ok (.ireturn, 1) := by decide +kernel
theorem dX6_cell_18 : decode cX6_cell 18 = .ok (.aload_n 0, 1) := by decide +kernel
theorem dX6_cell_19 : decode cX6_cell 19 = .ok (.getfield 12, 3) := by decide +kernel
theorem dX6_cell_22 : decode cX6_cell 22 = .ok (.getfield 49, 3) := by decide +kernel
theorem dX6_cell_25 : decode cX6_cell 25 = .ok (.iload_n 1, 1) := by decide +kernel
theorem dX6_cell_26 : decode cX6_cell 26 = .ok (.iload_n 2, 1) := by decide +kernel
theorem dX6_cell_27 : decode cX6_cell 27 = .ok (.invokevirtual 74, 3) := by decide +kernel
theorem dX6_cell_30 : decode cX6_cell 30 = .ok (.istore 4, 2) := by decide +kernel
theorem dX6_cell_32 : decode cX6_cell 32 = .ok (.iload_n 3, 1) := by decide +kernel
theorem dX6_cell_33 : decode cX6_cell 33 = .ok (.tableswitch 112 0 4 #[35, 49, 63, 77, 98], 35) := by decide +kernel
theorem dX6_cell_68 : decode cX6_cell 68 = .ok (.aload_n 0, 1) := by decide +kernel
theorem dX6_cell_69 : decode cX6_cell 69 = .ok (.getfield 12, 3) := by decide +kernel
theorem dX6_cell_72 : decode cX6_cell 72 = .ok (.getfield 49, 3) := by decide +kernel
theorem dX6_cell_75 : decode cX6_cell 75 = .ok (.getfield 78, 3) := by decide +kernel
theorem dX6_cell_78 : decode cX6_cell 78 = .ok (.iload 4, 2) := by decide +kernel
theorem dX6_cell_80 : decode cX6_cell 80 = .ok (.iaload, 1) := by decide +kernel
theorem dX6_cell_81 : decode cX6_cell 81 = .ok (.ireturn, 1) := by decide +kernel
theorem dX6_cell_82 : decode cX6_cell 82 = .ok (.aload_n 0, 1) := by decide +kernel
theorem dX6_cell_83 : decode cX6_cell 83 = .ok (.getfield 12, 3) := by decide +kernel
theorem dX6_cell_86 : decode cX6_cell 86 = .ok (.getfield 49, 3) := by decide +kernel
theorem dX6_cell_89 : decode cX6_cell 89 = .ok (.getfield 163, 3) := by decide +kernel
theorem dX6_cell_92 : decode cX6_cell 92 = .ok (.iload 4, 2) := by decide +kernel
theorem dX6_cell_94 : decode cX6_cell 94 = .ok (.iaload, 1) := by decide +kernel
theorem dX6_cell_95 : decode cX6_cell 95 = .ok (.ireturn, 1) := by decide +kernel
theorem dX6_cell_96 : decode cX6_cell 96 = .ok (.aload_n 0, 1) := by decide +kernel
theorem dX6_cell_97 : decode cX6_cell 97 = .ok (.getfield 12, 3) := by decide +kernel
theorem dX6_cell_100 : decode cX6_cell 100 = .ok (.getfield 49, 3) := by decide +kernel
theorem dX6_cell_103 : decode cX6_cell 103 = .ok (.getfield 166, 3) := by decide +kernel
theorem dX6_cell_106 : decode cX6_cell 106 = .ok (.iload 4, 2) := by decide +kernel
theorem dX6_cell_108 : decode cX6_cell 108 = .ok (.iaload, 1) := by decide +kernel
theorem dX6_cell_109 : decode cX6_cell 109 = .ok (.ireturn, 1) := by decide +kernel
theorem dX6_cell_110 : decode cX6_cell 110 = .ok (.aload_n 0, 1) := by decide +kernel
theorem dX6_cell_111 : decode cX6_cell 111 = .ok (.getfield 12, 3) := by decide +kernel
theorem dX6_cell_114 : decode cX6_cell 114 = .ok (.getfield 49, 3) := by decide +kernel
theorem dX6_cell_117 : decode cX6_cell 117 = .ok (.iload 4, 2) := by decide +kernel
theorem dX6_cell_119 : decode cX6_cell 119 = .ok (.invokevirtual 169, 3) := by decide +kernel
theorem dX6_cell_122 : decode cX6_cell 122 = .ok (.ifCond .eq 7, 3) := by decide +kernel
theorem dX6_cell_125 : decode cX6_cell 125 = .ok (.iconst 1, 1) := by decide +kernel
theorem dX6_cell_126 : decode cX6_cell 126 = .ok (.goto 4, 3) := by decide +kernel
theorem dX6_cell_129 : decode cX6_cell 129 = .ok (.iconst 0, 1) := by decide +kernel
theorem dX6_cell_130 : decode cX6_cell 130 = .ok (.ireturn, 1) := by decide +kernel
theorem dX6_cell_131 : decode cX6_cell 131 = .ok (.aload_n 0, 1) := by decide +kernel
theorem dX6_cell_132 : decode cX6_cell 132 = .ok (.getfield 12, 3) := by decide +kernel
theorem dX6_cell_135 : decode cX6_cell 135 = .ok (.getfield 49, 3) := by decide +kernel
theorem dX6_cell_138 : decode cX6_cell 138 = .ok (.getfield 172, 3) := by decide +kernel
theorem dX6_cell_141 : decode cX6_cell 141 = .ok (.iload 4, 2) := by decide +kernel
theorem dX6_cell_143 : decode cX6_cell 143 = .ok (.iaload, 1) := by decide +kernel
theorem dX6_cell_144 : decode cX6_cell 144 = .ok (.ireturn, 1) := by decide +kernel
theorem dX6_cell_145 : decode cX6_cell 145 = .ok (.ldc 44, 2) := by decide +kernel
theorem dX6_cell_147 : decode cX6_cell 147 = .ok (.ireturn, 1) := by decide +kernel
theorem dX6_contact_0 : decode cX6_contact 0 = .ok (.iload_n 2, 1) := by decide +kernel
theorem dX6_contact_1 : decode cX6_contact 1 = .ok (.iconst 0, 1) := by decide +kernel
theorem dX6_contact_2 : decode cX6_contact 2 = .ok (.iconst 4, 1) := by decide +kernel
theorem dX6_contact_3 : decode cX6_contact 3 = .ok (.invokestatic 40, 3) := by decide +kernel
theorem dX6_contact_6 : decode cX6_contact 6 = .ok (.ifCond .ne 6, 3) := by decide +kernel
theorem dX6_contact_9 : decode cX6_contact 9 = .ok (.ldc 44, 2) := by decide +kernel
theorem dX6_contact_11 : decode cX6_contact 11 = .ok (.ireturn, 1) := by decide +kernel
theorem dX6_contact_12 : decode cX6_contact 12 = .ok (.iload_n 1, 1) := by decide +kernel
theorem dX6_contact_13 : decode cX6_contact 13 = .ok (.iconst 0, 1) := by decide +kernel
theorem dX6_contact_14 : decode cX6_contact 14 = .ok (.aload_n 0, 1) := by decide +kernel
theorem dX6_contact_15 : decode cX6_contact 15 = .ok (.getfield 12, 3) := by decide +kernel
theorem dX6_contact_18 : decode cX6_contact 18 = .ok (.getfield 129, 3) := by decide +kernel
theorem dX6_contact_21 : decode cX6_contact 21 = .ok (.getfield 133, 3) := by decide +kernel
theorem dX6_contact_24 : decode cX6_contact 24 = .ok (.iconst 1, 1) := by decide +kernel
theorem dX6_contact_25 : decode cX6_contact 25 = .ok (.isub, 1) := by decide +kernel
theorem dX6_contact_26 : decode cX6_contact 26 = .ok (.invokestatic 40, 3) := by decide +kernel
theorem dX6_contact_29 : decode cX6_contact 29 = .ok (.ifCond .ne 5, 3) := by decide +kernel
theorem dX6_contact_32 : decode cX6_contact 32 = .ok (.iconst (-1), 1) := by decide +kernel
theorem dX6_contact_33 : decode cX6_contact 33 = .ok (.ireturn, 1) := by decide +kernel
theorem dX6_contact_34 : decode cX6_contact 34 = .ok (.aload_n 0, 1) := by decide +kernel
theorem dX6_contact_35 : decode cX6_contact 35 = .ok (.getfield 12, 3) := by decide +kernel
theorem dX6_contact_38 : decode cX6_contact 38 = .ok (.getfield 129, 3) := by decide +kernel
theorem dX6_contact_41 : decode cX6_contact 41 = .ok (.getfield 175, 3) := by decide +kernel
theorem dX6_contact_44 : decode cX6_contact 44 = .ok (.iload_n 1, 1) := by decide +kernel
theorem dX6_contact_45 : decode cX6_contact 45 = .ok (.iaload, 1) := by decide +kernel
theorem dX6_contact_46 : decode cX6_contact 46 = .ok (.istore_n 3, 1) := by decide +kernel
theorem dX6_contact_47 : decode cX6_contact 47 = .ok (.iload_n 2, 1) := by decide +kernel
theorem dX6_contact_48 : decode cX6_contact 48 = .ok (.tableswitch 71 0 3 #[32, 34, 46, 58], 32) := by decide +kernel
theorem dX6_contact_80 : decode cX6_contact 80 = .ok (.iload_n 3, 1) := by decide +kernel
theorem dX6_contact_81 : decode cX6_contact 81 = .ok (.ireturn, 1) := by decide +kernel
theorem dX6_contact_82 : decode cX6_contact 82 = .ok (.aload_n 0, 1) := by decide +kernel
theorem dX6_contact_83 : decode cX6_contact 83 = .ok (.getfield 12, 3) := by decide +kernel
theorem dX6_contact_86 : decode cX6_contact 86 = .ok (.getfield 49, 3) := by decide +kernel
theorem dX6_contact_89 : decode cX6_contact 89 = .ok (.iload_n 3, 1) := by decide +kernel
theorem dX6_contact_90 : decode cX6_contact 90 = .ok (.invokevirtual 178, 3) := by decide +kernel
theorem dX6_contact_93 : decode cX6_contact 93 = .ok (.ireturn, 1) := by decide +kernel
theorem dX6_contact_94 : decode cX6_contact 94 = .ok (.aload_n 0, 1) := by decide +kernel
theorem dX6_contact_95 : decode cX6_contact 95 = .ok (.getfield 12, 3) := by decide +kernel
theorem dX6_contact_98 : decode cX6_contact 98 = .ok (.getfield 49, 3) := by decide +kernel
theorem dX6_contact_101 : decode cX6_contact 101 = .ok (.iload_n 3, 1) := by decide +kernel
theorem dX6_contact_102 : decode cX6_contact 102 = .ok (.invokevirtual 182, 3) := by decide +kernel
theorem dX6_contact_105 : decode cX6_contact 105 = .ok (.ireturn, 1) := by decide +kernel
theorem dX6_contact_106 : decode cX6_contact 106 = .ok (.aload_n 0, 1) := by decide +kernel
theorem dX6_contact_107 : decode cX6_contact 107 = .ok (.getfield 12, 3) := by decide +kernel
theorem dX6_contact_110 : decode cX6_contact 110 = .ok (.getfield 49, 3) := by decide +kernel
theorem dX6_contact_113 : decode cX6_contact 113 = .ok (.iload_n 3, 1) := by decide +kernel
theorem dX6_contact_114 : decode cX6_contact 114 = .ok (.iconst 0, 1) := by decide +kernel
theorem dX6_contact_115 : decode cX6_contact 115 = .ok (.invokevirtual 185, 3) := by decide +kernel
theorem dX6_contact_118 : decode cX6_contact 118 = .ok (.ireturn, 1) := by decide +kernel
theorem dX6_contact_119 : decode cX6_contact 119 = .ok (.aload_n 0, 1) := by decide +kernel
theorem dX6_contact_120 : decode cX6_contact 120 = .ok (.getfield 12, 3) := by decide +kernel
theorem dX6_contact_123 : decode cX6_contact 123 = .ok (.getfield 49, 3) := by decide +kernel
theorem dX6_contact_126 : decode cX6_contact 126 = .ok (.iload_n 3, 1) := by decide +kernel
theorem dX6_contact_127 : decode cX6_contact 127 = .ok (.iconst 1, 1) := by decide +kernel
theorem dX6_contact_128 : decode cX6_contact 128 = .ok (.invokevirtual 185, 3) := by decide +kernel
theorem dX6_contact_131 : decode cX6_contact 131 = .ok (.ireturn, 1) := by decide +kernel
theorem dX6_track_0 : decode cX6_track 0 = .ok (.aload_n 0, 1) := by decide +kernel
theorem dX6_track_1 : decode cX6_track 1 = .ok (.getfield 12, 3) := by decide +kernel
theorem dX6_track_4 : decode cX6_track 4 = .ok (.getfield 141, 3) := by decide +kernel
theorem dX6_track_7 : decode cX6_track 7 = .ok (.iload_n 1, 1) := by decide +kernel
theorem dX6_track_8 : decode cX6_track 8 = .ok (.invokevirtual 189, 3) := by decide +kernel
theorem dX6_track_11 : decode cX6_track 11 = .ok (.ifCond .ne 6, 3) := by decide +kernel
theorem dX6_track_14 : decode cX6_track 14 = .ok (.ldc 73, 2) := by decide +kernel
theorem dX6_track_16 : decode cX6_track 16 = .ok (.ireturn, 1) := by decide +kernel
theorem dX6_track_17 : decode cX6_track 17 = .ok (.iload_n 2, 1) := by decide +kernel
theorem dX6_track_18 : decode cX6_track 18 = .ok (.tableswitch 99 0 4 #[34, 47, 60, 73, 86], 34) := by decide +kernel
theorem dX6_track_52 : decode cX6_track 52 = .ok (.aload_n 0, 1) := by decide +kernel
theorem dX6_track_53 : decode cX6_track 53 = .ok (.getfield 12, 3) := by decide +kernel
theorem dX6_track_56 : decode cX6_track 56 = .ok (.getfield 141, 3) := by decide +kernel
theorem dX6_track_59 : decode cX6_track 59 = .ok (.getfield 191, 3) := by decide +kernel
theorem dX6_track_62 : decode cX6_track 62 = .ok (.iload_n 1, 1) := by decide +kernel
theorem dX6_track_63 : decode cX6_track 63 = .ok (.iaload, 1) := by decide +kernel
theorem dX6_track_64 : decode cX6_track 64 = .ok (.ireturn, 1) := by decide +kernel
theorem dX6_track_65 : decode cX6_track 65 = .ok (.aload_n 0, 1) := by decide +kernel
theorem dX6_track_66 : decode cX6_track 66 = .ok (.getfield 12, 3) := by decide +kernel
theorem dX6_track_69 : decode cX6_track 69 = .ok (.getfield 141, 3) := by decide +kernel
theorem dX6_track_72 : decode cX6_track 72 = .ok (.getfield 194, 3) := by decide +kernel
theorem dX6_track_75 : decode cX6_track 75 = .ok (.iload_n 1, 1) := by decide +kernel
theorem dX6_track_76 : decode cX6_track 76 = .ok (.iaload, 1) := by decide +kernel
theorem dX6_track_77 : decode cX6_track 77 = .ok (.ireturn, 1) := by decide +kernel
theorem dX6_track_78 : decode cX6_track 78 = .ok (.aload_n 0, 1) := by decide +kernel
theorem dX6_track_79 : decode cX6_track 79 = .ok (.getfield 12, 3) := by decide +kernel
theorem dX6_track_82 : decode cX6_track 82 = .ok (.getfield 141, 3) := by decide +kernel
theorem dX6_track_85 : decode cX6_track 85 = .ok (.getfield 195, 3) := by decide +kernel
theorem dX6_track_88 : decode cX6_track 88 = .ok (.iload_n 1, 1) := by decide +kernel
theorem dX6_track_89 : decode cX6_track 89 = .ok (.iaload, 1) := by decide +kernel
theorem dX6_track_90 : decode cX6_track 90 = .ok (.ireturn, 1) := by decide +kernel
theorem dX6_track_91 : decode cX6_track 91 = .ok (.aload_n 0, 1) := by decide +kernel
theorem dX6_track_92 : decode cX6_track 92 = .ok (.getfield 12, 3) := by decide +kernel
theorem dX6_track_95 : decode cX6_track 95 = .ok (.getfield 141, 3) := by decide +kernel
theorem dX6_track_98 : decode cX6_track 98 = .ok (.getfield 198, 3) := by decide +kernel
theorem dX6_track_101 : decode cX6_track 101 = .ok (.iload_n 1, 1) := by decide +kernel
theorem dX6_track_102 : decode cX6_track 102 = .ok (.iaload, 1) := by decide +kernel
theorem dX6_track_103 : decode cX6_track 103 = .ok (.ireturn, 1) := by decide +kernel
theorem dX6_track_104 : decode cX6_track 104 = .ok (.aload_n 0, 1) := by decide +kernel
theorem dX6_track_105 : decode cX6_track 105 = .ok (.getfield 12, 3) := by decide +kernel
theorem dX6_track_108 : decode cX6_track 108 = .ok (.getfield 141, 3) := by decide +kernel
theorem dX6_track_111 : decode cX6_track 111 = .ok (.getfield 201, 3) := by decide +kernel
theorem dX6_track_114 : decode cX6_track 114 = .ok (.iload_n 1, 1) := by decide +kernel
theorem dX6_track_115 : decode cX6_track 115 = .ok (.iaload, 1) := by decide +kernel
theorem dX6_track_116 : decode cX6_track 116 = .ok (.ireturn, 1) := by decide +kernel
theorem dX6_track_117 : decode cX6_track 117 = .ok (.ldc 44, 2) := by decide +kernel
theorem dX6_track_119 : decode cX6_track 119 = .ok (.ireturn, 1) := by decide +kernel
theorem dX6_named_0 : decode cX6_named 0 = .ok (.iconst 0, 1) := by decide +kernel
theorem dX6_named_1 : decode cX6_named 1 = .ok (.istore_n 2, 1) := by decide +kernel
theorem dX6_named_2 : decode cX6_named 2 = .ok (.iload_n 2, 1) := by decide +kernel
theorem dX6_named_3 : decode cX6_named 3 = .ok (.aload_n 0, 1) := by decide +kernel
theorem dX6_named_4 : decode cX6_named 4 = .ok (.getfield 12, 3) := by decide +kernel
theorem dX6_named_7 : decode cX6_named 7 = .ok (.getfield 141, 3) := by decide +kernel
theorem dX6_named_10 : decode cX6_named 10 = .ok (.getfield 145, 3) := by decide +kernel
theorem dX6_named_13 : decode cX6_named 13 = .ok (.if_icmp .ge 27, 3) := by decide +kernel
theorem dX6_named_16 : decode cX6_named 16 = .ok (.aload_n 0, 1) := by decide +kernel
theorem dX6_named_17 : decode cX6_named 17 = .ok (.getfield 12, 3) := by decide +kernel
theorem dX6_named_20 : decode cX6_named 20 = .ok (.getfield 141, 3) := by decide +kernel
theorem dX6_named_23 : decode cX6_named 23 = .ok (.getfield 191, 3) := by decide +kernel
theorem dX6_named_26 : decode cX6_named 26 = .ok (.iload_n 2, 1) := by decide +kernel
theorem dX6_named_27 : decode cX6_named 27 = .ok (.iaload, 1) := by decide +kernel
theorem dX6_named_28 : decode cX6_named 28 = .ok (.iload_n 1, 1) := by decide +kernel
theorem dX6_named_29 : decode cX6_named 29 = .ok (.if_icmp .ne 5, 3) := by decide +kernel
theorem dX6_named_32 : decode cX6_named 32 = .ok (.iload_n 2, 1) := by decide +kernel
theorem dX6_named_33 : decode cX6_named 33 = .ok (.ireturn, 1) := by decide +kernel
theorem dX6_named_34 : decode cX6_named 34 = .ok (.iinc 2 1, 3) := by decide +kernel
theorem dX6_named_37 : decode cX6_named 37 = .ok (.goto (-35), 3) := by decide +kernel
theorem dX6_named_40 : decode cX6_named 40 = .ok (.iconst (-1), 1) := by decide +kernel
theorem dX6_named_41 : decode cX6_named 41 = .ok (.ireturn, 1) := by decide +kernel
theorem dX6_paired_0 : decode cX6_paired 0 = .ok (.iload_n 1, 1) := by decide +kernel
theorem dX6_paired_1 : decode cX6_paired 1 = .ok (.iconst (-1), 1) := by decide +kernel
theorem dX6_paired_2 : decode cX6_paired 2 = .ok (.if_icmp .eq 20, 3) := by decide +kernel
theorem dX6_paired_5 : decode cX6_paired 5 = .ok (.aload_n 0, 1) := by decide +kernel
theorem dX6_paired_6 : decode cX6_paired 6 = .ok (.getfield 12, 3) := by decide +kernel
theorem dX6_paired_9 : decode cX6_paired 9 = .ok (.getfield 141, 3) := by decide +kernel
theorem dX6_paired_12 : decode cX6_paired 12 = .ok (.iload_n 1, 1) := by decide +kernel
theorem dX6_paired_13 : decode cX6_paired 13 = .ok (.invokevirtual 189, 3) := by decide +kernel
theorem dX6_paired_16 : decode cX6_paired 16 = .ok (.ifCond .ne 6, 3) := by decide +kernel
theorem dX6_paired_19 : decode cX6_paired 19 = .ok (.ldc 73, 2) := by decide +kernel
theorem dX6_paired_21 : decode cX6_paired 21 = .ok (.ireturn, 1) := by decide +kernel
theorem dX6_paired_22 : decode cX6_paired 22 = .ok (.aload_n 0, 1) := by decide +kernel
theorem dX6_paired_23 : decode cX6_paired 23 = .ok (.getfield 12, 3) := by decide +kernel
theorem dX6_paired_26 : decode cX6_paired 26 = .ok (.aload_n 0, 1) := by decide +kernel
theorem dX6_paired_27 : decode cX6_paired 27 = .ok (.getfield 25, 3) := by decide +kernel
theorem dX6_paired_30 : decode cX6_paired 30 = .ok (.invokevirtual 204, 3) := by decide +kernel
theorem dX6_paired_33 : decode cX6_paired 33 = .ok (.iload_n 1, 1) := by decide +kernel
theorem dX6_paired_34 : decode cX6_paired 34 = .ok (.iconst (-1), 1) := by decide +kernel
theorem dX6_paired_35 : decode cX6_paired 35 = .ok (.if_icmp .ne 13, 3) := by decide +kernel
theorem dX6_paired_38 : decode cX6_paired 38 = .ok (.aload_n 0, 1) := by decide +kernel
theorem dX6_paired_39 : decode cX6_paired 39 = .ok (.getfield 25, 3) := by decide +kernel
theorem dX6_paired_42 : decode cX6_paired 42 = .ok (.getfield 207, 3) := by decide +kernel
theorem dX6_paired_45 : decode cX6_paired 45 = .ok (.goto 11, 3) := by decide +kernel
theorem dX6_paired_48 : decode cX6_paired 48 = .ok (.aload_n 0, 1) := by decide +kernel
theorem dX6_paired_49 : decode cX6_paired 49 = .ok (.getfield 25, 3) := by decide +kernel
theorem dX6_paired_52 : decode cX6_paired 52 = .ok (.iload_n 1, 1) := by decide +kernel
theorem dX6_paired_53 : decode cX6_paired 53 = .ok (.invokevirtual 210, 3) := by decide +kernel
theorem dX6_paired_56 : decode cX6_paired 56 = .ok (.ireturn, 1) := by decide +kernel
theorem dX6_rule_0 : decode cX6_rule 0 = .ok (.iload_n 1, 1) := by decide +kernel
theorem dX6_rule_1 : decode cX6_rule 1 = .ok (.iconst 0, 1) := by decide +kernel
theorem dX6_rule_2 : decode cX6_rule 2 = .ok (.iconst 5, 1) := by decide +kernel
theorem dX6_rule_3 : decode cX6_rule 3 = .ok (.invokestatic 40, 3) := by decide +kernel
theorem dX6_rule_6 : decode cX6_rule 6 = .ok (.ifCond .eq 38, 3) := by decide +kernel
theorem dX6_rule_9 : decode cX6_rule 9 = .ok (.iload_n 2, 1) := by decide +kernel
theorem dX6_rule_10 : decode cX6_rule 10 = .ok (.iconst 0, 1) := by decide +kernel
theorem dX6_rule_11 : decode cX6_rule 11 = .ok (.bipush 6, 2) := by decide +kernel
theorem dX6_rule_13 : decode cX6_rule 13 = .ok (.invokestatic 40, 3) := by decide +kernel
theorem dX6_rule_16 : decode cX6_rule 16 = .ok (.ifCond .eq 28, 3) := by decide +kernel
theorem dX6_rule_19 : decode cX6_rule 19 = .ok (.iload_n 3, 1) := by decide +kernel
theorem dX6_rule_20 : decode cX6_rule 20 = .ok (.iconst 0, 1) := by decide +kernel
theorem dX6_rule_21 : decode cX6_rule 21 = .ok (.bipush 99, 2) := by decide +kernel
theorem dX6_rule_23 : decode cX6_rule 23 = .ok (.invokestatic 40, 3) := by decide +kernel
theorem dX6_rule_26 : decode cX6_rule 26 = .ok (.ifCond .eq 18, 3) := by decide +kernel
theorem dX6_rule_29 : decode cX6_rule 29 = .ok (.iload 4, 2) := by decide +kernel
theorem dX6_rule_31 : decode cX6_rule 31 = .ok (.iconst 0, 1) := by decide +kernel
theorem dX6_rule_32 : decode cX6_rule 32 = .ok (.bipush 99, 2) := by decide +kernel
theorem dX6_rule_34 : decode cX6_rule 34 = .ok (.invokestatic 40, 3) := by decide +kernel
theorem dX6_rule_37 : decode cX6_rule 37 = .ok (.ifCond .eq 7, 3) := by decide +kernel
theorem dX6_rule_40 : decode cX6_rule 40 = .ok (.iconst 1, 1) := by decide +kernel
theorem dX6_rule_41 : decode cX6_rule 41 = .ok (.goto 4, 3) := by decide +kernel
theorem dX6_rule_44 : decode cX6_rule 44 = .ok (.iconst 0, 1) := by decide +kernel
theorem dX6_rule_45 : decode cX6_rule 45 = .ok (.istore 5, 2) := by decide +kernel
theorem dX6_rule_47 : decode cX6_rule 47 = .ok (.iload 5, 2) := by decide +kernel
theorem dX6_rule_49 : decode cX6_rule 49 = .ok (.ifCond .eq 14, 3) := by decide +kernel
theorem dX6_rule_52 : decode cX6_rule 52 = .ok (.iload_n 1, 1) := by decide +kernel
theorem dX6_rule_53 : decode cX6_rule 53 = .ok (.iload_n 2, 1) := by decide +kernel
theorem dX6_rule_54 : decode cX6_rule 54 = .ok (.iload_n 3, 1) := by decide +kernel
theorem dX6_rule_55 : decode cX6_rule 55 = .ok (.iload 4, 2) := by decide +kernel
theorem dX6_rule_57 : decode cX6_rule 57 = .ok (.invokestatic 213, 3) := by decide +kernel
theorem dX6_rule_60 : decode cX6_rule 60 = .ok (.goto 5, 3) := by decide +kernel
theorem dX6_rule_63 : decode cX6_rule 63 = .ok (.ldc 44, 2) := by decide +kernel
theorem dX6_rule_65 : decode cX6_rule 65 = .ok (.ireturn, 1) := by decide +kernel
theorem dX6_ghosts_0 : decode cX6_ghosts 0 = .ok (.iload_n 1, 1) := by decide +kernel
theorem dX6_ghosts_1 : decode cX6_ghosts 1 = .ok (.iconst 0, 1) := by decide +kernel
theorem dX6_ghosts_2 : decode cX6_ghosts 2 = .ok (.iconst 1, 1) := by decide +kernel
theorem dX6_ghosts_3 : decode cX6_ghosts 3 = .ok (.aload_n 0, 1) := by decide +kernel
theorem dX6_ghosts_4 : decode cX6_ghosts 4 = .ok (.getfield 12, 3) := by decide +kernel
theorem dX6_ghosts_7 : decode cX6_ghosts 7 = .ok (.getfield 49, 3) := by decide +kernel
theorem dX6_ghosts_10 : decode cX6_ghosts 10 = .ok (.getfield 123, 3) := by decide +kernel
theorem dX6_ghosts_13 : decode cX6_ghosts 13 = .ok (.ishl, 1) := by decide +kernel
theorem dX6_ghosts_14 : decode cX6_ghosts 14 = .ok (.iconst 1, 1) := by decide +kernel
theorem dX6_ghosts_15 : decode cX6_ghosts 15 = .ok (.isub, 1) := by decide +kernel
theorem dX6_ghosts_16 : decode cX6_ghosts 16 = .ok (.invokestatic 40, 3) := by decide +kernel
theorem dX6_ghosts_19 : decode cX6_ghosts 19 = .ok (.ifCond .eq 39, 3) := by decide +kernel
theorem dX6_ghosts_22 : decode cX6_ghosts 22 = .ok (.iload_n 2, 1) := by decide +kernel
theorem dX6_ghosts_23 : decode cX6_ghosts 23 = .ok (.iconst 0, 1) := by decide +kernel
theorem dX6_ghosts_24 : decode cX6_ghosts 24 = .ok (.iconst 1, 1) := by decide +kernel
theorem dX6_ghosts_25 : decode cX6_ghosts 25 = .ok (.aload_n 0, 1) := by decide +kernel
theorem dX6_ghosts_26 : decode cX6_ghosts 26 = .ok (.getfield 12, 3) := by decide +kernel
theorem dX6_ghosts_29 : decode cX6_ghosts 29 = .ok (.getfield 49, 3) := by decide +kernel
theorem dX6_ghosts_32 : decode cX6_ghosts 32 = .ok (.getfield 126, 3) := by decide +kernel
theorem dX6_ghosts_35 : decode cX6_ghosts 35 = .ok (.ishl, 1) := by decide +kernel
theorem dX6_ghosts_36 : decode cX6_ghosts 36 = .ok (.iconst 1, 1) := by decide +kernel
theorem dX6_ghosts_37 : decode cX6_ghosts 37 = .ok (.isub, 1) := by decide +kernel
theorem dX6_ghosts_38 : decode cX6_ghosts 38 = .ok (.invokestatic 40, 3) := by decide +kernel
theorem dX6_ghosts_41 : decode cX6_ghosts 41 = .ok (.ifCond .eq 17, 3) := by decide +kernel
theorem dX6_ghosts_44 : decode cX6_ghosts 44 = .ok (.iload_n 3, 1) := by decide +kernel
theorem dX6_ghosts_45 : decode cX6_ghosts 45 = .ok (.iconst 0, 1) := by decide +kernel
theorem dX6_ghosts_46 : decode cX6_ghosts 46 = .ok (.bipush 16, 2) := by decide +kernel
theorem dX6_ghosts_48 : decode cX6_ghosts 48 = .ok (.invokestatic 40, 3) := by decide +kernel
theorem dX6_ghosts_51 : decode cX6_ghosts 51 = .ok (.ifCond .eq 7, 3) := by decide +kernel
theorem dX6_ghosts_54 : decode cX6_ghosts 54 = .ok (.iconst 1, 1) := by decide +kernel
theorem dX6_ghosts_55 : decode cX6_ghosts 55 = .ok (.goto 4, 3) := by decide +kernel
theorem dX6_ghosts_58 : decode cX6_ghosts 58 = .ok (.iconst 0, 1) := by decide +kernel
theorem dX6_ghosts_59 : decode cX6_ghosts 59 = .ok (.istore 4, 2) := by decide +kernel
theorem dX6_ghosts_61 : decode cX6_ghosts 61 = .ok (.iload 4, 2) := by decide +kernel
theorem dX6_ghosts_63 : decode cX6_ghosts 63 = .ok (.ifCond .eq 18, 3) := by decide +kernel
theorem dX6_ghosts_66 : decode cX6_ghosts 66 = .ok (.iload_n 1, 1) := by decide +kernel
theorem dX6_ghosts_67 : decode cX6_ghosts 67 = .ok (.invokestatic 217, 3) := by decide +kernel
theorem dX6_ghosts_70 : decode cX6_ghosts 70 = .ok (.iload_n 2, 1) := by decide +kernel
theorem dX6_ghosts_71 : decode cX6_ghosts 71 = .ok (.invokestatic 217, 3) := by decide +kernel
theorem dX6_ghosts_74 : decode cX6_ghosts 74 = .ok (.iload_n 3, 1) := by decide +kernel
theorem dX6_ghosts_75 : decode cX6_ghosts 75 = .ok (.invokestatic 222, 3) := by decide +kernel
theorem dX6_ghosts_78 : decode cX6_ghosts 78 = .ok (.goto 6, 3) := by decide +kernel
theorem dX6_ghosts_81 : decode cX6_ghosts 81 = .ok (.ldc2_w 226, 3) := by decide +kernel
theorem dX6_ghosts_84 : decode cX6_ghosts 84 = .ok (.lreturn, 1) := by decide +kernel
theorem dX6_digest_0 : decode cX6_digest 0 = .ok (.ldc2_w 228, 3) := by decide +kernel
theorem dX6_digest_3 : decode cX6_digest 3 = .ok (.lstore_n 1, 1) := by decide +kernel
theorem dX6_digest_4 : decode cX6_digest 4 = .ok (.bipush 6, 2) := by decide +kernel
theorem dX6_digest_6 : decode cX6_digest 6 = .ok (.istore_n 3, 1) := by decide +kernel
theorem dX6_digest_7 : decode cX6_digest 7 = .ok (.iload_n 3, 1) := by decide +kernel
theorem dX6_digest_8 : decode cX6_digest 8 = .ok (.bipush 13, 2) := by decide +kernel
theorem dX6_digest_10 : decode cX6_digest 10 = .ok (.if_icmp .gt 22, 3) := by decide +kernel
theorem dX6_digest_13 : decode cX6_digest 13 = .ok (.ldc2_w 230, 3) := by decide +kernel
theorem dX6_digest_16 : decode cX6_digest 16 = .ok (.lload_n 1, 1) := by decide +kernel
theorem dX6_digest_17 : decode cX6_digest 17 = .ok (.lmul, 1) := by decide +kernel
theorem dX6_digest_18 : decode cX6_digest 18 = .ok (.aload_n 0, 1) := by decide +kernel
theorem dX6_digest_19 : decode cX6_digest 19 = .ok (.iload_n 3, 1) := by decide +kernel
theorem dX6_digest_20 : decode cX6_digest 20 = .ok (.invokevirtual 232, 3) := by decide +kernel
theorem dX6_digest_23 : decode cX6_digest 23 = .ok (.i2l, 1) := by decide +kernel
theorem dX6_digest_24 : decode cX6_digest 24 = .ok (.ladd, 1) := by decide +kernel
theorem dX6_digest_25 : decode cX6_digest 25 = .ok (.lstore_n 1, 1) := by decide +kernel
theorem dX6_digest_26 : decode cX6_digest 26 = .ok (.iinc 3 1, 3) := by decide +kernel
theorem dX6_digest_29 : decode cX6_digest 29 = .ok (.goto (-22), 3) := by decide +kernel
theorem dX6_digest_32 : decode cX6_digest 32 = .ok (.aload_n 0, 1) := by decide +kernel
theorem dX6_digest_33 : decode cX6_digest 33 = .ok (.lload_n 1, 1) := by decide +kernel
theorem dX6_digest_34 : decode cX6_digest 34 = .ok (.invokevirtual 235, 3) := by decide +kernel
theorem dX6_digest_37 : decode cX6_digest 37 = .ok (.lstore_n 1, 1) := by decide +kernel
theorem dX6_digest_38 : decode cX6_digest 38 = .ok (.iconst 0, 1) := by decide +kernel
theorem dX6_digest_39 : decode cX6_digest 39 = .ok (.istore_n 3, 1) := by decide +kernel
theorem dX6_digest_40 : decode cX6_digest 40 = .ok (.iload_n 3, 1) := by decide +kernel
theorem dX6_digest_41 : decode cX6_digest 41 = .ok (.aload_n 0, 1) := by decide +kernel
theorem dX6_digest_42 : decode cX6_digest 42 = .ok (.getfield 12, 3) := by decide +kernel
theorem dX6_digest_45 : decode cX6_digest 45 = .ok (.getfield 129, 3) := by decide +kernel
theorem dX6_digest_48 : decode cX6_digest 48 = .ok (.getfield 133, 3) := by decide +kernel
theorem dX6_digest_51 : decode cX6_digest 51 = .ok (.if_icmp .ge 39, 3) := by decide +kernel
theorem dX6_digest_54 : decode cX6_digest 54 = .ok (.iconst 0, 1) := by decide +kernel
theorem dX6_digest_55 : decode cX6_digest 55 = .ok (.istore 4, 2) := by decide +kernel
theorem dX6_digest_57 : decode cX6_digest 57 = .ok (.iload 4, 2) := by decide +kernel
theorem dX6_digest_59 : decode cX6_digest 59 = .ok (.iconst 4, 1) := by decide +kernel
theorem dX6_digest_60 : decode cX6_digest 60 = .ok (.if_icmp .gt 24, 3) := by decide +kernel
theorem dX6_digest_63 : decode cX6_digest 63 = .ok (.ldc2_w 230, 3) := by decide +kernel
theorem dX6_digest_66 : decode cX6_digest 66 = .ok (.lload_n 1, 1) := by decide +kernel
theorem dX6_digest_67 : decode cX6_digest 67 = .ok (.lmul, 1) := by decide +kernel
theorem dX6_digest_68 : decode cX6_digest 68 = .ok (.aload_n 0, 1) := by decide +kernel
theorem dX6_digest_69 : decode cX6_digest 69 = .ok (.iload_n 3, 1) := by decide +kernel
theorem dX6_digest_70 : decode cX6_digest 70 = .ok (.iload 4, 2) := by decide +kernel
theorem dX6_digest_72 : decode cX6_digest 72 = .ok (.invokevirtual 239, 3) := by decide +kernel
theorem dX6_digest_75 : decode cX6_digest 75 = .ok (.i2l, 1) := by decide +kernel
theorem dX6_digest_76 : decode cX6_digest 76 = .ok (.ladd, 1) := by decide +kernel
theorem dX6_digest_77 : decode cX6_digest 77 = .ok (.lstore_n 1, 1) := by decide +kernel
theorem dX6_digest_78 : decode cX6_digest 78 = .ok (.iinc 4 1, 3) := by decide +kernel
theorem dX6_digest_81 : decode cX6_digest 81 = .ok (.goto (-24), 3) := by decide +kernel
theorem dX6_digest_84 : decode cX6_digest 84 = .ok (.iinc 3 1, 3) := by decide +kernel
theorem dX6_digest_87 : decode cX6_digest 87 = .ok (.goto (-47), 3) := by decide +kernel
theorem dX6_digest_90 : decode cX6_digest 90 = .ok (.iconst 0, 1) := by decide +kernel
theorem dX6_digest_91 : decode cX6_digest 91 = .ok (.istore_n 3, 1) := by decide +kernel
theorem dX6_digest_92 : decode cX6_digest 92 = .ok (.iload_n 3, 1) := by decide +kernel
theorem dX6_digest_93 : decode cX6_digest 93 = .ok (.aload_n 0, 1) := by decide +kernel
theorem dX6_digest_94 : decode cX6_digest 94 = .ok (.getfield 12, 3) := by decide +kernel
theorem dX6_digest_97 : decode cX6_digest 97 = .ok (.getfield 141, 3) := by decide +kernel
theorem dX6_digest_100 : decode cX6_digest 100 = .ok (.getfield 145, 3) := by decide +kernel
theorem dX6_digest_103 : decode cX6_digest 103 = .ok (.if_icmp .ge 39, 3) := by decide +kernel
theorem dX6_digest_106 : decode cX6_digest 106 = .ok (.iconst 0, 1) := by decide +kernel
theorem dX6_digest_107 : decode cX6_digest 107 = .ok (.istore 4, 2) := by decide +kernel
theorem dX6_digest_109 : decode cX6_digest 109 = .ok (.iload 4, 2) := by decide +kernel
theorem dX6_digest_111 : decode cX6_digest 111 = .ok (.iconst 4, 1) := by decide +kernel
theorem dX6_digest_112 : decode cX6_digest 112 = .ok (.if_icmp .gt 24, 3) := by decide +kernel
theorem dX6_digest_115 : decode cX6_digest 115 = .ok (.ldc2_w 230, 3) := by decide +kernel
theorem dX6_digest_118 : decode cX6_digest 118 = .ok (.lload_n 1, 1) := by decide +kernel
theorem dX6_digest_119 : decode cX6_digest 119 = .ok (.lmul, 1) := by decide +kernel
theorem dX6_digest_120 : decode cX6_digest 120 = .ok (.aload_n 0, 1) := by decide +kernel
theorem dX6_digest_121 : decode cX6_digest 121 = .ok (.iload_n 3, 1) := by decide +kernel
theorem dX6_digest_122 : decode cX6_digest 122 = .ok (.iload 4, 2) := by decide +kernel
theorem dX6_digest_124 : decode cX6_digest 124 = .ok (.invokevirtual 242, 3) := by decide +kernel
theorem dX6_digest_127 : decode cX6_digest 127 = .ok (.i2l, 1) := by decide +kernel
theorem dX6_digest_128 : decode cX6_digest 128 = .ok (.ladd, 1) := by decide +kernel
theorem dX6_digest_129 : decode cX6_digest 129 = .ok (.lstore_n 1, 1) := by decide +kernel
theorem dX6_digest_130 : decode cX6_digest 130 = .ok (.iinc 4 1, 3) := by decide +kernel
theorem dX6_digest_133 : decode cX6_digest 133 = .ok (.goto (-24), 3) := by decide +kernel
theorem dX6_digest_136 : decode cX6_digest 136 = .ok (.iinc 3 1, 3) := by decide +kernel
theorem dX6_digest_139 : decode cX6_digest 139 = .ok (.goto (-47), 3) := by decide +kernel
theorem dX6_digest_142 : decode cX6_digest 142 = .ok (.lload_n 1, 1) := by decide +kernel
theorem dX6_digest_143 : decode cX6_digest 143 = .ok (.lreturn, 1) := by decide +kernel
theorem dX6_keep_0 : decode cX6_keep 0 = .ok (.iload_n 1, 1) := by decide +kernel
theorem dX6_keep_1 : decode cX6_keep 1 = .ok (.iconst 0, 1) := by decide +kernel
theorem dX6_keep_2 : decode cX6_keep 2 = .ok (.iconst 1, 1) := by decide +kernel
theorem dX6_keep_3 : decode cX6_keep 3 = .ok (.invokestatic 40, 3) := by decide +kernel
theorem dX6_keep_6 : decode cX6_keep 6 = .ok (.ifCond .ne 6, 3) := by decide +kernel
theorem dX6_keep_9 : decode cX6_keep 9 = .ok (.ldc 73, 2) := by decide +kernel
theorem dX6_keep_11 : decode cX6_keep 11 = .ok (.ireturn, 1) := by decide +kernel
theorem dX6_keep_12 : decode cX6_keep 12 = .ok (.aload_n 0, 1) := by decide +kernel
theorem dX6_keep_13 : decode cX6_keep 13 = .ok (.iload_n 1, 1) := by decide +kernel
theorem dX6_keep_14 : decode cX6_keep 14 = .ok (.invokevirtual 245, 3) := by decide +kernel
theorem dX6_keep_17 : decode cX6_keep 17 = .ok (.aload_n 0, 1) := by decide +kernel
theorem dX6_keep_18 : decode cX6_keep 18 = .ok (.getfield 12, 3) := by decide +kernel
theorem dX6_keep_21 : decode cX6_keep 21 = .ok (.invokevirtual 249, 3) := by decide +kernel
theorem dX6_keep_24 : decode cX6_keep 24 = .ok (.aload_n 0, 1) := by decide +kernel
theorem dX6_keep_25 : decode cX6_keep 25 = .ok (.dup, 1) := by decide +kernel
theorem dX6_keep_26 : decode cX6_keep 26 = .ok (.getfield 36, 3) := by decide +kernel
theorem dX6_keep_29 : decode cX6_keep 29 = .ok (.iconst 1, 1) := by decide +kernel
theorem dX6_keep_30 : decode cX6_keep 30 = .ok (.iload_n 1, 1) := by decide +kernel
theorem dX6_keep_31 : decode cX6_keep 31 = .ok (.ishl, 1) := by decide +kernel
theorem dX6_keep_32 : decode cX6_keep 32 = .ok (.ior, 1) := by decide +kernel
theorem dX6_keep_33 : decode cX6_keep 33 = .ok (.putfield 36, 3) := by decide +kernel
theorem dX6_keep_36 : decode cX6_keep 36 = .ok (.iconst 1, 1) := by decide +kernel
theorem dX6_keep_37 : decode cX6_keep 37 = .ok (.ireturn, 1) := by decide +kernel
theorem dX6_goBack_0 : decode cX6_goBack 0 = .ok (.iload_n 1, 1) := by decide +kernel
theorem dX6_goBack_1 : decode cX6_goBack 1 = .ok (.iconst 0, 1) := by decide +kernel
theorem dX6_goBack_2 : decode cX6_goBack 2 = .ok (.iconst 1, 1) := by decide +kernel
theorem dX6_goBack_3 : decode cX6_goBack 3 = .ok (.invokestatic 40, 3) := by decide +kernel
theorem dX6_goBack_6 : decode cX6_goBack 6 = .ok (.ifCond .ne 6, 3) := by decide +kernel
theorem dX6_goBack_9 : decode cX6_goBack 9 = .ok (.ldc 73, 2) := by decide +kernel
theorem dX6_goBack_11 : decode cX6_goBack 11 = .ok (.ireturn, 1) := by decide +kernel
theorem dX6_goBack_12 : decode cX6_goBack 12 = .ok (.aload_n 0, 1) := by decide +kernel
theorem dX6_goBack_13 : decode cX6_goBack 13 = .ok (.getfield 36, 3) := by decide +kernel
theorem dX6_goBack_16 : decode cX6_goBack 16 = .ok (.iconst 1, 1) := by decide +kernel
theorem dX6_goBack_17 : decode cX6_goBack 17 = .ok (.iload_n 1, 1) := by decide +kernel
theorem dX6_goBack_18 : decode cX6_goBack 18 = .ok (.ishl, 1) := by decide +kernel
theorem dX6_goBack_19 : decode cX6_goBack 19 = .ok (.iand, 1) := by decide +kernel
theorem dX6_goBack_20 : decode cX6_goBack 20 = .ok (.ifCond .ne 6, 3) := by decide +kernel
theorem dX6_goBack_23 : decode cX6_goBack 23 = .ok (.ldc 95, 2) := by decide +kernel
theorem dX6_goBack_25 : decode cX6_goBack 25 = .ok (.ireturn, 1) := by decide +kernel
theorem dX6_goBack_26 : decode cX6_goBack 26 = .ok (.aload_n 0, 1) := by decide +kernel
theorem dX6_goBack_27 : decode cX6_goBack 27 = .ok (.getfield 12, 3) := by decide +kernel
theorem dX6_goBack_30 : decode cX6_goBack 30 = .ok (.aload_n 0, 1) := by decide +kernel
theorem dX6_goBack_31 : decode cX6_goBack 31 = .ok (.iload_n 1, 1) := by decide +kernel
theorem dX6_goBack_32 : decode cX6_goBack 32 = .ok (.invokevirtual 245, 3) := by decide +kernel
theorem dX6_goBack_35 : decode cX6_goBack 35 = .ok (.invokevirtual 249, 3) := by decide +kernel
theorem dX6_goBack_38 : decode cX6_goBack 38 = .ok (.iconst 1, 1) := by decide +kernel
theorem dX6_goBack_39 : decode cX6_goBack 39 = .ok (.ireturn, 1) := by decide +kernel
theorem dX6_imageAt_0 : decode cX6_imageAt 0 = .ok (.iload_n 1, 1) := by decide +kernel
theorem dX6_imageAt_1 : decode cX6_imageAt 1 = .ok (.ifCond .ne 10, 3) := by decide +kernel
theorem dX6_imageAt_4 : decode cX6_imageAt 4 = .ok (.aload_n 0, 1) := by decide +kernel
theorem dX6_imageAt_5 : decode cX6_imageAt 5 = .ok (.getfield 16, 3) := by decide +kernel
theorem dX6_imageAt_8 : decode cX6_imageAt 8 = .ok (.goto 7, 3) := by decide +kernel
theorem dX6_imageAt_11 : decode cX6_imageAt 11 = .ok (.aload_n 0, 1) := by decide +kernel
theorem dX6_imageAt_12 : decode cX6_imageAt 12 = .ok (.getfield 19, 3) := by decide +kernel
theorem dX6_imageAt_15 : decode cX6_imageAt 15 = .ok (.areturn, 1) := by decide +kernel
theorem dX6_digestCells_0 : decode cX6_digestCells 0 = .ok (.lload_n 1, 1) := by decide +kernel
theorem dX6_digestCells_1 : decode cX6_digestCells 1 = .ok (.lstore_n 3, 1) := by decide +kernel
theorem dX6_digestCells_2 : decode cX6_digestCells 2 = .ok (.iconst 0, 1) := by decide +kernel
theorem dX6_digestCells_3 : decode cX6_digestCells 3 = .ok (.istore 5, 2) := by decide +kernel
theorem dX6_digestCells_5 : decode cX6_digestCells 5 = .ok (.iload 5, 2) := by decide +kernel
theorem dX6_digestCells_7 : decode cX6_digestCells 7 = .ok (.aload_n 0, 1) := by decide +kernel
theorem dX6_digestCells_8 : decode cX6_digestCells 8 = .ok (.getfield 12, 3) := by decide +kernel
theorem dX6_digestCells_11 : decode cX6_digestCells 11 = .ok (.getfield 49, 3) := by decide +kernel
theorem dX6_digestCells_14 : decode cX6_digestCells 14 = .ok (.getfield 123, 3) := by decide +kernel
theorem dX6_digestCells_17 : decode cX6_digestCells 17 = .ok (.if_icmp .ge 66, 3) := by decide +kernel
theorem dX6_digestCells_20 : decode cX6_digestCells 20 = .ok (.iconst 0, 1) := by decide +kernel
theorem dX6_digestCells_21 : decode cX6_digestCells 21 = .ok (.istore 6, 2) := by decide +kernel
theorem dX6_digestCells_23 : decode cX6_digestCells 23 = .ok (.iload 6, 2) := by decide +kernel
theorem dX6_digestCells_25 : decode cX6_digestCells 25 = .ok (.aload_n 0, 1) := by decide +kernel
theorem dX6_digestCells_26 : decode cX6_digestCells 26 = .ok (.getfield 12, 3) := by decide +kernel
theorem dX6_digestCells_29 : decode cX6_digestCells 29 = .ok (.getfield 49, 3) := by decide +kernel
theorem dX6_digestCells_32 : decode cX6_digestCells 32 = .ok (.getfield 126, 3) := by decide +kernel
theorem dX6_digestCells_35 : decode cX6_digestCells 35 = .ok (.if_icmp .ge 42, 3) := by decide +kernel
theorem dX6_digestCells_38 : decode cX6_digestCells 38 = .ok (.iconst 0, 1) := by decide +kernel
theorem dX6_digestCells_39 : decode cX6_digestCells 39 = .ok (.istore 7, 2) := by decide +kernel
theorem dX6_digestCells_41 : decode cX6_digestCells 41 = .ok (.iload 7, 2) := by decide +kernel
theorem dX6_digestCells_43 : decode cX6_digestCells 43 = .ok (.iconst 4, 1) := by decide +kernel
theorem dX6_digestCells_44 : decode cX6_digestCells 44 = .ok (.if_icmp .gt 27, 3) := by decide +kernel
theorem dX6_digestCells_47 : decode cX6_digestCells 47 = .ok (.ldc2_w 230, 3) := by decide +kernel
theorem dX6_digestCells_50 : decode cX6_digestCells 50 = .ok (.lload_n 3, 1) := by decide +kernel
theorem dX6_digestCells_51 : decode cX6_digestCells 51 = .ok (.lmul, 1) := by decide +kernel
theorem dX6_digestCells_52 : decode cX6_digestCells 52 = .ok (.aload_n 0, 1) := by decide +kernel
theorem dX6_digestCells_53 : decode cX6_digestCells 53 = .ok (.iload 5, 2) := by decide +kernel
theorem dX6_digestCells_55 : decode cX6_digestCells 55 = .ok (.iload 6, 2) := by decide +kernel
theorem dX6_digestCells_57 : decode cX6_digestCells 57 = .ok (.iload 7, 2) := by decide +kernel
theorem dX6_digestCells_59 : decode cX6_digestCells 59 = .ok (.invokevirtual 253, 3) := by decide +kernel
theorem dX6_digestCells_62 : decode cX6_digestCells 62 = .ok (.i2l, 1) := by decide +kernel
theorem dX6_digestCells_63 : decode cX6_digestCells 63 = .ok (.ladd, 1) := by decide +kernel
theorem dX6_digestCells_64 : decode cX6_digestCells 64 = .ok (.lstore_n 3, 1) := by decide +kernel
theorem dX6_digestCells_65 : decode cX6_digestCells 65 = .ok (.iinc 7 1, 3) := by decide +kernel
theorem dX6_digestCells_68 : decode cX6_digestCells 68 = .ok (.goto (-27), 3) := by decide +kernel
theorem dX6_digestCells_71 : decode cX6_digestCells 71 = .ok (.iinc 6 1, 3) := by decide +kernel
theorem dX6_digestCells_74 : decode cX6_digestCells 74 = .ok (.goto (-51), 3) := by decide +kernel
theorem dX6_digestCells_77 : decode cX6_digestCells 77 = .ok (.iinc 5 1, 3) := by decide +kernel
theorem dX6_digestCells_80 : decode cX6_digestCells 80 = .ok (.goto (-75), 3) := by decide +kernel
theorem dX6_digestCells_83 : decode cX6_digestCells 83 = .ok (.lload_n 3, 1) := by decide +kernel
theorem dX6_digestCells_84 : decode cX6_digestCells 84 = .ok (.lreturn, 1) := by decide +kernel
theorem dX6_within_0 : decode cX6_within 0 = .ok (.iload_n 0, 1) := by decide +kernel
theorem dX6_within_1 : decode cX6_within 1 = .ok (.iload_n 1, 1) := by decide +kernel
theorem dX6_within_2 : decode cX6_within 2 = .ok (.if_icmp .lt 12, 3) := by decide +kernel
theorem dX6_within_5 : decode cX6_within 5 = .ok (.iload_n 0, 1) := by decide +kernel
theorem dX6_within_6 : decode cX6_within 6 = .ok (.iload_n 2, 1) := by decide +kernel
theorem dX6_within_7 : decode cX6_within 7 = .ok (.if_icmp .gt 7, 3) := by decide +kernel
theorem dX6_within_10 : decode cX6_within 10 = .ok (.iconst 1, 1) := by decide +kernel
theorem dX6_within_11 : decode cX6_within 11 = .ok (.goto 4, 3) := by decide +kernel
theorem dX6_within_14 : decode cX6_within 14 = .ok (.iconst 0, 1) := by decide +kernel
theorem dX6_within_15 : decode cX6_within 15 = .ok (.ireturn, 1) := by decide +kernel
theorem dX6_stateAfter_0 : decode cX6_stateAfter 0 = .ok (.iload_n 1, 1) := by decide +kernel
theorem dX6_stateAfter_1 : decode cX6_stateAfter 1 = .ok (.ifCond .gt 5, 3) := by decide +kernel
theorem dX6_stateAfter_4 : decode cX6_stateAfter 4 = .ok (.iconst 0, 1) := by decide +kernel
theorem dX6_stateAfter_5 : decode cX6_stateAfter 5 = .ok (.ireturn, 1) := by decide +kernel
theorem dX6_stateAfter_6 : decode cX6_stateAfter 6 = .ok (.iload_n 1, 1) := by decide +kernel
theorem dX6_stateAfter_7 : decode cX6_stateAfter 7 = .ok (.iconst 3, 1) := by decide +kernel
theorem dX6_stateAfter_8 : decode cX6_stateAfter 8 = .ok (.if_icmp .lt 5, 3) := by decide +kernel
theorem dX6_stateAfter_11 : decode cX6_stateAfter 11 = .ok (.iconst 5, 1) := by decide +kernel
theorem dX6_stateAfter_12 : decode cX6_stateAfter 12 = .ok (.ireturn, 1) := by decide +kernel
theorem dX6_stateAfter_13 : decode cX6_stateAfter 13 = .ok (.iload_n 1, 1) := by decide +kernel
theorem dX6_stateAfter_14 : decode cX6_stateAfter 14 = .ok (.iconst 1, 1) := by decide +kernel
theorem dX6_stateAfter_15 : decode cX6_stateAfter 15 = .ok (.if_icmp .ne 11, 3) := by decide +kernel
theorem dX6_stateAfter_18 : decode cX6_stateAfter 18 = .ok (.iload_n 0, 1) := by decide +kernel
theorem dX6_stateAfter_19 : decode cX6_stateAfter 19 = .ok (.iload_n 2, 1) := by decide +kernel
theorem dX6_stateAfter_20 : decode cX6_stateAfter 20 = .ok (.invokestatic 257, 3) := by decide +kernel
theorem dX6_stateAfter_23 : decode cX6_stateAfter 23 = .ok (.goto 8, 3) := by decide +kernel
theorem dX6_stateAfter_26 : decode cX6_stateAfter 26 = .ok (.iload_n 0, 1) := by decide +kernel
theorem dX6_stateAfter_27 : decode cX6_stateAfter 27 = .ok (.iload_n 3, 1) := by decide +kernel
theorem dX6_stateAfter_28 : decode cX6_stateAfter 28 = .ok (.invokestatic 260, 3) := by decide +kernel
theorem dX6_stateAfter_31 : decode cX6_stateAfter 31 = .ok (.ireturn, 1) := by decide +kernel
theorem dX6_stateWithOne_0 : decode cX6_stateWithOne 0 = .ok (.iload_n 0, 1) := by decide +kernel
theorem dX6_stateWithOne_1 : decode cX6_stateWithOne 1 = .ok (.tableswitch 46 1 4 #[31, 42, 46, 44], 31) := by decide +kernel
theorem dX6_stateWithOne_32 : decode cX6_stateWithOne 32 = .ok (.iload_n 1, 1) := by decide +kernel
theorem dX6_stateWithOne_33 : decode cX6_stateWithOne 33 = .ok (.iconst 2, 1) := by decide +kernel
theorem dX6_stateWithOne_34 : decode cX6_stateWithOne 34 = .ok (.if_icmp .lt 7, 3) := by decide +kernel
theorem dX6_stateWithOne_37 : decode cX6_stateWithOne 37 = .ok (.iconst 2, 1) := by decide +kernel
theorem dX6_stateWithOne_38 : decode cX6_stateWithOne 38 = .ok (.goto 4, 3) := by decide +kernel
theorem dX6_stateWithOne_41 : decode cX6_stateWithOne 41 = .ok (.iconst 1, 1) := by decide +kernel
theorem dX6_stateWithOne_42 : decode cX6_stateWithOne 42 = .ok (.ireturn, 1) := by decide +kernel
theorem dX6_stateWithOne_43 : decode cX6_stateWithOne 43 = .ok (.iconst 2, 1) := by decide +kernel
theorem dX6_stateWithOne_44 : decode cX6_stateWithOne 44 = .ok (.ireturn, 1) := by decide +kernel
theorem dX6_stateWithOne_45 : decode cX6_stateWithOne 45 = .ok (.iconst 2, 1) := by decide +kernel
theorem dX6_stateWithOne_46 : decode cX6_stateWithOne 46 = .ok (.ireturn, 1) := by decide +kernel
theorem dX6_stateWithOne_47 : decode cX6_stateWithOne 47 = .ok (.iconst 1, 1) := by decide +kernel
theorem dX6_stateWithOne_48 : decode cX6_stateWithOne 48 = .ok (.ireturn, 1) := by decide +kernel
theorem dX6_stateWithTwo_0 : decode cX6_stateWithTwo 0 = .ok (.iload_n 0, 1) := by decide +kernel
theorem dX6_stateWithTwo_1 : decode cX6_stateWithTwo 1 = .ok (.lookupswitch 40 #[(3, 27), (4, 38)], 27) := by decide +kernel
theorem dX6_stateWithTwo_28 : decode cX6_stateWithTwo 28 = .ok (.iload_n 1, 1) := by decide +kernel
theorem dX6_stateWithTwo_29 : decode cX6_stateWithTwo 29 = .ok (.iconst 2, 1) := by decide +kernel
theorem dX6_stateWithTwo_30 : decode cX6_stateWithTwo 30 = .ok (.if_icmp .lt 7, 3) := by decide +kernel
theorem dX6_stateWithTwo_33 : decode cX6_stateWithTwo 33 = .ok (.iconst 4, 1) := by decide +kernel
theorem dX6_stateWithTwo_34 : decode cX6_stateWithTwo 34 = .ok (.goto 4, 3) := by decide +kernel
theorem dX6_stateWithTwo_37 : decode cX6_stateWithTwo 37 = .ok (.iconst 3, 1) := by decide +kernel
theorem dX6_stateWithTwo_38 : decode cX6_stateWithTwo 38 = .ok (.ireturn, 1) := by decide +kernel
theorem dX6_stateWithTwo_39 : decode cX6_stateWithTwo 39 = .ok (.iconst 4, 1) := by decide +kernel
theorem dX6_stateWithTwo_40 : decode cX6_stateWithTwo 40 = .ok (.ireturn, 1) := by decide +kernel
theorem dX6_stateWithTwo_41 : decode cX6_stateWithTwo 41 = .ok (.iconst 3, 1) := by decide +kernel
theorem dX6_stateWithTwo_42 : decode cX6_stateWithTwo 42 = .ok (.ireturn, 1) := by decide +kernel
theorem dX6_waysToCover_0 : decode cX6_waysToCover 0 = .ok (.lconst 0, 1) := by decide +kernel
theorem dX6_waysToCover_1 : decode cX6_waysToCover 1 = .ok (.lstore_n 3, 1) := by decide +kernel
theorem dX6_waysToCover_2 : decode cX6_waysToCover 2 = .ok (.iconst 0, 1) := by decide +kernel
theorem dX6_waysToCover_3 : decode cX6_waysToCover 3 = .ok (.istore 5, 2) := by decide +kernel
theorem dX6_waysToCover_5 : decode cX6_waysToCover 5 = .ok (.iload 5, 2) := by decide +kernel
theorem dX6_waysToCover_7 : decode cX6_waysToCover 7 = .ok (.iload_n 0, 1) := by decide +kernel
theorem dX6_waysToCover_8 : decode cX6_waysToCover 8 = .ok (.if_icmp .gt 74, 3) := by decide +kernel
theorem dX6_waysToCover_11 : decode cX6_waysToCover 11 = .ok (.iconst 0, 1) := by decide +kernel
theorem dX6_waysToCover_12 : decode cX6_waysToCover 12 = .ok (.istore 6, 2) := by decide +kernel
theorem dX6_waysToCover_14 : decode cX6_waysToCover 14 = .ok (.iload 6, 2) := by decide +kernel
theorem dX6_waysToCover_16 : decode cX6_waysToCover 16 = .ok (.iload_n 1, 1) := by decide +kernel
theorem dX6_waysToCover_17 : decode cX6_waysToCover 17 = .ok (.if_icmp .gt 59, 3) := by decide +kernel
theorem dX6_waysToCover_20 : decode cX6_waysToCover 20 = .ok (.iload_n 0, 1) := by decide +kernel
theorem dX6_waysToCover_21 : decode cX6_waysToCover 21 = .ok (.iload 5, 2) := by decide +kernel
theorem dX6_waysToCover_23 : decode cX6_waysToCover 23 = .ok (.invokestatic 263, 3) := by decide +kernel
theorem dX6_waysToCover_26 : decode cX6_waysToCover 26 = .ok (.iload_n 1, 1) := by decide +kernel
theorem dX6_waysToCover_27 : decode cX6_waysToCover 27 = .ok (.iload 6, 2) := by decide +kernel
theorem dX6_waysToCover_29 : decode cX6_waysToCover 29 = .ok (.invokestatic 263, 3) := by decide +kernel
theorem dX6_waysToCover_32 : decode cX6_waysToCover 32 = .ok (.lmul, 1) := by decide +kernel
theorem dX6_waysToCover_33 : decode cX6_waysToCover 33 = .ok (.iload_n 0, 1) := by decide +kernel
theorem dX6_waysToCover_34 : decode cX6_waysToCover 34 = .ok (.iload 5, 2) := by decide +kernel
theorem dX6_waysToCover_36 : decode cX6_waysToCover 36 = .ok (.isub, 1) := by decide +kernel
theorem dX6_waysToCover_37 : decode cX6_waysToCover 37 = .ok (.iload_n 1, 1) := by decide +kernel
theorem dX6_waysToCover_38 : decode cX6_waysToCover 38 = .ok (.iload 6, 2) := by decide +kernel
theorem dX6_waysToCover_40 : decode cX6_waysToCover 40 = .ok (.isub, 1) := by decide +kernel
theorem dX6_waysToCover_41 : decode cX6_waysToCover 41 = .ok (.imul, 1) := by decide +kernel
theorem dX6_waysToCover_42 : decode cX6_waysToCover 42 = .ok (.iload_n 2, 1) := by decide +kernel
theorem dX6_waysToCover_43 : decode cX6_waysToCover 43 = .ok (.invokestatic 263, 3) := by decide +kernel
theorem dX6_waysToCover_46 : decode cX6_waysToCover 46 = .ok (.lmul, 1) := by decide +kernel
theorem dX6_waysToCover_47 : decode cX6_waysToCover 47 = .ok (.lstore 7, 2) := by decide +kernel
theorem dX6_waysToCover_49 : decode cX6_waysToCover 49 = .ok (.lload_n 3, 1) := by decide +kernel
theorem dX6_waysToCover_50 : decode cX6_waysToCover 50 = .ok (.iload 5, 2) := by decide +kernel
theorem dX6_waysToCover_52 : decode cX6_waysToCover 52 = .ok (.iload 6, 2) := by decide +kernel
theorem dX6_waysToCover_54 : decode cX6_waysToCover 54 = .ok (.iadd, 1) := by decide +kernel
theorem dX6_waysToCover_55 : decode cX6_waysToCover 55 = .ok (.iconst 2, 1) := by decide +kernel
theorem dX6_waysToCover_56 : decode cX6_waysToCover 56 = .ok (.irem, 1) := by decide +kernel
theorem dX6_waysToCover_57 : decode cX6_waysToCover 57 = .ok (.ifCond .ne 8, 3) := by decide +kernel
theorem dX6_waysToCover_60 : decode cX6_waysToCover 60 = .ok (.lload 7, 2) := by decide +kernel
theorem dX6_waysToCover_62 : decode cX6_waysToCover 62 = .ok (.goto 6, 3) := by decide +kernel
theorem dX6_waysToCover_65 : decode cX6_waysToCover 65 = .ok (.lload 7, 2) := by decide +kernel
theorem dX6_waysToCover_67 : decode cX6_waysToCover 67 = .ok (.lneg, 1) := by decide +kernel
theorem dX6_waysToCover_68 : decode cX6_waysToCover 68 = .ok (.ladd, 1) := by decide +kernel
theorem dX6_waysToCover_69 : decode cX6_waysToCover 69 = .ok (.lstore_n 3, 1) := by decide +kernel
theorem dX6_waysToCover_70 : decode cX6_waysToCover 70 = .ok (.iinc 6 1, 3) := by decide +kernel
theorem dX6_waysToCover_73 : decode cX6_waysToCover 73 = .ok (.goto (-59), 3) := by decide +kernel
theorem dX6_waysToCover_76 : decode cX6_waysToCover 76 = .ok (.iinc 5 1, 3) := by decide +kernel
theorem dX6_waysToCover_79 : decode cX6_waysToCover 79 = .ok (.goto (-74), 3) := by decide +kernel
theorem dX6_waysToCover_82 : decode cX6_waysToCover 82 = .ok (.lload_n 3, 1) := by decide +kernel
theorem dX6_waysToCover_83 : decode cX6_waysToCover 83 = .ok (.lreturn, 1) := by decide +kernel
theorem dX6_choose_0 : decode cX6_choose 0 = .ok (.lconst 1, 1) := by decide +kernel
theorem dX6_choose_1 : decode cX6_choose 1 = .ok (.lstore_n 2, 1) := by decide +kernel
theorem dX6_choose_2 : decode cX6_choose 2 = .ok (.iconst 0, 1) := by decide +kernel
theorem dX6_choose_3 : decode cX6_choose 3 = .ok (.istore 4, 2) := by decide +kernel
theorem dX6_choose_5 : decode cX6_choose 5 = .ok (.iload 4, 2) := by decide +kernel
theorem dX6_choose_7 : decode cX6_choose 7 = .ok (.iload_n 1, 1) := by decide +kernel
theorem dX6_choose_8 : decode cX6_choose 8 = .ok (.if_icmp .ge 23, 3) := by decide +kernel
theorem dX6_choose_11 : decode cX6_choose 11 = .ok (.lload_n 2, 1) := by decide +kernel
theorem dX6_choose_12 : decode cX6_choose 12 = .ok (.iload_n 0, 1) := by decide +kernel
theorem dX6_choose_13 : decode cX6_choose 13 = .ok (.iload 4, 2) := by decide +kernel
theorem dX6_choose_15 : decode cX6_choose 15 = .ok (.isub, 1) := by decide +kernel
theorem dX6_choose_16 : decode cX6_choose 16 = .ok (.i2l, 1) := by decide +kernel
theorem dX6_choose_17 : decode cX6_choose 17 = .ok (.lmul, 1) := by decide +kernel
theorem dX6_choose_18 : decode cX6_choose 18 = .ok (.iload 4, 2) := by decide +kernel
theorem dX6_choose_20 : decode cX6_choose 20 = .ok (.iconst 1, 1) := by decide +kernel
theorem dX6_choose_21 : decode cX6_choose 21 = .ok (.iadd, 1) := by decide +kernel
theorem dX6_choose_22 : decode cX6_choose 22 = .ok (.i2l, 1) := by decide +kernel
theorem dX6_choose_23 : decode cX6_choose 23 = .ok (.ldiv, 1) := by decide +kernel
theorem dX6_choose_24 : decode cX6_choose 24 = .ok (.lstore_n 2, 1) := by decide +kernel
theorem dX6_choose_25 : decode cX6_choose 25 = .ok (.iinc 4 1, 3) := by decide +kernel
theorem dX6_choose_28 : decode cX6_choose 28 = .ok (.goto (-23), 3) := by decide +kernel
theorem dX6_choose_31 : decode cX6_choose 31 = .ok (.lload_n 2, 1) := by decide +kernel
theorem dX6_choose_32 : decode cX6_choose 32 = .ok (.lreturn, 1) := by decide +kernel
theorem dX6_wayBetween_0 : decode cX6_wayBetween 0 = .ok (.iload_n 2, 1) := by decide +kernel
theorem dX6_wayBetween_1 : decode cX6_wayBetween 1 = .ok (.iconst 1, 1) := by decide +kernel
theorem dX6_wayBetween_2 : decode cX6_wayBetween 2 = .ok (.if_icmp .ge 5, 3) := by decide +kernel
theorem dX6_wayBetween_5 : decode cX6_wayBetween 5 = .ok (.iconst 0, 1) := by decide +kernel
theorem dX6_wayBetween_6 : decode cX6_wayBetween 6 = .ok (.ireturn, 1) := by decide +kernel
theorem dX6_wayBetween_7 : decode cX6_wayBetween 7 = .ok (.iload_n 0, 1) := by decide +kernel
theorem dX6_wayBetween_8 : decode cX6_wayBetween 8 = .ok (.iload_n 2, 1) := by decide +kernel
theorem dX6_wayBetween_9 : decode cX6_wayBetween 9 = .ok (.idiv, 1) := by decide +kernel
theorem dX6_wayBetween_10 : decode cX6_wayBetween 10 = .ok (.iload_n 1, 1) := by decide +kernel
theorem dX6_wayBetween_11 : decode cX6_wayBetween 11 = .ok (.iload_n 2, 1) := by decide +kernel
theorem dX6_wayBetween_12 : decode cX6_wayBetween 12 = .ok (.idiv, 1) := by decide +kernel
theorem dX6_wayBetween_13 : decode cX6_wayBetween 13 = .ok (.isub, 1) := by decide +kernel
theorem dX6_wayBetween_14 : decode cX6_wayBetween 14 = .ok (.invokestatic 267, 3) := by decide +kernel
theorem dX6_wayBetween_17 : decode cX6_wayBetween 17 = .ok (.iload_n 0, 1) := by decide +kernel
theorem dX6_wayBetween_18 : decode cX6_wayBetween 18 = .ok (.iload_n 2, 1) := by decide +kernel
theorem dX6_wayBetween_19 : decode cX6_wayBetween 19 = .ok (.irem, 1) := by decide +kernel
theorem dX6_wayBetween_20 : decode cX6_wayBetween 20 = .ok (.iload_n 1, 1) := by decide +kernel
theorem dX6_wayBetween_21 : decode cX6_wayBetween 21 = .ok (.iload_n 2, 1) := by decide +kernel
theorem dX6_wayBetween_22 : decode cX6_wayBetween 22 = .ok (.irem, 1) := by decide +kernel
theorem dX6_wayBetween_23 : decode cX6_wayBetween 23 = .ok (.isub, 1) := by decide +kernel
theorem dX6_wayBetween_24 : decode cX6_wayBetween 24 = .ok (.invokestatic 267, 3) := by decide +kernel
theorem dX6_wayBetween_27 : decode cX6_wayBetween 27 = .ok (.iadd, 1) := by decide +kernel
theorem dX6_wayBetween_28 : decode cX6_wayBetween 28 = .ok (.ireturn, 1) := by decide +kernel
theorem dX7_init_0 : decode cX7_init 0 = .ok (.aload_n 0, 1) := by decide +kernel
theorem dX7_init_1 : decode cX7_init 1 = .ok (.invokespecial 1, 3) := by decide +kernel
theorem dX7_init_4 : decode cX7_init 4 = .ok (.aload_n 0, 1) := by decide +kernel
theorem dX7_init_5 : decode cX7_init 5 = .ok (.sipush 316, 3) := by decide +kernel
theorem dX7_init_8 : decode cX7_init 8 = .ok (.newarray .int, 2) := by decide +kernel
theorem dX7_init_10 : decode cX7_init 10 = .ok (.putfield 7, 3) := by decide +kernel
theorem dX7_init_13 : decode cX7_init 13 = .ok (.aload_n 0, 1) := by decide +kernel
theorem dX7_init_14 : decode cX7_init 14 = .ok (.sipush 448, 3) := by decide +kernel
theorem dX7_init_17 : decode cX7_init 17 = .ok (.newarray .int, 2) := by decide +kernel
theorem dX7_init_19 : decode cX7_init 19 = .ok (.putfield 13, 3) := by decide +kernel
theorem dX7_init_22 : decode cX7_init 22 = .ok (.aload_n 0, 1) := by decide +kernel
theorem dX7_init_23 : decode cX7_init 23 = .ok (.bipush 6, 2) := by decide +kernel
theorem dX7_init_25 : decode cX7_init 25 = .ok (.newarray .int, 2) := by decide +kernel
theorem dX7_init_27 : decode cX7_init 27 = .ok (.putfield 16, 3) := by decide +kernel
theorem dX7_init_30 : decode cX7_init 30 = .ok (.aload_n 0, 1) := by decide +kernel
theorem dX7_init_31 : decode cX7_init 31 = .ok (.iconst 2, 1) := by decide +kernel
theorem dX7_init_32 : decode cX7_init 32 = .ok (.newarray .boolean, 2) := by decide +kernel
theorem dX7_init_34 : decode cX7_init 34 = .ok (.putfield 19, 3) := by decide +kernel
theorem dX7_init_37 : decode cX7_init 37 = .ok (.aload_n 0, 1) := by decide +kernel
theorem dX7_init_38 : decode cX7_init 38 = .ok (.sipush 632, 3) := by decide +kernel
theorem dX7_init_41 : decode cX7_init 41 = .ok (.newarray .int, 2) := by decide +kernel
theorem dX7_init_43 : decode cX7_init 43 = .ok (.putfield 23, 3) := by decide +kernel
theorem dX7_init_46 : decode cX7_init 46 = .ok (.aload_n 0, 1) := by decide +kernel
theorem dX7_init_47 : decode cX7_init 47 = .ok (.getfield 7, 3) := by decide +kernel
theorem dX7_init_50 : decode cX7_init 50 = .ok (.iconst 2, 1) := by decide +kernel
theorem dX7_init_51 : decode cX7_init 51 = .ok (.bipush 10, 2) := by decide +kernel
theorem dX7_init_53 : decode cX7_init 53 = .ok (.iastore, 1) := by decide +kernel
theorem dX7_init_54 : decode cX7_init 54 = .ok (.aload_n 0, 1) := by decide +kernel
theorem dX7_init_55 : decode cX7_init 55 = .ok (.getfield 7, 3) := by decide +kernel
theorem dX7_init_58 : decode cX7_init 58 = .ok (.iconst 3, 1) := by decide +kernel
theorem dX7_init_59 : decode cX7_init 59 = .ok (.bipush 9, 2) := by decide +kernel
theorem dX7_init_61 : decode cX7_init 61 = .ok (.iastore, 1) := by decide +kernel
theorem dX7_init_62 : decode cX7_init 62 = .ok (.aload_n 0, 1) := by decide +kernel
theorem dX7_init_63 : decode cX7_init 63 = .ok (.getfield 7, 3) := by decide +kernel
theorem dX7_init_66 : decode cX7_init 66 = .ok (.iconst 4, 1) := by decide +kernel
theorem dX7_init_67 : decode cX7_init 67 = .ok (.iconst 3, 1) := by decide +kernel
theorem dX7_init_68 : decode cX7_init 68 = .ok (.iastore, 1) := by decide +kernel
theorem dX7_init_69 : decode cX7_init 69 = .ok (.aload_n 0, 1) := by decide +kernel
theorem dX7_init_70 : decode cX7_init 70 = .ok (.getfield 7, 3) := by decide +kernel
theorem dX7_init_73 : decode cX7_init 73 = .ok (.iconst 5, 1) := by decide +kernel
theorem dX7_init_74 : decode cX7_init 74 = .ok (.iconst 1, 1) := by decide +kernel
theorem dX7_init_75 : decode cX7_init 75 = .ok (.iastore, 1) := by decide +kernel
theorem dX7_init_76 : decode cX7_init 76 = .ok (.aload_n 0, 1) := by decide +kernel
theorem dX7_init_77 : decode cX7_init 77 = .ok (.iconst 4, 1) := by decide +kernel
theorem dX7_init_78 : decode cX7_init 78 = .ok (.iconst 4, 1) := by decide +kernel
theorem dX7_init_79 : decode cX7_init 79 = .ok (.invokevirtual 26, 3) := by decide +kernel
theorem dX7_init_82 : decode cX7_init 82 = .ok (.return_, 1) := by decide +kernel
theorem dX7_in_0 : decode cX7_in 0 = .ok (.iload_n 0, 1) := by decide +kernel
theorem dX7_in_1 : decode cX7_in 1 = .ok (.iload_n 1, 1) := by decide +kernel
theorem dX7_in_2 : decode cX7_in 2 = .ok (.if_icmp .lt 12, 3) := by decide +kernel
theorem dX7_in_5 : decode cX7_in 5 = .ok (.iload_n 0, 1) := by decide +kernel
theorem dX7_in_6 : decode cX7_in 6 = .ok (.iload_n 2, 1) := by decide +kernel
theorem dX7_in_7 : decode cX7_in 7 = .ok (.if_icmp .gt 7, 3) := by decide +kernel
theorem dX7_in_10 : decode cX7_in 10 = .ok (.iconst 1, 1) := by decide +kernel
theorem dX7_in_11 : decode cX7_in 11 = .ok (.goto 4, 3) := by decide +kernel
theorem dX7_in_14 : decode cX7_in 14 = .ok (.iconst 0, 1) := by decide +kernel
theorem dX7_in_15 : decode cX7_in 15 = .ok (.ireturn, 1) := by decide +kernel
theorem dX7_has_0 : decode cX7_has 0 = .ok (.iload_n 0, 1) := by decide +kernel
theorem dX7_has_1 : decode cX7_has 1 = .ok (.iload_n 1, 1) := by decide +kernel
theorem dX7_has_2 : decode cX7_has 2 = .ok (.ishr, 1) := by decide +kernel
theorem dX7_has_3 : decode cX7_has 3 = .ok (.iconst 1, 1) := by decide +kernel
theorem dX7_has_4 : decode cX7_has 4 = .ok (.iand, 1) := by decide +kernel
theorem dX7_has_5 : decode cX7_has 5 = .ok (.iconst 1, 1) := by decide +kernel
theorem dX7_has_6 : decode cX7_has 6 = .ok (.if_icmp .ne 7, 3) := by decide +kernel
