theorem dX0_init_0 : decode cX0_init 0 = .ok (.aload_n 0, 1) := by decide +kernel
theorem dX0_init_1 : decode cX0_init 1 = .ok (.invokespecial 3, 3) := by decide +kernel
theorem dX0_init_4 : decode cX0_init 4 = .ok (.aload_n 0, 1) := by decide +kernel
theorem dX0_init_5 : decode cX0_init 5 = .ok (.bipush 6, 2) := by decide +kernel
theorem dX0_init_7 : decode cX0_init 7 = .ok (.newarray .int, 2) := by decide +kernel
theorem dX0_init_9 : decode cX0_init 9 = .ok (.putfield 9, 3) := by decide +kernel
theorem dX0_init_12 : decode cX0_init 12 = .ok (.aload_n 0, 1) := by decide +kernel
theorem dX0_init_13 : decode cX0_init 13 = .ok (.iconst 0, 1) := by decide +kernel
theorem dX0_init_14 : decode cX0_init 14 = .ok (.putfield 15, 3) := by decide +kernel
theorem dX0_init_17 : decode cX0_init 17 = .ok (.aload_n 0, 1) := by decide +kernel
theorem dX0_init_18 : decode cX0_init 18 = .ok (.iconst 0, 1) := by decide +kernel
theorem dX0_init_19 : decode cX0_init 19 = .ok (.putfield 19, 3) := by decide +kernel
theorem dX0_init_22 : decode cX0_init 22 = .ok (.return_, 1) := by decide +kernel
theorem dX0_forget_0 : decode cX0_forget 0 = .ok (.aload_n 0, 1) := by decide +kernel
theorem dX0_forget_1 : decode cX0_forget 1 = .ok (.iconst 0, 1) := by decide +kernel
theorem dX0_forget_2 : decode cX0_forget 2 = .ok (.putfield 15, 3) := by decide +kernel
theorem dX0_forget_5 : decode cX0_forget 5 = .ok (.aload_n 0, 1) := by decide +kernel
theorem dX0_forget_6 : decode cX0_forget 6 = .ok (.iconst 0, 1) := by decide +kernel
theorem dX0_forget_7 : decode cX0_forget 7 = .ok (.putfield 19, 3) := by decide +kernel
theorem dX0_forget_10 : decode cX0_forget 10 = .ok (.return_, 1) := by decide +kernel
theorem dX0_copyFrom_0 : decode cX0_copyFrom 0 = .ok (.aload_n 1, 1) := by decide +kernel
theorem dX0_copyFrom_1 : decode cX0_copyFrom 1 = .ok (.getfield 9, 3) := by decide +kernel
theorem dX0_copyFrom_4 : decode cX0_copyFrom 4 = .ok (.iconst 0, 1) := by decide +kernel
theorem dX0_copyFrom_5 : decode cX0_copyFrom 5 = .ok (.aload_n 0, 1) := by decide +kernel
theorem dX0_copyFrom_6 : decode cX0_copyFrom 6 = .ok (.getfield 9, 3) := by decide +kernel
theorem dX0_copyFrom_9 : decode cX0_copyFrom 9 = .ok (.iconst 0, 1) := by decide +kernel
theorem dX0_copyFrom_10 : decode cX0_copyFrom 10 = .ok (.bipush 6, 2) := by decide +kernel
theorem dX0_copyFrom_12 : decode cX0_copyFrom 12 = .ok (.invokestatic 22, 3) := by decide +kernel
theorem dX0_copyFrom_15 : decode cX0_copyFrom 15 = .ok (.aload_n 0, 1) := by decide +kernel
theorem dX0_copyFrom_16 : decode cX0_copyFrom 16 = .ok (.aload_n 1, 1) := by decide +kernel
theorem dX0_copyFrom_17 : decode cX0_copyFrom 17 = .ok (.getfield 15, 3) := by decide +kernel
theorem dX0_copyFrom_20 : decode cX0_copyFrom 20 = .ok (.putfield 15, 3) := by decide +kernel
theorem dX0_copyFrom_23 : decode cX0_copyFrom 23 = .ok (.aload_n 0, 1) := by decide +kernel
theorem dX0_copyFrom_24 : decode cX0_copyFrom 24 = .ok (.aload_n 1, 1) := by decide +kernel
theorem dX0_copyFrom_25 : decode cX0_copyFrom 25 = .ok (.getfield 19, 3) := by decide +kernel
theorem dX0_copyFrom_28 : decode cX0_copyFrom 28 = .ok (.putfield 19, 3) := by decide +kernel
theorem dX0_copyFrom_31 : decode cX0_copyFrom 31 = .ok (.return_, 1) := by decide +kernel
theorem dX0_gather_0 : decode cX0_gather 0 = .ok (.aload_n 0, 1) := by decide +kernel
theorem dX0_gather_1 : decode cX0_gather 1 = .ok (.invokevirtual 28, 3) := by decide +kernel
theorem dX0_gather_4 : decode cX0_gather 4 = .ok (.aload_n 1, 1) := by decide +kernel
theorem dX0_gather_5 : decode cX0_gather 5 = .ok (.invokevirtual 31, 3) := by decide +kernel
theorem dX0_gather_8 : decode cX0_gather 8 = .ok (.istore_n 3, 1) := by decide +kernel
theorem dX0_gather_9 : decode cX0_gather 9 = .ok (.iconst 0, 1) := by decide +kernel
theorem dX0_gather_10 : decode cX0_gather 10 = .ok (.istore 4, 2) := by decide +kernel
theorem dX0_gather_12 : decode cX0_gather 12 = .ok (.iload 4, 2) := by decide +kernel
theorem dX0_gather_14 : decode cX0_gather 14 = .ok (.iload_n 3, 1) := by decide +kernel
theorem dX0_gather_15 : decode cX0_gather 15 = .ok (.if_icmp .ge 51, 3) := by decide +kernel
theorem dX0_gather_18 : decode cX0_gather 18 = .ok (.aload_n 1, 1) := by decide +kernel
theorem dX0_gather_19 : decode cX0_gather 19 = .ok (.getfield 37, 3) := by decide +kernel
theorem dX0_gather_22 : decode cX0_gather 22 = .ok (.iload 4, 2) := by decide +kernel
theorem dX0_gather_24 : decode cX0_gather 24 = .ok (.iaload, 1) := by decide +kernel
theorem dX0_gather_25 : decode cX0_gather 25 = .ok (.iload 4, 2) := by decide +kernel
theorem dX0_gather_27 : decode cX0_gather 27 = .ok (.if_icmp .ne 33, 3) := by decide +kernel
theorem dX0_gather_30 : decode cX0_gather 30 = .ok (.aload_n 1, 1) := by decide +kernel
theorem dX0_gather_31 : decode cX0_gather 31 = .ok (.iload 4, 2) := by decide +kernel
theorem dX0_gather_33 : decode cX0_gather 33 = .ok (.invokevirtual 40, 3) := by decide +kernel
theorem dX0_gather_36 : decode cX0_gather 36 = .ok (.iload_n 2, 1) := by decide +kernel
theorem dX0_gather_37 : decode cX0_gather 37 = .ok (.if_icmp .le 16, 3) := by decide +kernel
theorem dX0_gather_40 : decode cX0_gather 40 = .ok (.aload_n 0, 1) := by decide +kernel
theorem dX0_gather_41 : decode cX0_gather 41 = .ok (.dup, 1) := by decide +kernel
theorem dX0_gather_42 : decode cX0_gather 42 = .ok (.getfield 19, 3) := by decide +kernel
theorem dX0_gather_45 : decode cX0_gather 45 = .ok (.iconst 1, 1) := by decide +kernel
theorem dX0_gather_46 : decode cX0_gather 46 = .ok (.iadd, 1) := by decide +kernel
theorem dX0_gather_47 : decode cX0_gather 47 = .ok (.putfield 19, 3) := by decide +kernel
theorem dX0_gather_50 : decode cX0_gather 50 = .ok (.goto 10, 3) := by decide +kernel
theorem dX0_gather_53 : decode cX0_gather 53 = .ok (.aload_n 0, 1) := by decide +kernel
theorem dX0_gather_54 : decode cX0_gather 54 = .ok (.aload_n 1, 1) := by decide +kernel
theorem dX0_gather_55 : decode cX0_gather 55 = .ok (.iload 4, 2) := by decide +kernel
theorem dX0_gather_57 : decode cX0_gather 57 = .ok (.invokevirtual 44, 3) := by decide +kernel
theorem dX0_gather_60 : decode cX0_gather 60 = .ok (.iinc 4 1, 3) := by decide +kernel
theorem dX0_gather_63 : decode cX0_gather 63 = .ok (.goto (-51), 3) := by decide +kernel
theorem dX0_gather_66 : decode cX0_gather 66 = .ok (.return_, 1) := by decide +kernel
theorem dX0_enter_0 : decode cX0_enter 0 = .ok (.aload_n 0, 1) := by decide +kernel
theorem dX0_enter_1 : decode cX0_enter 1 = .ok (.getfield 15, 3) := by decide +kernel
theorem dX0_enter_4 : decode cX0_enter 4 = .ok (.istore_n 3, 1) := by decide +kernel
theorem dX0_enter_5 : decode cX0_enter 5 = .ok (.iload_n 3, 1) := by decide +kernel
theorem dX0_enter_6 : decode cX0_enter 6 = .ok (.ifCond .le 25, 3) := by decide +kernel
theorem dX0_enter_9 : decode cX0_enter 9 = .ok (.aload_n 1, 1) := by decide +kernel
theorem dX0_enter_10 : decode cX0_enter 10 = .ok (.iload_n 2, 1) := by decide +kernel
theorem dX0_enter_11 : decode cX0_enter 11 = .ok (.aload_n 0, 1) := by decide +kernel
theorem dX0_enter_12 : decode cX0_enter 12 = .ok (.getfield 9, 3) := by decide +kernel
theorem dX0_enter_15 : decode cX0_enter 15 = .ok (.iload_n 3, 1) := by decide +kernel
theorem dX0_enter_16 : decode cX0_enter 16 = .ok (.iconst 1, 1) := by decide +kernel
theorem dX0_enter_17 : decode cX0_enter 17 = .ok (.isub, 1) := by decide +kernel
theorem dX0_enter_18 : decode cX0_enter 18 = .ok (.iaload, 1) := by decide +kernel
theorem dX0_enter_19 : decode cX0_enter 19 = .ok (.invokevirtual 48, 3) := by decide +kernel
theorem dX0_enter_22 : decode cX0_enter 22 = .ok (.ifCond .eq 9, 3) := by decide +kernel
theorem dX0_enter_25 : decode cX0_enter 25 = .ok (.iinc 3 (-1), 3) := by decide +kernel
theorem dX0_enter_28 : decode cX0_enter 28 = .ok (.goto (-23), 3) := by decide +kernel
theorem dX0_enter_31 : decode cX0_enter 31 = .ok (.iload_n 3, 1) := by decide +kernel
theorem dX0_enter_32 : decode cX0_enter 32 = .ok (.bipush 6, 2) := by decide +kernel
theorem dX0_enter_34 : decode cX0_enter 34 = .ok (.if_icmp .lt 4, 3) := by decide +kernel
theorem dX0_enter_37 : decode cX0_enter 37 = .ok (.return_, 1) := by decide +kernel
theorem dX0_enter_38 : decode cX0_enter 38 = .ok (.aload_n 0, 1) := by decide +kernel
theorem dX0_enter_39 : decode cX0_enter 39 = .ok (.bipush 6, 2) := by decide +kernel
theorem dX0_enter_41 : decode cX0_enter 41 = .ok (.aload_n 0, 1) := by decide +kernel
theorem dX0_enter_42 : decode cX0_enter 42 = .ok (.getfield 15, 3) := by decide +kernel
theorem dX0_enter_45 : decode cX0_enter 45 = .ok (.iconst 1, 1) := by decide +kernel
theorem dX0_enter_46 : decode cX0_enter 46 = .ok (.iadd, 1) := by decide +kernel
theorem dX0_enter_47 : decode cX0_enter 47 = .ok (.invokestatic 52, 3) := by decide +kernel
theorem dX0_enter_50 : decode cX0_enter 50 = .ok (.putfield 15, 3) := by decide +kernel
theorem dX0_enter_53 : decode cX0_enter 53 = .ok (.aload_n 0, 1) := by decide +kernel
theorem dX0_enter_54 : decode cX0_enter 54 = .ok (.getfield 15, 3) := by decide +kernel
theorem dX0_enter_57 : decode cX0_enter 57 = .ok (.iconst 1, 1) := by decide +kernel
theorem dX0_enter_58 : decode cX0_enter 58 = .ok (.isub, 1) := by decide +kernel
theorem dX0_enter_59 : decode cX0_enter 59 = .ok (.istore 4, 2) := by decide +kernel
theorem dX0_enter_61 : decode cX0_enter 61 = .ok (.iload 4, 2) := by decide +kernel
theorem dX0_enter_63 : decode cX0_enter 63 = .ok (.iload_n 3, 1) := by decide +kernel
theorem dX0_enter_64 : decode cX0_enter 64 = .ok (.if_icmp .le 25, 3) := by decide +kernel
theorem dX0_enter_67 : decode cX0_enter 67 = .ok (.aload_n 0, 1) := by decide +kernel
theorem dX0_enter_68 : decode cX0_enter 68 = .ok (.getfield 9, 3) := by decide +kernel
theorem dX0_enter_71 : decode cX0_enter 71 = .ok (.iload 4, 2) := by decide +kernel
theorem dX0_enter_73 : decode cX0_enter 73 = .ok (.aload_n 0, 1) := by decide +kernel
theorem dX0_enter_74 : decode cX0_enter 74 = .ok (.getfield 9, 3) := by decide +kernel
theorem dX0_enter_77 : decode cX0_enter 77 = .ok (.iload 4, 2) := by decide +kernel
theorem dX0_enter_79 : decode cX0_enter 79 = .ok (.iconst 1, 1) := by decide +kernel
theorem dX0_enter_80 : decode cX0_enter 80 = .ok (.isub, 1) := by decide +kernel
theorem dX0_enter_81 : decode cX0_enter 81 = .ok (.iaload, 1) := by decide +kernel
theorem dX0_enter_82 : decode cX0_enter 82 = .ok (.iastore, 1) := by decide +kernel
theorem dX0_enter_83 : decode cX0_enter 83 = .ok (.iinc 4 (-1), 3) := by decide +kernel
theorem dX0_enter_86 : decode cX0_enter 86 = .ok (.goto (-25), 3) := by decide +kernel
theorem dX0_enter_89 : decode cX0_enter 89 = .ok (.aload_n 0, 1) := by decide +kernel
theorem dX0_enter_90 : decode cX0_enter 90 = .ok (.getfield 9, 3) := by decide +kernel
theorem dX0_enter_93 : decode cX0_enter 93 = .ok (.iload_n 3, 1) := by decide +kernel
theorem dX0_enter_94 : decode cX0_enter 94 = .ok (.iload_n 2, 1) := by decide +kernel
theorem dX0_enter_95 : decode cX0_enter 95 = .ok (.iastore, 1) := by decide +kernel
theorem dX0_enter_96 : decode cX0_enter 96 = .ok (.return_, 1) := by decide +kernel
theorem dX1_init_0 : decode cX1_init 0 = .ok (.aload_n 0, 1) := by decide +kernel
theorem dX1_init_1 : decode cX1_init 1 = .ok (.invokespecial 3, 3) := by decide +kernel
theorem dX1_init_4 : decode cX1_init 4 = .ok (.aload_n 0, 1) := by decide +kernel
theorem dX1_init_5 : decode cX1_init 5 = .ok (.iconst 4, 1) := by decide +kernel
theorem dX1_init_6 : decode cX1_init 6 = .ok (.putfield 9, 3) := by decide +kernel
theorem dX1_init_9 : decode cX1_init 9 = .ok (.aload_n 0, 1) := by decide +kernel
theorem dX1_init_10 : decode cX1_init 10 = .ok (.iconst 4, 1) := by decide +kernel
theorem dX1_init_11 : decode cX1_init 11 = .ok (.putfield 15, 3) := by decide +kernel
theorem dX1_init_14 : decode cX1_init 14 = .ok (.aload_n 0, 1) := by decide +kernel
theorem dX1_init_15 : decode cX1_init 15 = .ok (.bipush 64, 2) := by decide +kernel
theorem dX1_init_17 : decode cX1_init 17 = .ok (.newarray .int, 2) := by decide +kernel
theorem dX1_init_19 : decode cX1_init 19 = .ok (.putfield 18, 3) := by decide +kernel
theorem dX1_init_22 : decode cX1_init 22 = .ok (.aload_n 0, 1) := by decide +kernel
theorem dX1_init_23 : decode cX1_init 23 = .ok (.bipush 64, 2) := by decide +kernel
theorem dX1_init_25 : decode cX1_init 25 = .ok (.newarray .int, 2) := by decide +kernel
theorem dX1_init_27 : decode cX1_init 27 = .ok (.putfield 22, 3) := by decide +kernel
theorem dX1_init_30 : decode cX1_init 30 = .ok (.aload_n 0, 1) := by decide +kernel
theorem dX1_init_31 : decode cX1_init 31 = .ok (.bipush 64, 2) := by decide +kernel
theorem dX1_init_33 : decode cX1_init 33 = .ok (.newarray .int, 2) := by decide +kernel
theorem dX1_init_35 : decode cX1_init 35 = .ok (.putfield 25, 3) := by decide +kernel
theorem dX1_init_38 : decode cX1_init 38 = .ok (.aload_n 0, 1) := by decide +kernel
theorem dX1_init_39 : decode cX1_init 39 = .ok (.bipush 64, 2) := by decide +kernel
theorem dX1_init_41 : decode cX1_init 41 = .ok (.newarray .int, 2) := by decide +kernel
theorem dX1_init_43 : decode cX1_init 43 = .ok (.putfield 28, 3) := by decide +kernel
theorem dX1_init_46 : decode cX1_init 46 = .ok (.aload_n 0, 1) := by decide +kernel
theorem dX1_init_47 : decode cX1_init 47 = .ok (.iconst 0, 1) := by decide +kernel
theorem dX1_init_48 : decode cX1_init 48 = .ok (.putfield 31, 3) := by decide +kernel
theorem dX1_init_51 : decode cX1_init 51 = .ok (.aload_n 0, 1) := by decide +kernel
theorem dX1_init_52 : decode cX1_init 52 = .ok (.iconst 0, 1) := by decide +kernel
theorem dX1_init_53 : decode cX1_init 53 = .ok (.putfield 34, 3) := by decide +kernel
theorem dX1_init_56 : decode cX1_init 56 = .ok (.aload_n 0, 1) := by decide +kernel
theorem dX1_init_57 : decode cX1_init 57 = .ok (.iconst 0, 1) := by decide +kernel
theorem dX1_init_58 : decode cX1_init 58 = .ok (.putfield 37, 3) := by decide +kernel
theorem dX1_init_61 : decode cX1_init 61 = .ok (.aload_n 0, 1) := by decide +kernel
theorem dX1_init_62 : decode cX1_init 62 = .ok (.getfield 28, 3) := by decide +kernel
theorem dX1_init_65 : decode cX1_init 65 = .ok (.iconst (-1), 1) := by decide +kernel
theorem dX1_init_66 : decode cX1_init 66 = .ok (.invokestatic 40, 3) := by decide +kernel
theorem dX1_init_69 : decode cX1_init 69 = .ok (.return_, 1) := by decide +kernel
theorem dX1_beginAnew_0 : decode cX1_beginAnew 0 = .ok (.aload_n 0, 1) := by decide +kernel
theorem dX1_beginAnew_1 : decode cX1_beginAnew 1 = .ok (.iload_n 1, 1) := by decide +kernel
theorem dX1_beginAnew_2 : decode cX1_beginAnew 2 = .ok (.putfield 9, 3) := by decide +kernel
theorem dX1_beginAnew_5 : decode cX1_beginAnew 5 = .ok (.aload_n 0, 1) := by decide +kernel
theorem dX1_beginAnew_6 : decode cX1_beginAnew 6 = .ok (.iload_n 2, 1) := by decide +kernel
theorem dX1_beginAnew_7 : decode cX1_beginAnew 7 = .ok (.putfield 15, 3) := by decide +kernel
theorem dX1_beginAnew_10 : decode cX1_beginAnew 10 = .ok (.aload_n 0, 1) := by decide +kernel
theorem dX1_beginAnew_11 : decode cX1_beginAnew 11 = .ok (.getfield 18, 3) := by decide +kernel
theorem dX1_beginAnew_14 : decode cX1_beginAnew 14 = .ok (.iconst 0, 1) := by decide +kernel
theorem dX1_beginAnew_15 : decode cX1_beginAnew 15 = .ok (.invokestatic 40, 3) := by decide +kernel
theorem dX1_beginAnew_18 : decode cX1_beginAnew 18 = .ok (.aload_n 0, 1) := by decide +kernel
theorem dX1_beginAnew_19 : decode cX1_beginAnew 19 = .ok (.getfield 22, 3) := by decide +kernel
theorem dX1_beginAnew_22 : decode cX1_beginAnew 22 = .ok (.iconst 0, 1) := by decide +kernel
theorem dX1_beginAnew_23 : decode cX1_beginAnew 23 = .ok (.invokestatic 40, 3) := by decide +kernel
theorem dX1_beginAnew_26 : decode cX1_beginAnew 26 = .ok (.aload_n 0, 1) := by decide +kernel
theorem dX1_beginAnew_27 : decode cX1_beginAnew 27 = .ok (.getfield 25, 3) := by decide +kernel
theorem dX1_beginAnew_30 : decode cX1_beginAnew 30 = .ok (.iconst 0, 1) := by decide +kernel
theorem dX1_beginAnew_31 : decode cX1_beginAnew 31 = .ok (.invokestatic 40, 3) := by decide +kernel
theorem dX1_beginAnew_34 : decode cX1_beginAnew 34 = .ok (.aload_n 0, 1) := by decide +kernel
theorem dX1_beginAnew_35 : decode cX1_beginAnew 35 = .ok (.getfield 28, 3) := by decide +kernel
theorem dX1_beginAnew_38 : decode cX1_beginAnew 38 = .ok (.iconst (-1), 1) := by decide +kernel
theorem dX1_beginAnew_39 : decode cX1_beginAnew 39 = .ok (.invokestatic 40, 3) := by decide +kernel
theorem dX1_beginAnew_42 : decode cX1_beginAnew 42 = .ok (.aload_n 0, 1) := by decide +kernel
theorem dX1_beginAnew_43 : decode cX1_beginAnew 43 = .ok (.iconst 0, 1) := by decide +kernel
theorem dX1_beginAnew_44 : decode cX1_beginAnew 44 = .ok (.putfield 31, 3) := by decide +kernel
theorem dX1_beginAnew_47 : decode cX1_beginAnew 47 = .ok (.aload_n 0, 1) := by decide +kernel
theorem dX1_beginAnew_48 : decode cX1_beginAnew 48 = .ok (.iconst 0, 1) := by decide +kernel
theorem dX1_beginAnew_49 : decode cX1_beginAnew 49 = .ok (.putfield 34, 3) := by decide +kernel
theorem dX1_beginAnew_52 : decode cX1_beginAnew 52 = .ok (.aload_n 0, 1) := by decide +kernel
theorem dX1_beginAnew_53 : decode cX1_beginAnew 53 = .ok (.iconst 0, 1) := by decide +kernel
theorem dX1_beginAnew_54 : decode cX1_beginAnew 54 = .ok (.putfield 37, 3) := by decide +kernel
theorem dX1_beginAnew_57 : decode cX1_beginAnew 57 = .ok (.return_, 1) := by decide +kernel
theorem dX1_copyFrom_0 : decode cX1_copyFrom 0 = .ok (.aload_n 0, 1) := by decide +kernel
theorem dX1_copyFrom_1 : decode cX1_copyFrom 1 = .ok (.aload_n 1, 1) := by decide +kernel
theorem dX1_copyFrom_2 : decode cX1_copyFrom 2 = .ok (.getfield 9, 3) := by decide +kernel
theorem dX1_copyFrom_5 : decode cX1_copyFrom 5 = .ok (.putfield 9, 3) := by decide +kernel
theorem dX1_copyFrom_8 : decode cX1_copyFrom 8 = .ok (.aload_n 0, 1) := by decide +kernel
theorem dX1_copyFrom_9 : decode cX1_copyFrom 9 = .ok (.aload_n 1, 1) := by decide +kernel
theorem dX1_copyFrom_10 : decode cX1_copyFrom 10 = .ok (.getfield 15, 3) := by decide +kernel
theorem dX1_copyFrom_13 : decode cX1_copyFrom 13 = .ok (.putfield 15, 3) := by decide +kernel
theorem dX1_copyFrom_16 : decode cX1_copyFrom 16 = .ok (.aload_n 1, 1) := by decide +kernel
theorem dX1_copyFrom_17 : decode cX1_copyFrom 17 = .ok (.getfield 18, 3) := by decide +kernel
theorem dX1_copyFrom_20 : decode cX1_copyFrom 20 = .ok (.iconst 0, 1) := by decide +kernel
theorem dX1_copyFrom_21 : decode cX1_copyFrom 21 = .ok (.aload_n 0, 1) := by decide +kernel
theorem dX1_copyFrom_22 : decode cX1_copyFrom 22 = .ok (.getfield 18, 3) := by decide +kernel
theorem dX1_copyFrom_25 : decode cX1_copyFrom 25 = .ok (.iconst 0, 1) := by decide +kernel
theorem dX1_copyFrom_26 : decode cX1_copyFrom 26 = .ok (.bipush 64, 2) := by decide +kernel
theorem dX1_copyFrom_28 : decode cX1_copyFrom 28 = .ok (.invokestatic 46, 3) := by decide +kernel
theorem dX1_copyFrom_31 : decode cX1_copyFrom 31 = .ok (.aload_n 1, 1) := by decide +kernel
theorem dX1_copyFrom_32 : decode cX1_copyFrom 32 = .ok (.getfield 22, 3) := by decide +kernel
theorem dX1_copyFrom_35 : decode cX1_copyFrom 35 = .ok (.iconst 0, 1) := by decide +kernel
theorem dX1_copyFrom_36 : decode cX1_copyFrom 36 = .ok (.aload_n 0, 1) := by decide +kernel
theorem dX1_copyFrom_37 : decode cX1_copyFrom 37 = .ok (.getfield 22, 3) := by decide +kernel
theorem dX1_copyFrom_40 : decode cX1_copyFrom 40 = .ok (.iconst 0, 1) := by decide +kernel
theorem dX1_copyFrom_41 : decode cX1_copyFrom 41 = .ok (.bipush 64, 2) := by decide +kernel
theorem dX1_copyFrom_43 : decode cX1_copyFrom 43 = .ok (.invokestatic 46, 3) := by decide +kernel
theorem dX1_copyFrom_46 : decode cX1_copyFrom 46 = .ok (.aload_n 1, 1) := by decide +kernel
theorem dX1_copyFrom_47 : decode cX1_copyFrom 47 = .ok (.getfield 25, 3) := by decide +kernel
theorem dX1_copyFrom_50 : decode cX1_copyFrom 50 = .ok (.iconst 0, 1) := by decide +kernel
theorem dX1_copyFrom_51 : decode cX1_copyFrom 51 = .ok (.aload_n 0, 1) := by decide +kernel
theorem dX1_copyFrom_52 : decode cX1_copyFrom 52 = .ok (.getfield 25, 3) := by decide +kernel
theorem dX1_copyFrom_55 : decode cX1_copyFrom 55 = .ok (.iconst 0, 1) := by decide +kernel
theorem dX1_copyFrom_56 : decode cX1_copyFrom 56 = .ok (.bipush 64, 2) := by decide +kernel
theorem dX1_copyFrom_58 : decode cX1_copyFrom 58 = .ok (.invokestatic 46, 3) := by decide +kernel
theorem dX1_copyFrom_61 : decode cX1_copyFrom 61 = .ok (.aload_n 1, 1) := by decide +kernel
theorem dX1_copyFrom_62 : decode cX1_copyFrom 62 = .ok (.getfield 28, 3) := by decide +kernel
theorem dX1_copyFrom_65 : decode cX1_copyFrom 65 = .ok (.iconst 0, 1) := by decide +kernel
theorem dX1_copyFrom_66 : decode cX1_copyFrom 66 = .ok (.aload_n 0, 1) := by decide +kernel
theorem dX1_copyFrom_67 : decode cX1_copyFrom 67 = .ok (.getfield 28, 3) := by decide +kernel
theorem dX1_copyFrom_70 : decode cX1_copyFrom 70 = .ok (.iconst 0, 1) := by decide +kernel
theorem dX1_copyFrom_71 : decode cX1_copyFrom 71 = .ok (.bipush 64, 2) := by decide +kernel
theorem dX1_copyFrom_73 : decode cX1_copyFrom 73 = .ok (.invokestatic 46, 3) := by decide +kernel
theorem dX1_copyFrom_76 : decode cX1_copyFrom 76 = .ok (.aload_n 0, 1) := by decide +kernel
theorem dX1_copyFrom_77 : decode cX1_copyFrom 77 = .ok (.aload_n 1, 1) := by decide +kernel
theorem dX1_copyFrom_78 : decode cX1_copyFrom 78 = .ok (.getfield 31, 3) := by decide +kernel
theorem dX1_copyFrom_81 : decode cX1_copyFrom 81 = .ok (.putfield 31, 3) := by decide +kernel
theorem dX1_copyFrom_84 : decode cX1_copyFrom 84 = .ok (.aload_n 0, 1) := by decide +kernel
theorem dX1_copyFrom_85 : decode cX1_copyFrom 85 = .ok (.aload_n 1, 1) := by decide +kernel
theorem dX1_copyFrom_86 : decode cX1_copyFrom 86 = .ok (.getfield 34, 3) := by decide +kernel
theorem dX1_copyFrom_89 : decode cX1_copyFrom 89 = .ok (.putfield 34, 3) := by decide +kernel
theorem dX1_copyFrom_92 : decode cX1_copyFrom 92 = .ok (.aload_n 0, 1) := by decide +kernel
theorem dX1_copyFrom_93 : decode cX1_copyFrom 93 = .ok (.aload_n 1, 1) := by decide +kernel
theorem dX1_copyFrom_94 : decode cX1_copyFrom 94 = .ok (.getfield 37, 3) := by decide +kernel
theorem dX1_copyFrom_97 : decode cX1_copyFrom 97 = .ok (.putfield 37, 3) := by decide +kernel
theorem dX1_copyFrom_100 : decode cX1_copyFrom 100 = .ok (.return_, 1) := by decide +kernel
theorem dX1_cells_0 : decode cX1_cells 0 = .ok (.aload_n 0, 1) := by decide +kernel
theorem dX1_cells_1 : decode cX1_cells 1 = .ok (.getfield 9, 3) := by decide +kernel
theorem dX1_cells_4 : decode cX1_cells 4 = .ok (.aload_n 0, 1) := by decide +kernel
theorem dX1_cells_5 : decode cX1_cells 5 = .ok (.getfield 15, 3) := by decide +kernel
theorem dX1_cells_8 : decode cX1_cells 8 = .ok (.imul, 1) := by decide +kernel
theorem dX1_cells_9 : decode cX1_cells 9 = .ok (.ireturn, 1) := by decide +kernel
theorem dX1_hasRow_0 : decode cX1_hasRow 0 = .ok (.iload_n 1, 1) := by decide +kernel
theorem dX1_hasRow_1 : decode cX1_hasRow 1 = .ok (.ifCond .lt 15, 3) := by decide +kernel
theorem dX1_hasRow_4 : decode cX1_hasRow 4 = .ok (.iload_n 1, 1) := by decide +kernel
theorem dX1_hasRow_5 : decode cX1_hasRow 5 = .ok (.aload_n 0, 1) := by decide +kernel
theorem dX1_hasRow_6 : decode cX1_hasRow 6 = .ok (.getfield 9, 3) := by decide +kernel
theorem dX1_hasRow_9 : decode cX1_hasRow 9 = .ok (.if_icmp .ge 7, 3) := by decide +kernel
theorem dX1_hasRow_12 : decode cX1_hasRow 12 = .ok (.iconst 1, 1) := by decide +kernel
theorem dX1_hasRow_13 : decode cX1_hasRow 13 = .ok (.goto 4, 3) := by decide +kernel
theorem dX1_hasRow_16 : decode cX1_hasRow 16 = .ok (.iconst 0, 1) := by decide +kernel
theorem dX1_hasRow_17 : decode cX1_hasRow 17 = .ok (.ireturn, 1) := by decide +kernel
theorem dX1_has_0 : decode cX1_has 0 = .ok (.iload_n 1, 1) := by decide +kernel
theorem dX1_has_1 : decode cX1_has 1 = .ok (.ifCond .lt 27, 3) := by decide +kernel
theorem dX1_has_4 : decode cX1_has 4 = .ok (.iload_n 1, 1) := by decide +kernel
theorem dX1_has_5 : decode cX1_has 5 = .ok (.aload_n 0, 1) := by decide +kernel
theorem dX1_has_6 : decode cX1_has 6 = .ok (.getfield 9, 3) := by decide +kernel
theorem dX1_has_9 : decode cX1_has 9 = .ok (.if_icmp .ge 19, 3) := by decide +kernel
theorem dX1_has_12 : decode cX1_has 12 = .ok (.iload_n 2, 1) := by decide +kernel
theorem dX1_has_13 : decode cX1_has 13 = .ok (.ifCond .lt 15, 3) := by decide +kernel
theorem dX1_has_16 : decode cX1_has 16 = .ok (.iload_n 2, 1) := by decide +kernel
theorem dX1_has_17 : decode cX1_has 17 = .ok (.aload_n 0, 1) := by decide +kernel
theorem dX1_has_18 : decode cX1_has 18 = .ok (.getfield 15, 3) := by decide +kernel
theorem dX1_has_21 : decode cX1_has 21 = .ok (.if_icmp .ge 7, 3) := by decide +kernel
theorem dX1_has_24 : decode cX1_has 24 = .ok (.iconst 1, 1) := by decide +kernel
theorem dX1_has_25 : decode cX1_has 25 = .ok (.goto 4, 3) := by decide +kernel
theorem dX1_has_28 : decode cX1_has 28 = .ok (.iconst 0, 1) := by decide +kernel
theorem dX1_has_29 : decode cX1_has 29 = .ok (.ireturn, 1) := by decide +kernel
theorem dX1_hasCell_0 : decode cX1_hasCell 0 = .ok (.iload_n 1, 1) := by decide +kernel
theorem dX1_hasCell_1 : decode cX1_hasCell 1 = .ok (.ifCond .lt 20, 3) := by decide +kernel
theorem dX1_hasCell_4 : decode cX1_hasCell 4 = .ok (.iload_n 1, 1) := by decide +kernel
theorem dX1_hasCell_5 : decode cX1_hasCell 5 = .ok (.aload_n 0, 1) := by decide +kernel
theorem dX1_hasCell_6 : decode cX1_hasCell 6 = .ok (.getfield 9, 3) := by decide +kernel
theorem dX1_hasCell_9 : decode cX1_hasCell 9 = .ok (.aload_n 0, 1) := by decide +kernel
theorem dX1_hasCell_10 : decode cX1_hasCell 10 = .ok (.getfield 15, 3) := by decide +kernel
theorem dX1_hasCell_13 : decode cX1_hasCell 13 = .ok (.imul, 1) := by decide +kernel
theorem dX1_hasCell_14 : decode cX1_hasCell 14 = .ok (.if_icmp .ge 7, 3) := by decide +kernel
theorem dX1_hasCell_17 : decode cX1_hasCell 17 = .ok (.iconst 1, 1) := by decide +kernel
theorem dX1_hasCell_18 : decode cX1_hasCell 18 = .ok (.goto 4, 3) := by decide +kernel
theorem dX1_hasCell_21 : decode cX1_hasCell 21 = .ok (.iconst 0, 1) := by decide +kernel
theorem dX1_hasCell_22 : decode cX1_hasCell 22 = .ok (.ireturn, 1) := by decide +kernel
theorem dX1_at_0 : decode cX1_at 0 = .ok (.iload_n 1, 1) := by decide +kernel
theorem dX1_at_1 : decode cX1_at 1 = .ok (.aload_n 0, 1) := by decide +kernel
theorem dX1_at_2 : decode cX1_at 2 = .ok (.getfield 15, 3) := by decide +kernel
theorem dX1_at_5 : decode cX1_at 5 = .ok (.imul, 1) := by decide +kernel
theorem dX1_at_6 : decode cX1_at 6 = .ok (.iload_n 2, 1) := by decide +kernel
theorem dX1_at_7 : decode cX1_at 7 = .ok (.iadd, 1) := by decide +kernel
theorem dX1_at_8 : decode cX1_at 8 = .ok (.ireturn, 1) := by decide +kernel
theorem dX1_isTouched_0 : decode cX1_isTouched 0 = .ok (.aload_n 0, 1) := by decide +kernel
theorem dX1_isTouched_1 : decode cX1_isTouched 1 = .ok (.getfield 28, 3) := by decide +kernel
theorem dX1_isTouched_4 : decode cX1_isTouched 4 = .ok (.iload_n 1, 1) := by decide +kernel
theorem dX1_isTouched_5 : decode cX1_isTouched 5 = .ok (.iaload, 1) := by decide +kernel
theorem dX1_isTouched_6 : decode cX1_isTouched 6 = .ok (.iconst (-1), 1) := by decide +kernel
theorem dX1_isTouched_7 : decode cX1_isTouched 7 = .ok (.if_icmp .eq 7, 3) := by decide +kernel
theorem dX1_isTouched_10 : decode cX1_isTouched 10 = .ok (.iconst 1, 1) := by decide +kernel
theorem dX1_isTouched_11 : decode cX1_isTouched 11 = .ok (.goto 4, 3) := by decide +kernel
theorem dX1_isTouched_14 : decode cX1_isTouched 14 = .ok (.iconst 0, 1) := by decide +kernel
theorem dX1_isTouched_15 : decode cX1_isTouched 15 = .ok (.ireturn, 1) := by decide +kernel
theorem dX1_isLost_0 : decode cX1_isLost 0 = .ok (.aload_n 0, 1) := by decide +kernel
theorem dX1_isLost_1 : decode cX1_isLost 1 = .ok (.getfield 31, 3) := by decide +kernel
theorem dX1_isLost_4 : decode cX1_isLost 4 = .ok (.iconst 1, 1) := by decide +kernel
theorem dX1_isLost_5 : decode cX1_isLost 5 = .ok (.iload_n 1, 1) := by decide +kernel
theorem dX1_isLost_6 : decode cX1_isLost 6 = .ok (.ishl, 1) := by decide +kernel
theorem dX1_isLost_7 : decode cX1_isLost 7 = .ok (.iand, 1) := by decide +kernel
theorem dX1_isLost_8 : decode cX1_isLost 8 = .ok (.ifCond .eq 7, 3) := by decide +kernel
theorem dX1_isLost_11 : decode cX1_isLost 11 = .ok (.iconst 1, 1) := by decide +kernel
theorem dX1_isLost_12 : decode cX1_isLost 12 = .ok (.goto 4, 3) := by decide +kernel
theorem dX1_isLost_15 : decode cX1_isLost 15 = .ok (.iconst 0, 1) := by decide +kernel
theorem dX1_isLost_16 : decode cX1_isLost 16 = .ok (.ireturn, 1) := by decide +kernel
theorem dX1_markLost_0 : decode cX1_markLost 0 = .ok (.aload_n 0, 1) := by decide +kernel
theorem dX1_markLost_1 : decode cX1_markLost 1 = .ok (.dup, 1) := by decide +kernel
theorem dX1_markLost_2 : decode cX1_markLost 2 = .ok (.getfield 31, 3) := by decide +kernel
theorem dX1_markLost_5 : decode cX1_markLost 5 = .ok (.iconst 1, 1) := by decide +kernel
theorem dX1_markLost_6 : decode cX1_markLost 6 = .ok (.iload_n 1, 1) := by decide +kernel
theorem dX1_markLost_7 : decode cX1_markLost 7 = .ok (.ishl, 1) := by decide +kernel
theorem dX1_markLost_8 : decode cX1_markLost 8 = .ok (.ior, 1) := by decide +kernel
theorem dX1_markLost_9 : decode cX1_markLost 9 = .ok (.putfield 31, 3) := by decide +kernel
theorem dX1_markLost_12 : decode cX1_markLost 12 = .ok (.return_, 1) := by decide +kernel
theorem dX1_stands_0 : decode cX1_stands 0 = .ok (.aload_n 0, 1) := by decide +kernel
theorem dX1_stands_1 : decode cX1_stands 1 = .ok (.iload_n 1, 1) := by decide +kernel
theorem dX1_stands_2 : decode cX1_stands 2 = .ok (.invokevirtual 52, 3) := by decide +kernel
theorem dX1_stands_5 : decode cX1_stands 5 = .ok (.ifCond .eq 15, 3) := by decide +kernel
theorem dX1_stands_8 : decode cX1_stands 8 = .ok (.aload_n 0, 1) := by decide +kernel
theorem dX1_stands_9 : decode cX1_stands 9 = .ok (.iload_n 1, 1) := by decide +kernel
theorem dX1_stands_10 : decode cX1_stands 10 = .ok (.invokevirtual 56, 3) := by decide +kernel
theorem dX1_stands_13 : decode cX1_stands 13 = .ok (.ifCond .ne 7, 3) := by decide +kernel
theorem dX1_stands_16 : decode cX1_stands 16 = .ok (.iconst 1, 1) := by decide +kernel
theorem dX1_stands_17 : decode cX1_stands 17 = .ok (.goto 4, 3) := by decide +kernel
theorem dX1_stands_20 : decode cX1_stands 20 = .ok (.iconst 0, 1) := by decide +kernel
theorem dX1_stands_21 : decode cX1_stands 21 = .ok (.ireturn, 1) := by decide +kernel
theorem dX1_charge_0 : decode cX1_charge 0 = .ok (.aload_n 0, 1) := by decide +kernel
theorem dX1_charge_1 : decode cX1_charge 1 = .ok (.iload_n 1, 1) := by decide +kernel
theorem dX1_charge_2 : decode cX1_charge 2 = .ok (.iload_n 2, 1) := by decide +kernel
theorem dX1_charge_3 : decode cX1_charge 3 = .ok (.invokevirtual 59, 3) := by decide +kernel
theorem dX1_charge_6 : decode cX1_charge 6 = .ok (.ifCond .eq 33, 3) := by decide +kernel
theorem dX1_charge_9 : decode cX1_charge 9 = .ok (.aload_n 0, 1) := by decide +kernel
theorem dX1_charge_10 : decode cX1_charge 10 = .ok (.iload_n 1, 1) := by decide +kernel
theorem dX1_charge_11 : decode cX1_charge 11 = .ok (.iload_n 2, 1) := by decide +kernel
theorem dX1_charge_12 : decode cX1_charge 12 = .ok (.invokevirtual 63, 3) := by decide +kernel
theorem dX1_charge_15 : decode cX1_charge 15 = .ok (.istore 4, 2) := by decide +kernel
theorem dX1_charge_17 : decode cX1_charge 17 = .ok (.aload_n 0, 1) := by decide +kernel
theorem dX1_charge_18 : decode cX1_charge 18 = .ok (.getfield 18, 3) := by decide +kernel
theorem dX1_charge_21 : decode cX1_charge 21 = .ok (.iload 4, 2) := by decide +kernel
theorem dX1_charge_23 : decode cX1_charge 23 = .ok (.sipush 999, 3) := by decide +kernel
theorem dX1_charge_26 : decode cX1_charge 26 = .ok (.aload_n 0, 1) := by decide +kernel
theorem dX1_charge_27 : decode cX1_charge 27 = .ok (.getfield 18, 3) := by decide +kernel
theorem dX1_charge_30 : decode cX1_charge 30 = .ok (.iload 4, 2) := by decide +kernel
theorem dX1_charge_32 : decode cX1_charge 32 = .ok (.iaload, 1) := by decide +kernel
theorem dX1_charge_33 : decode cX1_charge 33 = .ok (.iload_n 3, 1) := by decide +kernel
theorem dX1_charge_34 : decode cX1_charge 34 = .ok (.iadd, 1) := by decide +kernel
theorem dX1_charge_35 : decode cX1_charge 35 = .ok (.invokestatic 67, 3) := by decide +kernel
theorem dX1_charge_38 : decode cX1_charge 38 = .ok (.iastore, 1) := by decide +kernel
theorem dX1_charge_39 : decode cX1_charge 39 = .ok (.return_, 1) := by decide +kernel
theorem dX1_clearRaw_0 : decode cX1_clearRaw 0 = .ok (.iconst 0, 1) := by decide +kernel
theorem dX1_clearRaw_1 : decode cX1_clearRaw 1 = .ok (.istore_n 1, 1) := by decide +kernel
theorem dX1_clearRaw_2 : decode cX1_clearRaw 2 = .ok (.aload_n 0, 1) := by decide +kernel
theorem dX1_clearRaw_3 : decode cX1_clearRaw 3 = .ok (.invokevirtual 72, 3) := by decide +kernel
theorem dX1_clearRaw_6 : decode cX1_clearRaw 6 = .ok (.istore_n 2, 1) := by decide +kernel
theorem dX1_clearRaw_7 : decode cX1_clearRaw 7 = .ok (.iconst 0, 1) := by decide +kernel
theorem dX1_clearRaw_8 : decode cX1_clearRaw 8 = .ok (.istore_n 3, 1) := by decide +kernel
theorem dX1_clearRaw_9 : decode cX1_clearRaw 9 = .ok (.iload_n 3, 1) := by decide +kernel
theorem dX1_clearRaw_10 : decode cX1_clearRaw 10 = .ok (.iload_n 2, 1) := by decide +kernel
theorem dX1_clearRaw_11 : decode cX1_clearRaw 11 = .ok (.if_icmp .ge 28, 3) := by decide +kernel
theorem dX1_clearRaw_14 : decode cX1_clearRaw 14 = .ok (.aload_n 0, 1) := by decide +kernel
theorem dX1_clearRaw_15 : decode cX1_clearRaw 15 = .ok (.getfield 18, 3) := by decide +kernel
theorem dX1_clearRaw_18 : decode cX1_clearRaw 18 = .ok (.iload_n 3, 1) := by decide +kernel
theorem dX1_clearRaw_19 : decode cX1_clearRaw 19 = .ok (.iaload, 1) := by decide +kernel
theorem dX1_clearRaw_20 : decode cX1_clearRaw 20 = .ok (.ifCond .eq 6, 3) := by decide +kernel
theorem dX1_clearRaw_23 : decode cX1_clearRaw 23 = .ok (.iinc 1 1, 3) := by decide +kernel
theorem dX1_clearRaw_26 : decode cX1_clearRaw 26 = .ok (.aload_n 0, 1) := by decide +kernel
theorem dX1_clearRaw_27 : decode cX1_clearRaw 27 = .ok (.getfield 18, 3) := by decide +kernel
theorem dX1_clearRaw_30 : decode cX1_clearRaw 30 = .ok (.iload_n 3, 1) := by decide +kernel
theorem dX1_clearRaw_31 : decode cX1_clearRaw 31 = .ok (.iconst 0, 1) := by decide +kernel
theorem dX1_clearRaw_32 : decode cX1_clearRaw 32 = .ok (.iastore, 1) := by decide +kernel
theorem dX1_clearRaw_33 : decode cX1_clearRaw 33 = .ok (.iinc 3 1, 3) := by decide +kernel
theorem dX1_clearRaw_36 : decode cX1_clearRaw 36 = .ok (.goto (-27), 3) := by decide +kernel
theorem dX1_clearRaw_39 : decode cX1_clearRaw 39 = .ok (.iload_n 1, 1) := by decide +kernel
theorem dX1_clearRaw_40 : decode cX1_clearRaw 40 = .ok (.ireturn, 1) := by decide +kernel
theorem dX1_read_0 : decode cX1_read 0 = .ok (.aload_n 0, 1) := by decide +kernel
theorem dX1_read_1 : decode cX1_read 1 = .ok (.iconst 0, 1) := by decide +kernel
theorem dX1_read_2 : decode cX1_read 2 = .ok (.putfield 34, 3) := by decide +kernel
theorem dX1_read_5 : decode cX1_read 5 = .ok (.aload_n 0, 1) := by decide +kernel
theorem dX1_read_6 : decode cX1_read 6 = .ok (.iconst 0, 1) := by decide +kernel
theorem dX1_read_7 : decode cX1_read 7 = .ok (.putfield 37, 3) := by decide +kernel
theorem dX1_read_10 : decode cX1_read 10 = .ok (.iconst 0, 1) := by decide +kernel
theorem dX1_read_11 : decode cX1_read 11 = .ok (.istore_n 2, 1) := by decide +kernel
theorem dX1_read_12 : decode cX1_read 12 = .ok (.iload_n 2, 1) := by decide +kernel
theorem dX1_read_13 : decode cX1_read 13 = .ok (.aload_n 0, 1) := by decide +kernel
theorem dX1_read_14 : decode cX1_read 14 = .ok (.getfield 9, 3) := by decide +kernel
theorem dX1_read_17 : decode cX1_read 17 = .ok (.if_icmp .ge 66, 3) := by decide +kernel
theorem dX1_read_20 : decode cX1_read 20 = .ok (.aload_n 0, 1) := by decide +kernel
theorem dX1_read_21 : decode cX1_read 21 = .ok (.iload_n 2, 1) := by decide +kernel
theorem dX1_read_22 : decode cX1_read 22 = .ok (.invokevirtual 56, 3) := by decide +kernel
theorem dX1_read_25 : decode cX1_read 25 = .ok (.ifCond .ne 15, 3) := by decide +kernel
theorem dX1_read_28 : decode cX1_read 28 = .ok (.aload_n 0, 1) := by decide +kernel
theorem dX1_read_29 : decode cX1_read 29 = .ok (.iload_n 2, 1) := by decide +kernel
theorem dX1_read_30 : decode cX1_read 30 = .ok (.bipush 16, 2) := by decide +kernel
theorem dX1_read_32 : decode cX1_read 32 = .ok (.iload_n 1, 1) := by decide +kernel
theorem dX1_read_33 : decode cX1_read 33 = .ok (.imul, 1) := by decide +kernel
theorem dX1_read_34 : decode cX1_read 34 = .ok (.invokevirtual 76, 3) := by decide +kernel
theorem dX1_read_37 : decode cX1_read 37 = .ok (.goto 40, 3) := by decide +kernel
theorem dX1_read_40 : decode cX1_read 40 = .ok (.aload_n 0, 1) := by decide +kernel
theorem dX1_read_41 : decode cX1_read 41 = .ok (.iload_n 2, 1) := by decide +kernel
theorem dX1_read_42 : decode cX1_read 42 = .ok (.iconst 1, 1) := by decide +kernel
theorem dX1_read_43 : decode cX1_read 43 = .ok (.isub, 1) := by decide +kernel
theorem dX1_read_44 : decode cX1_read 44 = .ok (.invokevirtual 80, 3) := by decide +kernel
theorem dX1_read_47 : decode cX1_read 47 = .ok (.ifCond .eq 25, 3) := by decide +kernel
theorem dX1_read_50 : decode cX1_read 50 = .ok (.aload_n 0, 1) := by decide +kernel
theorem dX1_read_51 : decode cX1_read 51 = .ok (.iload_n 2, 1) := by decide +kernel
theorem dX1_read_52 : decode cX1_read 52 = .ok (.iconst 1, 1) := by decide +kernel
theorem dX1_read_53 : decode cX1_read 53 = .ok (.iadd, 1) := by decide +kernel
theorem dX1_read_54 : decode cX1_read 54 = .ok (.invokevirtual 80, 3) := by decide +kernel
theorem dX1_read_57 : decode cX1_read 57 = .ok (.ifCond .eq 15, 3) := by decide +kernel
theorem dX1_read_60 : decode cX1_read 60 = .ok (.aload_n 0, 1) := by decide +kernel
theorem dX1_read_61 : decode cX1_read 61 = .ok (.iload_n 2, 1) := by decide +kernel
theorem dX1_read_62 : decode cX1_read 62 = .ok (.bipush 16, 2) := by decide +kernel
theorem dX1_read_64 : decode cX1_read 64 = .ok (.iload_n 1, 1) := by decide +kernel
theorem dX1_read_65 : decode cX1_read 65 = .ok (.imul, 1) := by decide +kernel
theorem dX1_read_66 : decode cX1_read 66 = .ok (.invokevirtual 83, 3) := by decide +kernel
theorem dX1_read_69 : decode cX1_read 69 = .ok (.goto 8, 3) := by decide +kernel
theorem dX1_read_72 : decode cX1_read 72 = .ok (.aload_n 0, 1) := by decide +kernel
theorem dX1_read_73 : decode cX1_read 73 = .ok (.iload_n 2, 1) := by decide +kernel
theorem dX1_read_74 : decode cX1_read 74 = .ok (.invokevirtual 86, 3) := by decide +kernel
theorem dX1_read_77 : decode cX1_read 77 = .ok (.iinc 2 1, 3) := by decide +kernel
theorem dX1_read_80 : decode cX1_read 80 = .ok (.goto (-68), 3) := by decide +kernel
theorem dX1_read_83 : decode cX1_read 83 = .ok (.return_, 1) := by decide +kernel
theorem dX1_readRow_0 : decode cX1_readRow 0 = .ok (.aload_n 0, 1) := by decide +kernel
theorem dX1_readRow_1 : decode cX1_readRow 1 = .ok (.iload_n 1, 1) := by decide +kernel
theorem dX1_readRow_2 : decode cX1_readRow 2 = .ok (.aload_n 0, 1) := by decide +kernel
theorem dX1_readRow_3 : decode cX1_readRow 3 = .ok (.getfield 15, 3) := by decide +kernel
theorem dX1_readRow_6 : decode cX1_readRow 6 = .ok (.invokevirtual 63, 3) := by decide +kernel
theorem dX1_readRow_9 : decode cX1_readRow 9 = .ok (.istore_n 3, 1) := by decide +kernel
theorem dX1_readRow_10 : decode cX1_readRow 10 = .ok (.aload_n 0, 1) := by decide +kernel
theorem dX1_readRow_11 : decode cX1_readRow 11 = .ok (.iload_n 1, 1) := by decide +kernel
theorem dX1_readRow_12 : decode cX1_readRow 12 = .ok (.iconst 0, 1) := by decide +kernel
theorem dX1_readRow_13 : decode cX1_readRow 13 = .ok (.invokevirtual 63, 3) := by decide +kernel
theorem dX1_readRow_16 : decode cX1_readRow 16 = .ok (.istore 4, 2) := by decide +kernel
theorem dX1_readRow_18 : decode cX1_readRow 18 = .ok (.iload 4, 2) := by decide +kernel
theorem dX1_readRow_20 : decode cX1_readRow 20 = .ok (.iload_n 3, 1) := by decide +kernel
theorem dX1_readRow_21 : decode cX1_readRow 21 = .ok (.if_icmp .ge 55, 3) := by decide +kernel
theorem dX1_readRow_24 : decode cX1_readRow 24 = .ok (.aload_n 0, 1) := by decide +kernel
theorem dX1_readRow_25 : decode cX1_readRow 25 = .ok (.iload 4, 2) := by decide +kernel
theorem dX1_readRow_27 : decode cX1_readRow 27 = .ok (.bipush 16, 2) := by decide +kernel
theorem dX1_readRow_29 : decode cX1_readRow 29 = .ok (.aload_n 0, 1) := by decide +kernel
theorem dX1_readRow_30 : decode cX1_readRow 30 = .ok (.getfield 18, 3) := by decide +kernel
theorem dX1_readRow_33 : decode cX1_readRow 33 = .ok (.iload 4, 2) := by decide +kernel
theorem dX1_readRow_35 : decode cX1_readRow 35 = .ok (.iaload, 1) := by decide +kernel
theorem dX1_readRow_36 : decode cX1_readRow 36 = .ok (.imul, 1) := by decide +kernel
theorem dX1_readRow_37 : decode cX1_readRow 37 = .ok (.iload_n 2, 1) := by decide +kernel
theorem dX1_readRow_38 : decode cX1_readRow 38 = .ok (.invokevirtual 90, 3) := by decide +kernel
theorem dX1_readRow_41 : decode cX1_readRow 41 = .ok (.aload_n 0, 1) := by decide +kernel
theorem dX1_readRow_42 : decode cX1_readRow 42 = .ok (.iload 4, 2) := by decide +kernel
theorem dX1_readRow_44 : decode cX1_readRow 44 = .ok (.invokevirtual 94, 3) := by decide +kernel
theorem dX1_readRow_47 : decode cX1_readRow 47 = .ok (.ifCond .ne 23, 3) := by decide +kernel
theorem dX1_readRow_50 : decode cX1_readRow 50 = .ok (.aload_n 0, 1) := by decide +kernel
theorem dX1_readRow_51 : decode cX1_readRow 51 = .ok (.getfield 22, 3) := by decide +kernel
theorem dX1_readRow_54 : decode cX1_readRow 54 = .ok (.iload 4, 2) := by decide +kernel
theorem dX1_readRow_56 : decode cX1_readRow 56 = .ok (.dup2, 1) := by decide +kernel
theorem dX1_readRow_57 : decode cX1_readRow 57 = .ok (.iaload, 1) := by decide +kernel
theorem dX1_readRow_58 : decode cX1_readRow 58 = .ok (.aload_n 0, 1) := by decide +kernel
theorem dX1_readRow_59 : decode cX1_readRow 59 = .ok (.getfield 25, 3) := by decide +kernel
theorem dX1_readRow_62 : decode cX1_readRow 62 = .ok (.iload 4, 2) := by decide +kernel
theorem dX1_readRow_64 : decode cX1_readRow 64 = .ok (.iaload, 1) := by decide +kernel
theorem dX1_readRow_65 : decode cX1_readRow 65 = .ok (.bipush 16, 2) := by decide +kernel
theorem dX1_readRow_67 : decode cX1_readRow 67 = .ok (.idiv, 1) := by decide +kernel
theorem dX1_readRow_68 : decode cX1_readRow 68 = .ok (.iadd, 1) := by decide +kernel
theorem dX1_readRow_69 : decode cX1_readRow 69 = .ok (.iastore, 1) := by decide +kernel
theorem dX1_readRow_70 : decode cX1_readRow 70 = .ok (.iinc 4 1, 3) := by decide +kernel
theorem dX1_readRow_73 : decode cX1_readRow 73 = .ok (.goto (-55), 3) := by decide +kernel
theorem dX1_readRow_76 : decode cX1_readRow 76 = .ok (.return_, 1) := by decide +kernel
theorem dX1_bridgeRow_0 : decode cX1_bridgeRow 0 = .ok (.aload_n 0, 1) := by decide +kernel
theorem dX1_bridgeRow_1 : decode cX1_bridgeRow 1 = .ok (.iload_n 1, 1) := by decide +kernel
theorem dX1_bridgeRow_2 : decode cX1_bridgeRow 2 = .ok (.aload_n 0, 1) := by decide +kernel
theorem dX1_bridgeRow_3 : decode cX1_bridgeRow 3 = .ok (.getfield 15, 3) := by decide +kernel
theorem dX1_bridgeRow_6 : decode cX1_bridgeRow 6 = .ok (.invokevirtual 63, 3) := by decide +kernel
theorem dX1_bridgeRow_9 : decode cX1_bridgeRow 9 = .ok (.istore_n 3, 1) := by decide +kernel
theorem dX1_bridgeRow_10 : decode cX1_bridgeRow 10 = .ok (.aload_n 0, 1) := by decide +kernel
theorem dX1_bridgeRow_11 : decode cX1_bridgeRow 11 = .ok (.iload_n 1, 1) := by decide +kernel
theorem dX1_bridgeRow_12 : decode cX1_bridgeRow 12 = .ok (.iconst 0, 1) := by decide +kernel
theorem dX1_bridgeRow_13 : decode cX1_bridgeRow 13 = .ok (.invokevirtual 63, 3) := by decide +kernel
theorem dX1_bridgeRow_16 : decode cX1_bridgeRow 16 = .ok (.istore 4, 2) := by decide +kernel
theorem dX1_bridgeRow_18 : decode cX1_bridgeRow 18 = .ok (.iload 4, 2) := by decide +kernel
theorem dX1_bridgeRow_20 : decode cX1_bridgeRow 20 = .ok (.iload_n 3, 1) := by decide +kernel
theorem dX1_bridgeRow_21 : decode cX1_bridgeRow 21 = .ok (.if_icmp .ge 46, 3) := by decide +kernel
theorem dX1_bridgeRow_24 : decode cX1_bridgeRow 24 = .ok (.aload_n 0, 1) := by decide +kernel
theorem dX1_bridgeRow_25 : decode cX1_bridgeRow 25 = .ok (.iload 4, 2) := by decide +kernel
theorem dX1_bridgeRow_27 : decode cX1_bridgeRow 27 = .ok (.bipush 16, 2) := by decide +kernel
theorem dX1_bridgeRow_29 : decode cX1_bridgeRow 29 = .ok (.aload_n 0, 1) := by decide +kernel
theorem dX1_bridgeRow_30 : decode cX1_bridgeRow 30 = .ok (.getfield 18, 3) := by decide +kernel
theorem dX1_bridgeRow_33 : decode cX1_bridgeRow 33 = .ok (.iload 4, 2) := by decide +kernel
theorem dX1_bridgeRow_35 : decode cX1_bridgeRow 35 = .ok (.aload_n 0, 1) := by decide +kernel
theorem dX1_bridgeRow_36 : decode cX1_bridgeRow 36 = .ok (.getfield 15, 3) := by decide +kernel
theorem dX1_bridgeRow_39 : decode cX1_bridgeRow 39 = .ok (.isub, 1) := by decide +kernel
theorem dX1_bridgeRow_40 : decode cX1_bridgeRow 40 = .ok (.iaload, 1) := by decide +kernel
theorem dX1_bridgeRow_41 : decode cX1_bridgeRow 41 = .ok (.aload_n 0, 1) := by decide +kernel
theorem dX1_bridgeRow_42 : decode cX1_bridgeRow 42 = .ok (.getfield 18, 3) := by decide +kernel
theorem dX1_bridgeRow_45 : decode cX1_bridgeRow 45 = .ok (.iload 4, 2) := by decide +kernel
theorem dX1_bridgeRow_47 : decode cX1_bridgeRow 47 = .ok (.aload_n 0, 1) := by decide +kernel
theorem dX1_bridgeRow_48 : decode cX1_bridgeRow 48 = .ok (.getfield 15, 3) := by decide +kernel
theorem dX1_bridgeRow_51 : decode cX1_bridgeRow 51 = .ok (.iadd, 1) := by decide +kernel
theorem dX1_bridgeRow_52 : decode cX1_bridgeRow 52 = .ok (.iaload, 1) := by decide +kernel
theorem dX1_bridgeRow_53 : decode cX1_bridgeRow 53 = .ok (.iadd, 1) := by decide +kernel
theorem dX1_bridgeRow_54 : decode cX1_bridgeRow 54 = .ok (.imul, 1) := by decide +kernel
theorem dX1_bridgeRow_55 : decode cX1_bridgeRow 55 = .ok (.iconst 2, 1) := by decide +kernel
theorem dX1_bridgeRow_56 : decode cX1_bridgeRow 56 = .ok (.idiv, 1) := by decide +kernel
theorem dX1_bridgeRow_57 : decode cX1_bridgeRow 57 = .ok (.iload_n 2, 1) := by decide +kernel
theorem dX1_bridgeRow_58 : decode cX1_bridgeRow 58 = .ok (.invokevirtual 90, 3) := by decide +kernel
theorem dX1_bridgeRow_61 : decode cX1_bridgeRow 61 = .ok (.iinc 4 1, 3) := by decide +kernel
theorem dX1_bridgeRow_64 : decode cX1_bridgeRow 64 = .ok (.goto (-46), 3) := by decide +kernel
theorem dX1_bridgeRow_67 : decode cX1_bridgeRow 67 = .ok (.return_, 1) := by decide +kernel
theorem dX1_missRow_0 : decode cX1_missRow 0 = .ok (.aload_n 0, 1) := by decide +kernel
theorem dX1_missRow_1 : decode cX1_missRow 1 = .ok (.iload_n 1, 1) := by decide +kernel
theorem dX1_missRow_2 : decode cX1_missRow 2 = .ok (.aload_n 0, 1) := by decide +kernel
theorem dX1_missRow_3 : decode cX1_missRow 3 = .ok (.getfield 15, 3) := by decide +kernel
theorem dX1_missRow_6 : decode cX1_missRow 6 = .ok (.invokevirtual 63, 3) := by decide +kernel
theorem dX1_missRow_9 : decode cX1_missRow 9 = .ok (.istore_n 2, 1) := by decide +kernel
theorem dX1_missRow_10 : decode cX1_missRow 10 = .ok (.aload_n 0, 1) := by decide +kernel
theorem dX1_missRow_11 : decode cX1_missRow 11 = .ok (.iload_n 1, 1) := by decide +kernel
theorem dX1_missRow_12 : decode cX1_missRow 12 = .ok (.iconst 0, 1) := by decide +kernel
theorem dX1_missRow_13 : decode cX1_missRow 13 = .ok (.invokevirtual 63, 3) := by decide +kernel
theorem dX1_missRow_16 : decode cX1_missRow 16 = .ok (.istore_n 3, 1) := by decide +kernel
theorem dX1_missRow_17 : decode cX1_missRow 17 = .ok (.iload_n 3, 1) := by decide +kernel
theorem dX1_missRow_18 : decode cX1_missRow 18 = .ok (.iload_n 2, 1) := by decide +kernel
theorem dX1_missRow_19 : decode cX1_missRow 19 = .ok (.if_icmp .ge 34, 3) := by decide +kernel
theorem dX1_missRow_22 : decode cX1_missRow 22 = .ok (.aload_n 0, 1) := by decide +kernel
theorem dX1_missRow_23 : decode cX1_missRow 23 = .ok (.getfield 25, 3) := by decide +kernel
theorem dX1_missRow_26 : decode cX1_missRow 26 = .ok (.iload_n 3, 1) := by decide +kernel
theorem dX1_missRow_27 : decode cX1_missRow 27 = .ok (.ldc 97, 2) := by decide +kernel
theorem dX1_missRow_29 : decode cX1_missRow 29 = .ok (.iastore, 1) := by decide +kernel
theorem dX1_missRow_30 : decode cX1_missRow 30 = .ok (.aload_n 0, 1) := by decide +kernel
theorem dX1_missRow_31 : decode cX1_missRow 31 = .ok (.getfield 28, 3) := by decide +kernel
theorem dX1_missRow_34 : decode cX1_missRow 34 = .ok (.iload_n 3, 1) := by decide +kernel
theorem dX1_missRow_35 : decode cX1_missRow 35 = .ok (.iconst (-1), 1) := by decide +kernel
theorem dX1_missRow_36 : decode cX1_missRow 36 = .ok (.iastore, 1) := by decide +kernel
theorem dX1_missRow_37 : decode cX1_missRow 37 = .ok (.aload_n 0, 1) := by decide +kernel
theorem dX1_missRow_38 : decode cX1_missRow 38 = .ok (.dup, 1) := by decide +kernel
theorem dX1_missRow_39 : decode cX1_missRow 39 = .ok (.getfield 37, 3) := by decide +kernel
theorem dX1_missRow_42 : decode cX1_missRow 42 = .ok (.iconst 1, 1) := by decide +kernel
theorem dX1_missRow_43 : decode cX1_missRow 43 = .ok (.iadd, 1) := by decide +kernel
theorem dX1_missRow_44 : decode cX1_missRow 44 = .ok (.putfield 37, 3) := by decide +kernel
theorem dX1_missRow_47 : decode cX1_missRow 47 = .ok (.iinc 3 1, 3) := by decide +kernel
theorem dX1_missRow_50 : decode cX1_missRow 50 = .ok (.goto (-33), 3) := by decide +kernel
theorem dX1_missRow_53 : decode cX1_missRow 53 = .ok (.return_, 1) := by decide +kernel
theorem dX1_feel_0 : decode cX1_feel 0 = .ok (.aload_n 0, 1) := by decide +kernel
theorem dX1_feel_1 : decode cX1_feel 1 = .ok (.getfield 25, 3) := by decide +kernel
theorem dX1_feel_4 : decode cX1_feel 4 = .ok (.iload_n 1, 1) := by decide +kernel
theorem dX1_feel_5 : decode cX1_feel 5 = .ok (.iload_n 2, 1) := by decide +kernel
theorem dX1_feel_6 : decode cX1_feel 6 = .ok (.aload_n 0, 1) := by decide +kernel
theorem dX1_feel_7 : decode cX1_feel 7 = .ok (.getfield 22, 3) := by decide +kernel
theorem dX1_feel_10 : decode cX1_feel 10 = .ok (.iload_n 1, 1) := by decide +kernel
theorem dX1_feel_11 : decode cX1_feel 11 = .ok (.iaload, 1) := by decide +kernel
theorem dX1_feel_12 : decode cX1_feel 12 = .ok (.isub, 1) := by decide +kernel
theorem dX1_feel_13 : decode cX1_feel 13 = .ok (.iastore, 1) := by decide +kernel
theorem dX1_feel_14 : decode cX1_feel 14 = .ok (.aload_n 0, 1) := by decide +kernel
theorem dX1_feel_15 : decode cX1_feel 15 = .ok (.getfield 28, 3) := by decide +kernel
theorem dX1_feel_18 : decode cX1_feel 18 = .ok (.iload_n 1, 1) := by decide +kernel
theorem dX1_feel_19 : decode cX1_feel 19 = .ok (.iconst (-1), 1) := by decide +kernel
theorem dX1_feel_20 : decode cX1_feel 20 = .ok (.iastore, 1) := by decide +kernel
theorem dX1_feel_21 : decode cX1_feel 21 = .ok (.aload_n 0, 1) := by decide +kernel
theorem dX1_feel_22 : decode cX1_feel 22 = .ok (.getfield 25, 3) := by decide +kernel
theorem dX1_feel_25 : decode cX1_feel 25 = .ok (.iload_n 1, 1) := by decide +kernel
theorem dX1_feel_26 : decode cX1_feel 26 = .ok (.iaload, 1) := by decide +kernel
theorem dX1_feel_27 : decode cX1_feel 27 = .ok (.iload_n 3, 1) := by decide +kernel
theorem dX1_feel_28 : decode cX1_feel 28 = .ok (.if_icmp .lt 20, 3) := by decide +kernel
theorem dX1_feel_31 : decode cX1_feel 31 = .ok (.aload_n 0, 1) := by decide +kernel
theorem dX1_feel_32 : decode cX1_feel 32 = .ok (.getfield 28, 3) := by decide +kernel
theorem dX1_feel_35 : decode cX1_feel 35 = .ok (.iload_n 1, 1) := by decide +kernel
theorem dX1_feel_36 : decode cX1_feel 36 = .ok (.iload_n 1, 1) := by decide +kernel
theorem dX1_feel_37 : decode cX1_feel 37 = .ok (.iastore, 1) := by decide +kernel
theorem dX1_feel_38 : decode cX1_feel 38 = .ok (.aload_n 0, 1) := by decide +kernel
theorem dX1_feel_39 : decode cX1_feel 39 = .ok (.dup, 1) := by decide +kernel
theorem dX1_feel_40 : decode cX1_feel 40 = .ok (.getfield 34, 3) := by decide +kernel
theorem dX1_feel_43 : decode cX1_feel 43 = .ok (.iconst 1, 1) := by decide +kernel
theorem dX1_feel_44 : decode cX1_feel 44 = .ok (.iadd, 1) := by decide +kernel
theorem dX1_feel_45 : decode cX1_feel 45 = .ok (.putfield 34, 3) := by decide +kernel
theorem dX1_feel_48 : decode cX1_feel 48 = .ok (.return_, 1) := by decide +kernel
theorem dX1_climb_0 : decode cX1_climb 0 = .ok (.iconst 0, 1) := by decide +kernel
theorem dX1_climb_1 : decode cX1_climb 1 = .ok (.istore_n 1, 1) := by decide +kernel
theorem dX1_climb_2 : decode cX1_climb 2 = .ok (.iload_n 1, 1) := by decide +kernel
theorem dX1_climb_3 : decode cX1_climb 3 = .ok (.aload_n 0, 1) := by decide +kernel
theorem dX1_climb_4 : decode cX1_climb 4 = .ok (.getfield 9, 3) := by decide +kernel
theorem dX1_climb_7 : decode cX1_climb 7 = .ok (.if_icmp .ge 31, 3) := by decide +kernel
theorem dX1_climb_10 : decode cX1_climb 10 = .ok (.iconst 0, 1) := by decide +kernel
theorem dX1_climb_11 : decode cX1_climb 11 = .ok (.istore_n 2, 1) := by decide +kernel
theorem dX1_climb_12 : decode cX1_climb 12 = .ok (.iload_n 2, 1) := by decide +kernel
theorem dX1_climb_13 : decode cX1_climb 13 = .ok (.aload_n 0, 1) := by decide +kernel
theorem dX1_climb_14 : decode cX1_climb 14 = .ok (.getfield 15, 3) := by decide +kernel
theorem dX1_climb_17 : decode cX1_climb 17 = .ok (.if_icmp .ge 15, 3) := by decide +kernel
theorem dX1_climb_20 : decode cX1_climb 20 = .ok (.aload_n 0, 1) := by decide +kernel
theorem dX1_climb_21 : decode cX1_climb 21 = .ok (.iload_n 1, 1) := by decide +kernel
theorem dX1_climb_22 : decode cX1_climb 22 = .ok (.iload_n 2, 1) := by decide +kernel
theorem dX1_climb_23 : decode cX1_climb 23 = .ok (.invokevirtual 98, 3) := by decide +kernel
theorem dX1_climb_26 : decode cX1_climb 26 = .ok (.iinc 2 1, 3) := by decide +kernel
theorem dX1_climb_29 : decode cX1_climb 29 = .ok (.goto (-17), 3) := by decide +kernel
theorem dX1_climb_32 : decode cX1_climb 32 = .ok (.iinc 1 1, 3) := by decide +kernel
theorem dX1_climb_35 : decode cX1_climb 35 = .ok (.goto (-33), 3) := by decide +kernel
theorem dX1_climb_38 : decode cX1_climb 38 = .ok (.aload_n 0, 1) := by decide +kernel
theorem dX1_climb_39 : decode cX1_climb 39 = .ok (.invokevirtual 72, 3) := by decide +kernel
theorem dX1_climb_42 : decode cX1_climb 42 = .ok (.istore_n 1, 1) := by decide +kernel
theorem dX1_climb_43 : decode cX1_climb 43 = .ok (.iconst 0, 1) := by decide +kernel
theorem dX1_climb_44 : decode cX1_climb 44 = .ok (.istore_n 2, 1) := by decide +kernel
theorem dX1_climb_45 : decode cX1_climb 45 = .ok (.iload_n 2, 1) := by decide +kernel
theorem dX1_climb_46 : decode cX1_climb 46 = .ok (.iload_n 1, 1) := by decide +kernel
theorem dX1_climb_47 : decode cX1_climb 47 = .ok (.if_icmp .ge 20, 3) := by decide +kernel
theorem dX1_climb_50 : decode cX1_climb 50 = .ok (.aload_n 0, 1) := by decide +kernel
theorem dX1_climb_51 : decode cX1_climb 51 = .ok (.getfield 28, 3) := by decide +kernel
theorem dX1_climb_54 : decode cX1_climb 54 = .ok (.iload_n 2, 1) := by decide +kernel
theorem dX1_climb_55 : decode cX1_climb 55 = .ok (.aload_n 0, 1) := by decide +kernel
theorem dX1_climb_56 : decode cX1_climb 56 = .ok (.iload_n 2, 1) := by decide +kernel
theorem dX1_climb_57 : decode cX1_climb 57 = .ok (.invokevirtual 101, 3) := by decide +kernel
theorem dX1_climb_60 : decode cX1_climb 60 = .ok (.iastore, 1) := by decide +kernel
theorem dX1_climb_61 : decode cX1_climb 61 = .ok (.iinc 2 1, 3) := by decide +kernel
theorem dX1_climb_64 : decode cX1_climb 64 = .ok (.goto (-19), 3) := by decide +kernel
theorem dX1_climb_67 : decode cX1_climb 67 = .ok (.return_, 1) := by decide +kernel
theorem dX1_lead_0 : decode cX1_lead 0 = .ok (.aload_n 0, 1) := by decide +kernel
theorem dX1_lead_1 : decode cX1_lead 1 = .ok (.iload_n 1, 1) := by decide +kernel
theorem dX1_lead_2 : decode cX1_lead 2 = .ok (.iload_n 2, 1) := by decide +kernel
theorem dX1_lead_3 : decode cX1_lead 3 = .ok (.invokevirtual 63, 3) := by decide +kernel
theorem dX1_lead_6 : decode cX1_lead 6 = .ok (.istore_n 3, 1) := by decide +kernel
theorem dX1_lead_7 : decode cX1_lead 7 = .ok (.aload_n 0, 1) := by decide +kernel
theorem dX1_lead_8 : decode cX1_lead 8 = .ok (.iload_n 3, 1) := by decide +kernel
theorem dX1_lead_9 : decode cX1_lead 9 = .ok (.invokevirtual 94, 3) := by decide +kernel
theorem dX1_lead_12 : decode cX1_lead 12 = .ok (.ifCond .eq 54, 3) := by decide +kernel
theorem dX1_lead_15 : decode cX1_lead 15 = .ok (.aload_n 0, 1) := by decide +kernel
theorem dX1_lead_16 : decode cX1_lead 16 = .ok (.iload_n 3, 1) := by decide +kernel
theorem dX1_lead_17 : decode cX1_lead 17 = .ok (.iload_n 1, 1) := by decide +kernel
theorem dX1_lead_18 : decode cX1_lead 18 = .ok (.iconst 1, 1) := by decide +kernel
theorem dX1_lead_19 : decode cX1_lead 19 = .ok (.isub, 1) := by decide +kernel
theorem dX1_lead_20 : decode cX1_lead 20 = .ok (.iload_n 2, 1) := by decide +kernel
theorem dX1_lead_21 : decode cX1_lead 21 = .ok (.invokevirtual 105, 3) := by decide +kernel
theorem dX1_lead_24 : decode cX1_lead 24 = .ok (.istore 4, 2) := by decide +kernel
theorem dX1_lead_26 : decode cX1_lead 26 = .ok (.aload_n 0, 1) := by decide +kernel
theorem dX1_lead_27 : decode cX1_lead 27 = .ok (.iload 4, 2) := by decide +kernel
theorem dX1_lead_29 : decode cX1_lead 29 = .ok (.iload_n 1, 1) := by decide +kernel
theorem dX1_lead_30 : decode cX1_lead 30 = .ok (.iload_n 2, 1) := by decide +kernel
theorem dX1_lead_31 : decode cX1_lead 31 = .ok (.iconst 1, 1) := by decide +kernel
theorem dX1_lead_32 : decode cX1_lead 32 = .ok (.isub, 1) := by decide +kernel
theorem dX1_lead_33 : decode cX1_lead 33 = .ok (.invokevirtual 105, 3) := by decide +kernel
theorem dX1_lead_36 : decode cX1_lead 36 = .ok (.istore 4, 2) := by decide +kernel
theorem dX1_lead_38 : decode cX1_lead 38 = .ok (.aload_n 0, 1) := by decide +kernel
theorem dX1_lead_39 : decode cX1_lead 39 = .ok (.iload 4, 2) := by decide +kernel
theorem dX1_lead_41 : decode cX1_lead 41 = .ok (.iload_n 1, 1) := by decide +kernel
theorem dX1_lead_42 : decode cX1_lead 42 = .ok (.iload_n 2, 1) := by decide +kernel
theorem dX1_lead_43 : decode cX1_lead 43 = .ok (.iconst 1, 1) := by decide +kernel
theorem dX1_lead_44 : decode cX1_lead 44 = .ok (.iadd, 1) := by decide +kernel
theorem dX1_lead_45 : decode cX1_lead 45 = .ok (.invokevirtual 105, 3) := by decide +kernel
theorem dX1_lead_48 : decode cX1_lead 48 = .ok (.istore 4, 2) := by decide +kernel
theorem dX1_lead_50 : decode cX1_lead 50 = .ok (.aload_n 0, 1) := by decide +kernel
theorem dX1_lead_51 : decode cX1_lead 51 = .ok (.getfield 28, 3) := by decide +kernel
theorem dX1_lead_54 : decode cX1_lead 54 = .ok (.iload_n 3, 1) := by decide +kernel
theorem dX1_lead_55 : decode cX1_lead 55 = .ok (.aload_n 0, 1) := by decide +kernel
theorem dX1_lead_56 : decode cX1_lead 56 = .ok (.iload 4, 2) := by decide +kernel
theorem dX1_lead_58 : decode cX1_lead 58 = .ok (.iload_n 1, 1) := by decide +kernel
theorem dX1_lead_59 : decode cX1_lead 59 = .ok (.iconst 1, 1) := by decide +kernel
theorem dX1_lead_60 : decode cX1_lead 60 = .ok (.iadd, 1) := by decide +kernel
theorem dX1_lead_61 : decode cX1_lead 61 = .ok (.iload_n 2, 1) := by decide +kernel
theorem dX1_lead_62 : decode cX1_lead 62 = .ok (.invokevirtual 105, 3) := by decide +kernel
theorem dX1_lead_65 : decode cX1_lead 65 = .ok (.iastore, 1) := by decide +kernel
theorem dX1_lead_66 : decode cX1_lead 66 = .ok (.return_, 1) := by decide +kernel
theorem dX1_strongerOf_0 : decode cX1_strongerOf 0 = .ok (.aload_n 0, 1) := by decide +kernel
theorem dX1_strongerOf_1 : decode cX1_strongerOf 1 = .ok (.iload_n 2, 1) := by decide +kernel
theorem dX1_strongerOf_2 : decode cX1_strongerOf 2 = .ok (.iload_n 3, 1) := by decide +kernel
theorem dX1_strongerOf_3 : decode cX1_strongerOf 3 = .ok (.invokevirtual 59, 3) := by decide +kernel
theorem dX1_strongerOf_6 : decode cX1_strongerOf 6 = .ok (.ifCond .ne 5, 3) := by decide +kernel
theorem dX1_strongerOf_9 : decode cX1_strongerOf 9 = .ok (.iload_n 1, 1) := by decide +kernel
theorem dX1_strongerOf_10 : decode cX1_strongerOf 10 = .ok (.ireturn, 1) := by decide +kernel
theorem dX1_strongerOf_11 : decode cX1_strongerOf 11 = .ok (.aload_n 0, 1) := by decide +kernel
theorem dX1_strongerOf_12 : decode cX1_strongerOf 12 = .ok (.iload_n 2, 1) := by decide +kernel
theorem dX1_strongerOf_13 : decode cX1_strongerOf 13 = .ok (.iload_n 3, 1) := by decide +kernel
theorem dX1_strongerOf_14 : decode cX1_strongerOf 14 = .ok (.invokevirtual 63, 3) := by decide +kernel
theorem dX1_strongerOf_17 : decode cX1_strongerOf 17 = .ok (.istore 4, 2) := by decide +kernel
theorem dX1_strongerOf_19 : decode cX1_strongerOf 19 = .ok (.aload_n 0, 1) := by decide +kernel
theorem dX1_strongerOf_20 : decode cX1_strongerOf 20 = .ok (.iload 4, 2) := by decide +kernel
theorem dX1_strongerOf_22 : decode cX1_strongerOf 22 = .ok (.invokevirtual 94, 3) := by decide +kernel
theorem dX1_strongerOf_25 : decode cX1_strongerOf 25 = .ok (.ifCond .eq 18, 3) := by decide +kernel
theorem dX1_strongerOf_28 : decode cX1_strongerOf 28 = .ok (.aload_n 0, 1) := by decide +kernel
theorem dX1_strongerOf_29 : decode cX1_strongerOf 29 = .ok (.iload 4, 2) := by decide +kernel
theorem dX1_strongerOf_31 : decode cX1_strongerOf 31 = .ok (.iload_n 1, 1) := by decide +kernel
theorem dX1_strongerOf_32 : decode cX1_strongerOf 32 = .ok (.invokevirtual 109, 3) := by decide +kernel
theorem dX1_strongerOf_35 : decode cX1_strongerOf 35 = .ok (.ifCond .eq 8, 3) := by decide +kernel
theorem dX1_strongerOf_38 : decode cX1_strongerOf 38 = .ok (.iload 4, 2) := by decide +kernel
theorem dX1_strongerOf_40 : decode cX1_strongerOf 40 = .ok (.goto 4, 3) := by decide +kernel
theorem dX1_strongerOf_43 : decode cX1_strongerOf 43 = .ok (.iload_n 1, 1) := by decide +kernel
theorem dX1_strongerOf_44 : decode cX1_strongerOf 44 = .ok (.ireturn, 1) := by decide +kernel
theorem dX1_isStronger_0 : decode cX1_isStronger 0 = .ok (.aload_n 0, 1) := by decide +kernel
theorem dX1_isStronger_1 : decode cX1_isStronger 1 = .ok (.getfield 25, 3) := by decide +kernel
theorem dX1_isStronger_4 : decode cX1_isStronger 4 = .ok (.iload_n 1, 1) := by decide +kernel
theorem dX1_isStronger_5 : decode cX1_isStronger 5 = .ok (.iaload, 1) := by decide +kernel
theorem dX1_isStronger_6 : decode cX1_isStronger 6 = .ok (.aload_n 0, 1) := by decide +kernel
theorem dX1_isStronger_7 : decode cX1_isStronger 7 = .ok (.getfield 25, 3) := by decide +kernel
theorem dX1_isStronger_10 : decode cX1_isStronger 10 = .ok (.iload_n 2, 1) := by decide +kernel
theorem dX1_isStronger_11 : decode cX1_isStronger 11 = .ok (.iaload, 1) := by decide +kernel
theorem dX1_isStronger_12 : decode cX1_isStronger 12 = .ok (.if_icmp .gt 23, 3) := by decide +kernel
theorem dX1_isStronger_15 : decode cX1_isStronger 15 = .ok (.aload_n 0, 1) := by decide +kernel
theorem dX1_isStronger_16 : decode cX1_isStronger 16 = .ok (.getfield 25, 3) := by decide +kernel
theorem dX1_isStronger_19 : decode cX1_isStronger 19 = .ok (.iload_n 1, 1) := by decide +kernel
theorem dX1_isStronger_20 : decode cX1_isStronger 20 = .ok (.iaload, 1) := by decide +kernel
theorem dX1_isStronger_21 : decode cX1_isStronger 21 = .ok (.aload_n 0, 1) := by decide +kernel
theorem dX1_isStronger_22 : decode cX1_isStronger 22 = .ok (.getfield 25, 3) := by decide +kernel
theorem dX1_isStronger_25 : decode cX1_isStronger 25 = .ok (.iload_n 2, 1) := by decide +kernel
theorem dX1_isStronger_26 : decode cX1_isStronger 26 = .ok (.iaload, 1) := by decide +kernel
theorem dX1_isStronger_27 : decode cX1_isStronger 27 = .ok (.if_icmp .ne 12, 3) := by decide +kernel
theorem dX1_isStronger_30 : decode cX1_isStronger 30 = .ok (.iload_n 1, 1) := by decide +kernel
theorem dX1_isStronger_31 : decode cX1_isStronger 31 = .ok (.iload_n 2, 1) := by decide +kernel
theorem dX1_isStronger_32 : decode cX1_isStronger 32 = .ok (.if_icmp .ge 7, 3) := by decide +kernel
theorem dX1_isStronger_35 : decode cX1_isStronger 35 = .ok (.iconst 1, 1) := by decide +kernel
theorem dX1_isStronger_36 : decode cX1_isStronger 36 = .ok (.goto 4, 3) := by decide +kernel
theorem dX1_isStronger_39 : decode cX1_isStronger 39 = .ok (.iconst 0, 1) := by decide +kernel
theorem dX1_isStronger_40 : decode cX1_isStronger 40 = .ok (.ireturn, 1) := by decide +kernel
theorem dX1_topFrom_0 : decode cX1_topFrom 0 = .ok (.aload_n 0, 1) := by decide +kernel
theorem dX1_topFrom_1 : decode cX1_topFrom 1 = .ok (.getfield 28, 3) := by decide +kernel
theorem dX1_topFrom_4 : decode cX1_topFrom 4 = .ok (.iload_n 1, 1) := by decide +kernel
theorem dX1_topFrom_5 : decode cX1_topFrom 5 = .ok (.iaload, 1) := by decide +kernel
theorem dX1_topFrom_6 : decode cX1_topFrom 6 = .ok (.istore_n 2, 1) := by decide +kernel
theorem dX1_topFrom_7 : decode cX1_topFrom 7 = .ok (.iconst 0, 1) := by decide +kernel
theorem dX1_topFrom_8 : decode cX1_topFrom 8 = .ok (.istore_n 3, 1) := by decide +kernel
theorem dX1_topFrom_9 : decode cX1_topFrom 9 = .ok (.iload_n 3, 1) := by decide +kernel
theorem dX1_topFrom_10 : decode cX1_topFrom 10 = .ok (.bipush 64, 2) := by decide +kernel
theorem dX1_topFrom_12 : decode cX1_topFrom 12 = .ok (.if_icmp .ge 34, 3) := by decide +kernel
theorem dX1_topFrom_15 : decode cX1_topFrom 15 = .ok (.aload_n 0, 1) := by decide +kernel
theorem dX1_topFrom_16 : decode cX1_topFrom 16 = .ok (.iload_n 2, 1) := by decide +kernel
theorem dX1_topFrom_17 : decode cX1_topFrom 17 = .ok (.invokevirtual 112, 3) := by decide +kernel
theorem dX1_topFrom_20 : decode cX1_topFrom 20 = .ok (.ifCond .eq 26, 3) := by decide +kernel
theorem dX1_topFrom_23 : decode cX1_topFrom 23 = .ok (.aload_n 0, 1) := by decide +kernel
theorem dX1_topFrom_24 : decode cX1_topFrom 24 = .ok (.getfield 28, 3) := by decide +kernel
theorem dX1_topFrom_27 : decode cX1_topFrom 27 = .ok (.iload_n 2, 1) := by decide +kernel
theorem dX1_topFrom_28 : decode cX1_topFrom 28 = .ok (.iaload, 1) := by decide +kernel
theorem dX1_topFrom_29 : decode cX1_topFrom 29 = .ok (.iload_n 2, 1) := by decide +kernel
theorem dX1_topFrom_30 : decode cX1_topFrom 30 = .ok (.if_icmp .eq 16, 3) := by decide +kernel
theorem dX1_topFrom_33 : decode cX1_topFrom 33 = .ok (.aload_n 0, 1) := by decide +kernel
theorem dX1_topFrom_34 : decode cX1_topFrom 34 = .ok (.getfield 28, 3) := by decide +kernel
theorem dX1_topFrom_37 : decode cX1_topFrom 37 = .ok (.iload_n 2, 1) := by decide +kernel
theorem dX1_topFrom_38 : decode cX1_topFrom 38 = .ok (.iaload, 1) := by decide +kernel
theorem dX1_topFrom_39 : decode cX1_topFrom 39 = .ok (.istore_n 2, 1) := by decide +kernel
theorem dX1_topFrom_40 : decode cX1_topFrom 40 = .ok (.iinc 3 1, 3) := by decide +kernel
theorem dX1_topFrom_43 : decode cX1_topFrom 43 = .ok (.goto (-34), 3) := by decide +kernel
theorem dX1_topFrom_46 : decode cX1_topFrom 46 = .ok (.iload_n 2, 1) := by decide +kernel
theorem dX1_topFrom_47 : decode cX1_topFrom 47 = .ok (.ireturn, 1) := by decide +kernel
theorem dX1_areaOf_0 : decode cX1_areaOf 0 = .ok (.iconst 0, 1) := by decide +kernel
theorem dX1_areaOf_1 : decode cX1_areaOf 1 = .ok (.istore_n 2, 1) := by decide +kernel
theorem dX1_areaOf_2 : decode cX1_areaOf 2 = .ok (.aload_n 0, 1) := by decide +kernel
theorem dX1_areaOf_3 : decode cX1_areaOf 3 = .ok (.invokevirtual 72, 3) := by decide +kernel
theorem dX1_areaOf_6 : decode cX1_areaOf 6 = .ok (.istore_n 3, 1) := by decide +kernel
theorem dX1_areaOf_7 : decode cX1_areaOf 7 = .ok (.iconst 0, 1) := by decide +kernel
theorem dX1_areaOf_8 : decode cX1_areaOf 8 = .ok (.istore 4, 2) := by decide +kernel
theorem dX1_areaOf_10 : decode cX1_areaOf 10 = .ok (.iload 4, 2) := by decide +kernel
theorem dX1_areaOf_12 : decode cX1_areaOf 12 = .ok (.iload_n 3, 1) := by decide +kernel
theorem dX1_areaOf_13 : decode cX1_areaOf 13 = .ok (.if_icmp .ge 23, 3) := by decide +kernel
theorem dX1_areaOf_16 : decode cX1_areaOf 16 = .ok (.aload_n 0, 1) := by decide +kernel
theorem dX1_areaOf_17 : decode cX1_areaOf 17 = .ok (.getfield 28, 3) := by decide +kernel
theorem dX1_areaOf_20 : decode cX1_areaOf 20 = .ok (.iload 4, 2) := by decide +kernel
theorem dX1_areaOf_22 : decode cX1_areaOf 22 = .ok (.iaload, 1) := by decide +kernel
theorem dX1_areaOf_23 : decode cX1_areaOf 23 = .ok (.iload_n 1, 1) := by decide +kernel
theorem dX1_areaOf_24 : decode cX1_areaOf 24 = .ok (.if_icmp .ne 6, 3) := by decide +kernel
theorem dX1_areaOf_27 : decode cX1_areaOf 27 = .ok (.iinc 2 1, 3) := by decide +kernel
theorem dX1_areaOf_30 : decode cX1_areaOf 30 = .ok (.iinc 4 1, 3) := by decide +kernel
theorem dX1_areaOf_33 : decode cX1_areaOf 33 = .ok (.goto (-23), 3) := by decide +kernel
theorem dX1_areaOf_36 : decode cX1_areaOf 36 = .ok (.iload_n 2, 1) := by decide +kernel
theorem dX1_areaOf_37 : decode cX1_areaOf 37 = .ok (.ireturn, 1) := by decide +kernel
theorem dX1_heavyOf_0 : decode cX1_heavyOf 0 = .ok (.iconst 0, 1) := by decide +kernel
theorem dX1_heavyOf_1 : decode cX1_heavyOf 1 = .ok (.istore_n 2, 1) := by decide +kernel
theorem dX1_heavyOf_2 : decode cX1_heavyOf 2 = .ok (.aload_n 0, 1) := by decide +kernel
theorem dX1_heavyOf_3 : decode cX1_heavyOf 3 = .ok (.invokevirtual 72, 3) := by decide +kernel
theorem dX1_heavyOf_6 : decode cX1_heavyOf 6 = .ok (.istore_n 3, 1) := by decide +kernel
theorem dX1_heavyOf_7 : decode cX1_heavyOf 7 = .ok (.iconst 0, 1) := by decide +kernel
theorem dX1_heavyOf_8 : decode cX1_heavyOf 8 = .ok (.istore 4, 2) := by decide +kernel
theorem dX1_heavyOf_10 : decode cX1_heavyOf 10 = .ok (.iload 4, 2) := by decide +kernel
theorem dX1_heavyOf_12 : decode cX1_heavyOf 12 = .ok (.iload_n 3, 1) := by decide +kernel
theorem dX1_heavyOf_13 : decode cX1_heavyOf 13 = .ok (.if_icmp .ge 30, 3) := by decide +kernel
theorem dX1_heavyOf_16 : decode cX1_heavyOf 16 = .ok (.aload_n 0, 1) := by decide +kernel
theorem dX1_heavyOf_17 : decode cX1_heavyOf 17 = .ok (.getfield 28, 3) := by decide +kernel
theorem dX1_heavyOf_20 : decode cX1_heavyOf 20 = .ok (.iload 4, 2) := by decide +kernel
theorem dX1_heavyOf_22 : decode cX1_heavyOf 22 = .ok (.iaload, 1) := by decide +kernel
theorem dX1_heavyOf_23 : decode cX1_heavyOf 23 = .ok (.iload_n 1, 1) := by decide +kernel
theorem dX1_heavyOf_24 : decode cX1_heavyOf 24 = .ok (.if_icmp .ne 13, 3) := by decide +kernel
theorem dX1_heavyOf_27 : decode cX1_heavyOf 27 = .ok (.iload_n 2, 1) := by decide +kernel
theorem dX1_heavyOf_28 : decode cX1_heavyOf 28 = .ok (.aload_n 0, 1) := by decide +kernel
theorem dX1_heavyOf_29 : decode cX1_heavyOf 29 = .ok (.getfield 25, 3) := by decide +kernel
theorem dX1_heavyOf_32 : decode cX1_heavyOf 32 = .ok (.iload 4, 2) := by decide +kernel
theorem dX1_heavyOf_34 : decode cX1_heavyOf 34 = .ok (.iaload, 1) := by decide +kernel
theorem dX1_heavyOf_35 : decode cX1_heavyOf 35 = .ok (.iadd, 1) := by decide +kernel
theorem dX1_heavyOf_36 : decode cX1_heavyOf 36 = .ok (.istore_n 2, 1) := by decide +kernel
theorem dX1_heavyOf_37 : decode cX1_heavyOf 37 = .ok (.iinc 4 1, 3) := by decide +kernel
theorem dX1_heavyOf_40 : decode cX1_heavyOf 40 = .ok (.goto (-30), 3) := by decide +kernel
theorem dX1_heavyOf_43 : decode cX1_heavyOf 43 = .ok (.iload_n 2, 1) := by decide +kernel
theorem dX1_heavyOf_44 : decode cX1_heavyOf 44 = .ok (.ireturn, 1) := by decide +kernel
theorem dX1_centreOf_0 : decode cX1_centreOf 0 = .ok (.lconst 0, 1) := by decide +kernel
theorem dX1_centreOf_1 : decode cX1_centreOf 1 = .ok (.lstore_n 3, 1) := by decide +kernel
theorem dX1_centreOf_2 : decode cX1_centreOf 2 = .ok (.iconst 0, 1) := by decide +kernel
theorem dX1_centreOf_3 : decode cX1_centreOf 3 = .ok (.istore 5, 2) := by decide +kernel
theorem dX1_centreOf_5 : decode cX1_centreOf 5 = .ok (.iload 5, 2) := by decide +kernel
theorem dX1_centreOf_7 : decode cX1_centreOf 7 = .ok (.aload_n 0, 1) := by decide +kernel
theorem dX1_centreOf_8 : decode cX1_centreOf 8 = .ok (.getfield 9, 3) := by decide +kernel
theorem dX1_centreOf_11 : decode cX1_centreOf 11 = .ok (.if_icmp .ge 72, 3) := by decide +kernel
theorem dX1_centreOf_14 : decode cX1_centreOf 14 = .ok (.iconst 0, 1) := by decide +kernel
theorem dX1_centreOf_15 : decode cX1_centreOf 15 = .ok (.istore 6, 2) := by decide +kernel
theorem dX1_centreOf_17 : decode cX1_centreOf 17 = .ok (.iload 6, 2) := by decide +kernel
theorem dX1_centreOf_19 : decode cX1_centreOf 19 = .ok (.aload_n 0, 1) := by decide +kernel
theorem dX1_centreOf_20 : decode cX1_centreOf 20 = .ok (.getfield 15, 3) := by decide +kernel
theorem dX1_centreOf_23 : decode cX1_centreOf 23 = .ok (.if_icmp .ge 54, 3) := by decide +kernel
theorem dX1_centreOf_26 : decode cX1_centreOf 26 = .ok (.aload_n 0, 1) := by decide +kernel
theorem dX1_centreOf_27 : decode cX1_centreOf 27 = .ok (.iload 5, 2) := by decide +kernel
theorem dX1_centreOf_29 : decode cX1_centreOf 29 = .ok (.iload 6, 2) := by decide +kernel
theorem dX1_centreOf_31 : decode cX1_centreOf 31 = .ok (.invokevirtual 63, 3) := by decide +kernel
theorem dX1_centreOf_34 : decode cX1_centreOf 34 = .ok (.istore 7, 2) := by decide +kernel
theorem dX1_centreOf_36 : decode cX1_centreOf 36 = .ok (.aload_n 0, 1) := by decide +kernel
theorem dX1_centreOf_37 : decode cX1_centreOf 37 = .ok (.getfield 28, 3) := by decide +kernel
theorem dX1_centreOf_40 : decode cX1_centreOf 40 = .ok (.iload 7, 2) := by decide +kernel
theorem dX1_centreOf_42 : decode cX1_centreOf 42 = .ok (.iaload, 1) := by decide +kernel
theorem dX1_centreOf_43 : decode cX1_centreOf 43 = .ok (.iload_n 1, 1) := by decide +kernel
theorem dX1_centreOf_44 : decode cX1_centreOf 44 = .ok (.if_icmp .ne 27, 3) := by decide +kernel
theorem dX1_centreOf_47 : decode cX1_centreOf 47 = .ok (.lload_n 3, 1) := by decide +kernel
theorem dX1_centreOf_48 : decode cX1_centreOf 48 = .ok (.aload_n 0, 1) := by decide +kernel
theorem dX1_centreOf_49 : decode cX1_centreOf 49 = .ok (.getfield 25, 3) := by decide +kernel
theorem dX1_centreOf_52 : decode cX1_centreOf 52 = .ok (.iload 7, 2) := by decide +kernel
theorem dX1_centreOf_54 : decode cX1_centreOf 54 = .ok (.iaload, 1) := by decide +kernel
theorem dX1_centreOf_55 : decode cX1_centreOf 55 = .ok (.i2l, 1) := by decide +kernel
theorem dX1_centreOf_56 : decode cX1_centreOf 56 = .ok (.iload_n 2, 1) := by decide +kernel
theorem dX1_centreOf_57 : decode cX1_centreOf 57 = .ok (.ifCond .eq 8, 3) := by decide +kernel
theorem dX1_centreOf_60 : decode cX1_centreOf 60 = .ok (.iload 5, 2) := by decide +kernel
theorem dX1_centreOf_62 : decode cX1_centreOf 62 = .ok (.goto 5, 3) := by decide +kernel
theorem dX1_centreOf_65 : decode cX1_centreOf 65 = .ok (.iload 6, 2) := by decide +kernel
theorem dX1_centreOf_67 : decode cX1_centreOf 67 = .ok (.i2l, 1) := by decide +kernel
theorem dX1_centreOf_68 : decode cX1_centreOf 68 = .ok (.lmul, 1) := by decide +kernel
theorem dX1_centreOf_69 : decode cX1_centreOf 69 = .ok (.ladd, 1) := by decide +kernel
theorem dX1_centreOf_70 : decode cX1_centreOf 70 = .ok (.lstore_n 3, 1) := by decide +kernel
theorem dX1_centreOf_71 : decode cX1_centreOf 71 = .ok (.iinc 6 1, 3) := by decide +kernel
theorem dX1_centreOf_74 : decode cX1_centreOf 74 = .ok (.goto (-57), 3) := by decide +kernel
theorem dX1_centreOf_77 : decode cX1_centreOf 77 = .ok (.iinc 5 1, 3) := by decide +kernel
theorem dX1_centreOf_80 : decode cX1_centreOf 80 = .ok (.goto (-75), 3) := by decide +kernel
theorem dX1_centreOf_83 : decode cX1_centreOf 83 = .ok (.aload_n 0, 1) := by decide +kernel
theorem dX1_centreOf_84 : decode cX1_centreOf 84 = .ok (.iload_n 1, 1) := by decide +kernel
theorem dX1_centreOf_85 : decode cX1_centreOf 85 = .ok (.invokevirtual 115, 3) := by decide +kernel
theorem dX1_centreOf_88 : decode cX1_centreOf 88 = .ok (.istore 5, 2) := by decide +kernel
theorem dX1_centreOf_90 : decode cX1_centreOf 90 = .ok (.iload 5, 2) := by decide +kernel
theorem dX1_centreOf_92 : decode cX1_centreOf 92 = .ok (.ifCond .ne 7, 3) := by decide +kernel
theorem dX1_centreOf_95 : decode cX1_centreOf 95 = .ok (.iconst 0, 1) := by decide +kernel
theorem dX1_centreOf_96 : decode cX1_centreOf 96 = .ok (.goto 13, 3) := by decide +kernel
theorem dX1_centreOf_99 : decode cX1_centreOf 99 = .ok (.ldc2_w 118, 3) := by decide +kernel
theorem dX1_centreOf_102 : decode cX1_centreOf 102 = .ok (.lload_n 3, 1) := by decide +kernel
theorem dX1_centreOf_103 : decode cX1_centreOf 103 = .ok (.lmul, 1) := by decide +kernel
theorem dX1_centreOf_104 : decode cX1_centreOf 104 = .ok (.iload 5, 2) := by decide +kernel
theorem dX1_centreOf_106 : decode cX1_centreOf 106 = .ok (.i2l, 1) := by decide +kernel
theorem dX1_centreOf_107 : decode cX1_centreOf 107 = .ok (.ldiv, 1) := by decide +kernel
theorem dX1_centreOf_108 : decode cX1_centreOf 108 = .ok (.l2i, 1) := by decide +kernel
theorem dX1_centreOf_109 : decode cX1_centreOf 109 = .ok (.ireturn, 1) := by decide +kernel
theorem dX2_init_0 : decode cX2_init 0 = .ok (.aload_n 0, 1) := by decide +kernel
theorem dX2_init_1 : decode cX2_init 1 = .ok (.invokespecial 1, 3) := by decide +kernel
theorem dX2_init_4 : decode cX2_init 4 = .ok (.aload_n 0, 1) := by decide +kernel
theorem dX2_init_5 : decode cX2_init 5 = .ok (.lconst 1, 1) := by decide +kernel
theorem dX2_init_6 : decode cX2_init 6 = .ok (.putfield 7, 3) := by decide +kernel
theorem dX2_init_9 : decode cX2_init 9 = .ok (.return_, 1) := by decide +kernel
theorem dX2_next_0 : decode cX2_next 0 = .ok (.aload_n 0, 1) := by decide +kernel
theorem dX2_next_1 : decode cX2_next 1 = .ok (.aload_n 0, 1) := by decide +kernel
theorem dX2_next_2 : decode cX2_next 2 = .ok (.getfield 7, 3) := by decide +kernel
theorem dX2_next_5 : decode cX2_next 5 = .ok (.ldc2_w 13, 3) := by decide +kernel
theorem dX2_next_8 : decode cX2_next 8 = .ok (.lmul, 1) := by decide +kernel
theorem dX2_next_9 : decode cX2_next 9 = .ok (.ldc2_w 15, 3) := by decide +kernel
theorem dX2_next_12 : decode cX2_next 12 = .ok (.lrem, 1) := by decide +kernel
theorem dX2_next_13 : decode cX2_next 13 = .ok (.putfield 7, 3) := by decide +kernel
theorem dX2_next_16 : decode cX2_next 16 = .ok (.iload_n 1, 1) := by decide +kernel
theorem dX2_next_17 : decode cX2_next 17 = .ok (.ifCond .le 14, 3) := by decide +kernel
theorem dX2_next_20 : decode cX2_next 20 = .ok (.aload_n 0, 1) := by decide +kernel
theorem dX2_next_21 : decode cX2_next 21 = .ok (.getfield 7, 3) := by decide +kernel
theorem dX2_next_24 : decode cX2_next 24 = .ok (.iload_n 1, 1) := by decide +kernel
theorem dX2_next_25 : decode cX2_next 25 = .ok (.i2l, 1) := by decide +kernel
theorem dX2_next_26 : decode cX2_next 26 = .ok (.lrem, 1) := by decide +kernel
theorem dX2_next_27 : decode cX2_next 27 = .ok (.l2i, 1) := by decide +kernel
theorem dX2_next_28 : decode cX2_next 28 = .ok (.goto 4, 3) := by decide +kernel
theorem dX2_next_31 : decode cX2_next 31 = .ok (.iconst 0, 1) := by decide +kernel
theorem dX2_next_32 : decode cX2_next 32 = .ok (.ireturn, 1) := by decide +kernel
theorem dX2_castOn_0 : decode cX2_castOn 0 = .ok (.aload_n 0, 1) := by decide +kernel
theorem dX2_castOn_1 : decode cX2_castOn 1 = .ok (.iconst 4, 1) := by decide +kernel
theorem dX2_castOn_2 : decode cX2_castOn 2 = .ok (.invokevirtual 17, 3) := by decide +kernel
theorem dX2_castOn_5 : decode cX2_castOn 5 = .ok (.tableswitch 58 0 2 #[27, 35, 43], 27) := by decide +kernel
theorem dX2_castOn_32 : decode cX2_castOn 32 = .ok (.aload_n 1, 1) := by decide +kernel
theorem dX2_castOn_33 : decode cX2_castOn 33 = .ok (.invokevirtual 21, 3) := by decide +kernel
theorem dX2_castOn_36 : decode cX2_castOn 36 = .ok (.pop, 1) := by decide +kernel
theorem dX2_castOn_37 : decode cX2_castOn 37 = .ok (.goto 31, 3) := by decide +kernel
theorem dX2_castOn_40 : decode cX2_castOn 40 = .ok (.aload_n 0, 1) := by decide +kernel
theorem dX2_castOn_41 : decode cX2_castOn 41 = .ok (.aload_n 1, 1) := by decide +kernel
theorem dX2_castOn_42 : decode cX2_castOn 42 = .ok (.invokevirtual 27, 3) := by decide +kernel
theorem dX2_castOn_45 : decode cX2_castOn 45 = .ok (.goto 23, 3) := by decide +kernel
theorem dX2_castOn_48 : decode cX2_castOn 48 = .ok (.aload_n 1, 1) := by decide +kernel
theorem dX2_castOn_49 : decode cX2_castOn 49 = .ok (.aload_n 0, 1) := by decide +kernel
theorem dX2_castOn_50 : decode cX2_castOn 50 = .ok (.aload_n 1, 1) := by decide +kernel
theorem dX2_castOn_51 : decode cX2_castOn 51 = .ok (.getfield 31, 3) := by decide +kernel
theorem dX2_castOn_54 : decode cX2_castOn 54 = .ok (.invokevirtual 17, 3) := by decide +kernel
theorem dX2_castOn_57 : decode cX2_castOn 57 = .ok (.invokevirtual 35, 3) := by decide +kernel
theorem dX2_castOn_60 : decode cX2_castOn 60 = .ok (.goto 8, 3) := by decide +kernel
theorem dX2_castOn_63 : decode cX2_castOn 63 = .ok (.aload_n 0, 1) := by decide +kernel
theorem dX2_castOn_64 : decode cX2_castOn 64 = .ok (.aload_n 1, 1) := by decide +kernel
theorem dX2_castOn_65 : decode cX2_castOn 65 = .ok (.invokevirtual 39, 3) := by decide +kernel
theorem dX2_castOn_68 : decode cX2_castOn 68 = .ok (.return_, 1) := by decide +kernel
theorem dX2_chargeOne_0 : decode cX2_chargeOne 0 = .ok (.aload_n 0, 1) := by decide +kernel
theorem dX2_chargeOne_1 : decode cX2_chargeOne 1 = .ok (.aload_n 1, 1) := by decide +kernel
theorem dX2_chargeOne_2 : decode cX2_chargeOne 2 = .ok (.invokevirtual 42, 3) := by decide +kernel
theorem dX2_chargeOne_5 : decode cX2_chargeOne 5 = .ok (.invokevirtual 17, 3) := by decide +kernel
theorem dX2_chargeOne_8 : decode cX2_chargeOne 8 = .ok (.istore_n 2, 1) := by decide +kernel
theorem dX2_chargeOne_9 : decode cX2_chargeOne 9 = .ok (.aload_n 0, 1) := by decide +kernel
theorem dX2_chargeOne_10 : decode cX2_chargeOne 10 = .ok (.sipush 1000, 3) := by decide +kernel
theorem dX2_chargeOne_13 : decode cX2_chargeOne 13 = .ok (.invokevirtual 17, 3) := by decide +kernel
theorem dX2_chargeOne_16 : decode cX2_chargeOne 16 = .ok (.istore_n 3, 1) := by decide +kernel
theorem dX2_chargeOne_17 : decode cX2_chargeOne 17 = .ok (.aload_n 1, 1) := by decide +kernel
theorem dX2_chargeOne_18 : decode cX2_chargeOne 18 = .ok (.iload_n 2, 1) := by decide +kernel
theorem dX2_chargeOne_19 : decode cX2_chargeOne 19 = .ok (.invokevirtual 45, 3) := by decide +kernel
theorem dX2_chargeOne_22 : decode cX2_chargeOne 22 = .ok (.ifCond .eq 10, 3) := by decide +kernel
theorem dX2_chargeOne_25 : decode cX2_chargeOne 25 = .ok (.aload_n 1, 1) := by decide +kernel
theorem dX2_chargeOne_26 : decode cX2_chargeOne 26 = .ok (.getfield 49, 3) := by decide +kernel
theorem dX2_chargeOne_29 : decode cX2_chargeOne 29 = .ok (.iload_n 2, 1) := by decide +kernel
theorem dX2_chargeOne_30 : decode cX2_chargeOne 30 = .ok (.iload_n 3, 1) := by decide +kernel
theorem dX2_chargeOne_31 : decode cX2_chargeOne 31 = .ok (.iastore, 1) := by decide +kernel
theorem dX2_chargeOne_32 : decode cX2_chargeOne 32 = .ok (.return_, 1) := by decide +kernel
theorem dX2_makeNoise_0 : decode cX2_makeNoise 0 = .ok (.aload_n 1, 1) := by decide +kernel
theorem dX2_makeNoise_1 : decode cX2_makeNoise 1 = .ok (.invokevirtual 42, 3) := by decide +kernel
theorem dX2_makeNoise_4 : decode cX2_makeNoise 4 = .ok (.istore_n 2, 1) := by decide +kernel
theorem dX2_makeNoise_5 : decode cX2_makeNoise 5 = .ok (.iconst 0, 1) := by decide +kernel
theorem dX2_makeNoise_6 : decode cX2_makeNoise 6 = .ok (.istore_n 3, 1) := by decide +kernel
theorem dX2_makeNoise_7 : decode cX2_makeNoise 7 = .ok (.iload_n 3, 1) := by decide +kernel
theorem dX2_makeNoise_8 : decode cX2_makeNoise 8 = .ok (.iload_n 2, 1) := by decide +kernel
theorem dX2_makeNoise_9 : decode cX2_makeNoise 9 = .ok (.if_icmp .ge 21, 3) := by decide +kernel
theorem dX2_makeNoise_12 : decode cX2_makeNoise 12 = .ok (.aload_n 1, 1) := by decide +kernel
theorem dX2_makeNoise_13 : decode cX2_makeNoise 13 = .ok (.getfield 49, 3) := by decide +kernel
theorem dX2_makeNoise_16 : decode cX2_makeNoise 16 = .ok (.iload_n 3, 1) := by decide +kernel
theorem dX2_makeNoise_17 : decode cX2_makeNoise 17 = .ok (.aload_n 0, 1) := by decide +kernel
theorem dX2_makeNoise_18 : decode cX2_makeNoise 18 = .ok (.bipush 30, 2) := by decide +kernel
theorem dX2_makeNoise_20 : decode cX2_makeNoise 20 = .ok (.invokevirtual 17, 3) := by decide +kernel
theorem dX2_makeNoise_23 : decode cX2_makeNoise 23 = .ok (.iastore, 1) := by decide +kernel
theorem dX2_makeNoise_24 : decode cX2_makeNoise 24 = .ok (.iinc 3 1, 3) := by decide +kernel
theorem dX2_makeNoise_27 : decode cX2_makeNoise 27 = .ok (.goto (-20), 3) := by decide +kernel
theorem dX2_makeNoise_30 : decode cX2_makeNoise 30 = .ok (.return_, 1) := by decide +kernel
theorem dX3_init_0 : decode cX3_init 0 = .ok (.aload_n 0, 1) := by decide +kernel
theorem dX3_init_1 : decode cX3_init 1 = .ok (.invokespecial 3, 3) := by decide +kernel
theorem dX3_init_4 : decode cX3_init 4 = .ok (.aload_n 0, 1) := by decide +kernel
theorem dX3_init_5 : decode cX3_init 5 = .ok (.bipush 36, 2) := by decide +kernel
theorem dX3_init_7 : decode cX3_init 7 = .ok (.newarray .int, 2) := by decide +kernel
theorem dX3_init_9 : decode cX3_init 9 = .ok (.putfield 9, 3) := by decide +kernel
theorem dX3_init_12 : decode cX3_init 12 = .ok (.aload_n 0, 1) := by decide +kernel
theorem dX3_init_13 : decode cX3_init 13 = .ok (.sipush 448, 3) := by decide +kernel
theorem dX3_init_16 : decode cX3_init 16 = .ok (.newarray .int, 2) := by decide +kernel
theorem dX3_init_18 : decode cX3_init 18 = .ok (.putfield 15, 3) := by decide +kernel
theorem dX3_init_21 : decode cX3_init 21 = .ok (.aload_n 0, 1) := by decide +kernel
theorem dX3_init_22 : decode cX3_init 22 = .ok (.bipush 6, 2) := by decide +kernel
theorem dX3_init_24 : decode cX3_init 24 = .ok (.newarray .int, 2) := by decide +kernel
theorem dX3_init_26 : decode cX3_init 26 = .ok (.putfield 18, 3) := by decide +kernel
theorem dX3_init_29 : decode cX3_init 29 = .ok (.aload_n 0, 1) := by decide +kernel
theorem dX3_init_30 : decode cX3_init 30 = .ok (.iconst 0, 1) := by decide +kernel
theorem dX3_init_31 : decode cX3_init 31 = .ok (.putfield 21, 3) := by decide +kernel
theorem dX3_init_34 : decode cX3_init 34 = .ok (.aload_n 0, 1) := by decide +kernel
theorem dX3_init_35 : decode cX3_init 35 = .ok (.iconst 0, 1) := by decide +kernel
theorem dX3_init_36 : decode cX3_init 36 = .ok (.putfield 25, 3) := by decide +kernel
theorem dX3_init_39 : decode cX3_init 39 = .ok (.aload_n 0, 1) := by decide +kernel
theorem dX3_init_40 : decode cX3_init 40 = .ok (.iconst 0, 1) := by decide +kernel
theorem dX3_init_41 : decode cX3_init 41 = .ok (.putfield 28, 3) := by decide +kernel
theorem dX3_init_44 : decode cX3_init 44 = .ok (.aload_n 0, 1) := by decide +kernel
theorem dX3_init_45 : decode cX3_init 45 = .ok (.iconst 0, 1) := by decide +kernel
theorem dX3_init_46 : decode cX3_init 46 = .ok (.putfield 31, 3) := by decide +kernel
theorem dX3_init_49 : decode cX3_init 49 = .ok (.aload_n 0, 1) := by decide +kernel
theorem dX3_init_50 : decode cX3_init 50 = .ok (.iconst 0, 1) := by decide +kernel
theorem dX3_init_51 : decode cX3_init 51 = .ok (.putfield 34, 3) := by decide +kernel
theorem dX3_init_54 : decode cX3_init 54 = .ok (.return_, 1) := by decide +kernel
theorem dX3_contactOf_0 : decode cX3_contactOf 0 = .ok (.iload_n 1, 1) := by decide +kernel
theorem dX3_contactOf_1 : decode cX3_contactOf 1 = .ok (.iconst 0, 1) := by decide +kernel
theorem dX3_contactOf_2 : decode cX3_contactOf 2 = .ok (.aload_n 0, 1) := by decide +kernel
theorem dX3_contactOf_3 : decode cX3_contactOf 3 = .ok (.getfield 21, 3) := by decide +kernel
theorem dX3_contactOf_6 : decode cX3_contactOf 6 = .ok (.iconst 1, 1) := by decide +kernel
theorem dX3_contactOf_7 : decode cX3_contactOf 7 = .ok (.isub, 1) := by decide +kernel
theorem dX3_contactOf_8 : decode cX3_contactOf 8 = .ok (.invokestatic 37, 3) := by decide +kernel
theorem dX3_contactOf_11 : decode cX3_contactOf 11 = .ok (.ifCond .eq 12, 3) := by decide +kernel
theorem dX3_contactOf_14 : decode cX3_contactOf 14 = .ok (.aload_n 0, 1) := by decide +kernel
theorem dX3_contactOf_15 : decode cX3_contactOf 15 = .ok (.getfield 18, 3) := by decide +kernel
theorem dX3_contactOf_18 : decode cX3_contactOf 18 = .ok (.iload_n 1, 1) := by decide +kernel
theorem dX3_contactOf_19 : decode cX3_contactOf 19 = .ok (.iaload, 1) := by decide +kernel
theorem dX3_contactOf_20 : decode cX3_contactOf 20 = .ok (.goto 4, 3) := by decide +kernel
theorem dX3_contactOf_23 : decode cX3_contactOf 23 = .ok (.iconst (-1), 1) := by decide +kernel
theorem dX3_contactOf_24 : decode cX3_contactOf 24 = .ok (.ireturn, 1) := by decide +kernel
theorem dX3_isTaken_0 : decode cX3_isTaken 0 = .ok (.aload_n 0, 1) := by decide +kernel
theorem dX3_isTaken_1 : decode cX3_isTaken 1 = .ok (.getfield 31, 3) := by decide +kernel
theorem dX3_isTaken_4 : decode cX3_isTaken 4 = .ok (.iconst 1, 1) := by decide +kernel
theorem dX3_isTaken_5 : decode cX3_isTaken 5 = .ok (.iload_n 1, 1) := by decide +kernel
theorem dX3_isTaken_6 : decode cX3_isTaken 6 = .ok (.ishl, 1) := by decide +kernel
theorem dX3_isTaken_7 : decode cX3_isTaken 7 = .ok (.iand, 1) := by decide +kernel
theorem dX3_isTaken_8 : decode cX3_isTaken 8 = .ok (.ifCond .eq 7, 3) := by decide +kernel
theorem dX3_isTaken_11 : decode cX3_isTaken 11 = .ok (.iconst 1, 1) := by decide +kernel
theorem dX3_isTaken_12 : decode cX3_isTaken 12 = .ok (.goto 4, 3) := by decide +kernel
theorem dX3_isTaken_15 : decode cX3_isTaken 15 = .ok (.iconst 0, 1) := by decide +kernel
theorem dX3_isTaken_16 : decode cX3_isTaken 16 = .ok (.ireturn, 1) := by decide +kernel
theorem dX3_wayOf_0 : decode cX3_wayOf 0 = .ok (.aload_n 0, 1) := by decide +kernel
theorem dX3_wayOf_1 : decode cX3_wayOf 1 = .ok (.getfield 9, 3) := by decide +kernel
theorem dX3_wayOf_4 : decode cX3_wayOf 4 = .ok (.iload_n 1, 1) := by decide +kernel
theorem dX3_wayOf_5 : decode cX3_wayOf 5 = .ok (.bipush 6, 2) := by decide +kernel
theorem dX3_wayOf_7 : decode cX3_wayOf 7 = .ok (.imul, 1) := by decide +kernel
theorem dX3_wayOf_8 : decode cX3_wayOf 8 = .ok (.iload_n 2, 1) := by decide +kernel
theorem dX3_wayOf_9 : decode cX3_wayOf 9 = .ok (.iadd, 1) := by decide +kernel
theorem dX3_wayOf_10 : decode cX3_wayOf 10 = .ok (.iaload, 1) := by decide +kernel
theorem dX3_wayOf_11 : decode cX3_wayOf 11 = .ok (.ireturn, 1) := by decide +kernel
theorem dX3_measure_0 : decode cX3_measure 0 = .ok (.aload_n 0, 1) := by decide +kernel
theorem dX3_measure_1 : decode cX3_measure 1 = .ok (.aload_n 1, 1) := by decide +kernel
theorem dX3_measure_2 : decode cX3_measure 2 = .ok (.getfield 41, 3) := by decide +kernel
theorem dX3_measure_5 : decode cX3_measure 5 = .ok (.putfield 21, 3) := by decide +kernel
theorem dX3_measure_8 : decode cX3_measure 8 = .ok (.aload_n 0, 1) := by decide +kernel
theorem dX3_measure_9 : decode cX3_measure 9 = .ok (.aload_n 2, 1) := by decide +kernel
theorem dX3_measure_10 : decode cX3_measure 10 = .ok (.getfield 46, 3) := by decide +kernel
theorem dX3_measure_13 : decode cX3_measure 13 = .ok (.putfield 25, 3) := by decide +kernel
theorem dX3_measure_16 : decode cX3_measure 16 = .ok (.aload_n 0, 1) := by decide +kernel
theorem dX3_measure_17 : decode cX3_measure 17 = .ok (.iload 4, 2) := by decide +kernel
theorem dX3_measure_19 : decode cX3_measure 19 = .ok (.putfield 28, 3) := by decide +kernel
theorem dX3_measure_22 : decode cX3_measure 22 = .ok (.iconst 0, 1) := by decide +kernel
theorem dX3_measure_23 : decode cX3_measure 23 = .ok (.istore 5, 2) := by decide +kernel
theorem dX3_measure_25 : decode cX3_measure 25 = .ok (.iload 5, 2) := by decide +kernel
theorem dX3_measure_27 : decode cX3_measure 27 = .ok (.aload_n 0, 1) := by decide +kernel
theorem dX3_measure_28 : decode cX3_measure 28 = .ok (.getfield 21, 3) := by decide +kernel
theorem dX3_measure_31 : decode cX3_measure 31 = .ok (.if_icmp .ge 58, 3) := by decide +kernel
theorem dX3_measure_34 : decode cX3_measure 34 = .ok (.iconst 0, 1) := by decide +kernel
theorem dX3_measure_35 : decode cX3_measure 35 = .ok (.istore 6, 2) := by decide +kernel
theorem dX3_measure_37 : decode cX3_measure 37 = .ok (.iload 6, 2) := by decide +kernel
theorem dX3_measure_39 : decode cX3_measure 39 = .ok (.aload_n 0, 1) := by decide +kernel
theorem dX3_measure_40 : decode cX3_measure 40 = .ok (.getfield 25, 3) := by decide +kernel
theorem dX3_measure_43 : decode cX3_measure 43 = .ok (.if_icmp .ge 40, 3) := by decide +kernel
theorem dX3_measure_46 : decode cX3_measure 46 = .ok (.aload_n 0, 1) := by decide +kernel
theorem dX3_measure_47 : decode cX3_measure 47 = .ok (.getfield 9, 3) := by decide +kernel
theorem dX3_measure_50 : decode cX3_measure 50 = .ok (.iload 5, 2) := by decide +kernel
theorem dX3_measure_52 : decode cX3_measure 52 = .ok (.bipush 6, 2) := by decide +kernel
theorem dX3_measure_54 : decode cX3_measure 54 = .ok (.imul, 1) := by decide +kernel
theorem dX3_measure_55 : decode cX3_measure 55 = .ok (.iload 6, 2) := by decide +kernel
theorem dX3_measure_57 : decode cX3_measure 57 = .ok (.iadd, 1) := by decide +kernel
theorem dX3_measure_58 : decode cX3_measure 58 = .ok (.aload_n 1, 1) := by decide +kernel
theorem dX3_measure_59 : decode cX3_measure 59 = .ok (.getfield 49, 3) := by decide +kernel
theorem dX3_measure_62 : decode cX3_measure 62 = .ok (.iload 5, 2) := by decide +kernel
theorem dX3_measure_64 : decode cX3_measure 64 = .ok (.iaload, 1) := by decide +kernel
theorem dX3_measure_65 : decode cX3_measure 65 = .ok (.aload_n 2, 1) := by decide +kernel
theorem dX3_measure_66 : decode cX3_measure 66 = .ok (.getfield 52, 3) := by decide +kernel
theorem dX3_measure_69 : decode cX3_measure 69 = .ok (.iload 6, 2) := by decide +kernel
theorem dX3_measure_71 : decode cX3_measure 71 = .ok (.iaload, 1) := by decide +kernel
theorem dX3_measure_72 : decode cX3_measure 72 = .ok (.iload_n 3, 1) := by decide +kernel
theorem dX3_measure_73 : decode cX3_measure 73 = .ok (.invokestatic 55, 3) := by decide +kernel
theorem dX3_measure_76 : decode cX3_measure 76 = .ok (.iastore, 1) := by decide +kernel
theorem dX3_measure_77 : decode cX3_measure 77 = .ok (.iinc 6 1, 3) := by decide +kernel
theorem dX3_measure_80 : decode cX3_measure 80 = .ok (.goto (-43), 3) := by decide +kernel
theorem dX3_measure_83 : decode cX3_measure 83 = .ok (.iinc 5 1, 3) := by decide +kernel
theorem dX3_measure_86 : decode cX3_measure 86 = .ok (.goto (-61), 3) := by decide +kernel
theorem dX3_measure_89 : decode cX3_measure 89 = .ok (.return_, 1) := by decide +kernel
theorem dX3_fillLeast_0 : decode cX3_fillLeast 0 = .ok (.aload_n 0, 1) := by decide +kernel
theorem dX3_fillLeast_1 : decode cX3_fillLeast 1 = .ok (.getfield 28, 3) := by decide +kernel
theorem dX3_fillLeast_4 : decode cX3_fillLeast 4 = .ok (.iconst 1, 1) := by decide +kernel
theorem dX3_fillLeast_5 : decode cX3_fillLeast 5 = .ok (.iadd, 1) := by decide +kernel
theorem dX3_fillLeast_6 : decode cX3_fillLeast 6 = .ok (.istore_n 1, 1) := by decide +kernel
theorem dX3_fillLeast_7 : decode cX3_fillLeast 7 = .ok (.iconst 1, 1) := by decide +kernel
theorem dX3_fillLeast_8 : decode cX3_fillLeast 8 = .ok (.aload_n 0, 1) := by decide +kernel
theorem dX3_fillLeast_9 : decode cX3_fillLeast 9 = .ok (.getfield 25, 3) := by decide +kernel
theorem dX3_fillLeast_12 : decode cX3_fillLeast 12 = .ok (.ishl, 1) := by decide +kernel
theorem dX3_fillLeast_13 : decode cX3_fillLeast 13 = .ok (.istore_n 2, 1) := by decide +kernel
theorem dX3_fillLeast_14 : decode cX3_fillLeast 14 = .ok (.iconst 0, 1) := by decide +kernel
theorem dX3_fillLeast_15 : decode cX3_fillLeast 15 = .ok (.istore_n 3, 1) := by decide +kernel
theorem dX3_fillLeast_16 : decode cX3_fillLeast 16 = .ok (.iload_n 3, 1) := by decide +kernel
theorem dX3_fillLeast_17 : decode cX3_fillLeast 17 = .ok (.iload_n 2, 1) := by decide +kernel
theorem dX3_fillLeast_18 : decode cX3_fillLeast 18 = .ok (.if_icmp .ge 34, 3) := by decide +kernel
theorem dX3_fillLeast_21 : decode cX3_fillLeast 21 = .ok (.aload_n 0, 1) := by decide +kernel
theorem dX3_fillLeast_22 : decode cX3_fillLeast 22 = .ok (.getfield 15, 3) := by decide +kernel
theorem dX3_fillLeast_25 : decode cX3_fillLeast 25 = .ok (.aload_n 0, 1) := by decide +kernel
theorem dX3_fillLeast_26 : decode cX3_fillLeast 26 = .ok (.getfield 21, 3) := by decide +kernel
theorem dX3_fillLeast_29 : decode cX3_fillLeast 29 = .ok (.bipush 64, 2) := by decide +kernel
theorem dX3_fillLeast_31 : decode cX3_fillLeast 31 = .ok (.imul, 1) := by decide +kernel
theorem dX3_fillLeast_32 : decode cX3_fillLeast 32 = .ok (.iload_n 3, 1) := by decide +kernel
theorem dX3_fillLeast_33 : decode cX3_fillLeast 33 = .ok (.iadd, 1) := by decide +kernel
theorem dX3_fillLeast_34 : decode cX3_fillLeast 34 = .ok (.iload_n 1, 1) := by decide +kernel
theorem dX3_fillLeast_35 : decode cX3_fillLeast 35 = .ok (.aload_n 0, 1) := by decide +kernel
theorem dX3_fillLeast_36 : decode cX3_fillLeast 36 = .ok (.getfield 25, 3) := by decide +kernel
theorem dX3_fillLeast_39 : decode cX3_fillLeast 39 = .ok (.iload_n 3, 1) := by decide +kernel
theorem dX3_fillLeast_40 : decode cX3_fillLeast 40 = .ok (.invokestatic 59, 3) := by decide +kernel
theorem dX3_fillLeast_43 : decode cX3_fillLeast 43 = .ok (.isub, 1) := by decide +kernel
theorem dX3_fillLeast_44 : decode cX3_fillLeast 44 = .ok (.imul, 1) := by decide +kernel
theorem dX3_fillLeast_45 : decode cX3_fillLeast 45 = .ok (.iastore, 1) := by decide +kernel
theorem dX3_fillLeast_46 : decode cX3_fillLeast 46 = .ok (.iinc 3 1, 3) := by decide +kernel
theorem dX3_fillLeast_49 : decode cX3_fillLeast 49 = .ok (.goto (-33), 3) := by decide +kernel
theorem dX3_fillLeast_52 : decode cX3_fillLeast 52 = .ok (.aload_n 0, 1) := by decide +kernel
theorem dX3_fillLeast_53 : decode cX3_fillLeast 53 = .ok (.getfield 21, 3) := by decide +kernel
theorem dX3_fillLeast_56 : decode cX3_fillLeast 56 = .ok (.iconst 1, 1) := by decide +kernel
theorem dX3_fillLeast_57 : decode cX3_fillLeast 57 = .ok (.isub, 1) := by decide +kernel
theorem dX3_fillLeast_58 : decode cX3_fillLeast 58 = .ok (.istore_n 3, 1) := by decide +kernel
theorem dX3_fillLeast_59 : decode cX3_fillLeast 59 = .ok (.iload_n 3, 1) := by decide +kernel
theorem dX3_fillLeast_60 : decode cX3_fillLeast 60 = .ok (.ifCond .lt 52, 3) := by decide +kernel
theorem dX3_fillLeast_63 : decode cX3_fillLeast 63 = .ok (.iconst 0, 1) := by decide +kernel
theorem dX3_fillLeast_64 : decode cX3_fillLeast 64 = .ok (.istore 4, 2) := by decide +kernel
theorem dX3_fillLeast_66 : decode cX3_fillLeast 66 = .ok (.iload 4, 2) := by decide +kernel
theorem dX3_fillLeast_68 : decode cX3_fillLeast 68 = .ok (.iload_n 2, 1) := by decide +kernel
theorem dX3_fillLeast_69 : decode cX3_fillLeast 69 = .ok (.if_icmp .ge 37, 3) := by decide +kernel
theorem dX3_fillLeast_72 : decode cX3_fillLeast 72 = .ok (.iload 4, 2) := by decide +kernel
theorem dX3_fillLeast_74 : decode cX3_fillLeast 74 = .ok (.invokestatic 59, 3) := by decide +kernel
theorem dX3_fillLeast_77 : decode cX3_fillLeast 77 = .ok (.iload_n 3, 1) := by decide +kernel
theorem dX3_fillLeast_78 : decode cX3_fillLeast 78 = .ok (.if_icmp .gt 22, 3) := by decide +kernel
theorem dX3_fillLeast_81 : decode cX3_fillLeast 81 = .ok (.aload_n 0, 1) := by decide +kernel
theorem dX3_fillLeast_82 : decode cX3_fillLeast 82 = .ok (.getfield 15, 3) := by decide +kernel
theorem dX3_fillLeast_85 : decode cX3_fillLeast 85 = .ok (.iload_n 3, 1) := by decide +kernel
theorem dX3_fillLeast_86 : decode cX3_fillLeast 86 = .ok (.bipush 64, 2) := by decide +kernel
theorem dX3_fillLeast_88 : decode cX3_fillLeast 88 = .ok (.imul, 1) := by decide +kernel
theorem dX3_fillLeast_89 : decode cX3_fillLeast 89 = .ok (.iload 4, 2) := by decide +kernel
theorem dX3_fillLeast_91 : decode cX3_fillLeast 91 = .ok (.iadd, 1) := by decide +kernel
theorem dX3_fillLeast_92 : decode cX3_fillLeast 92 = .ok (.aload_n 0, 1) := by decide +kernel
theorem dX3_fillLeast_93 : decode cX3_fillLeast 93 = .ok (.iload_n 3, 1) := by decide +kernel
theorem dX3_fillLeast_94 : decode cX3_fillLeast 94 = .ok (.iload 4, 2) := by decide +kernel
theorem dX3_fillLeast_96 : decode cX3_fillLeast 96 = .ok (.invokevirtual 65, 3) := by decide +kernel
theorem dX3_fillLeast_99 : decode cX3_fillLeast 99 = .ok (.iastore, 1) := by decide +kernel
theorem dX3_fillLeast_100 : decode cX3_fillLeast 100 = .ok (.iinc 4 1, 3) := by decide +kernel
theorem dX3_fillLeast_103 : decode cX3_fillLeast 103 = .ok (.goto (-37), 3) := by decide +kernel
theorem dX3_fillLeast_106 : decode cX3_fillLeast 106 = .ok (.iinc 3 (-1), 3) := by decide +kernel
theorem dX3_fillLeast_109 : decode cX3_fillLeast 109 = .ok (.goto (-50), 3) := by decide +kernel
theorem dX3_fillLeast_112 : decode cX3_fillLeast 112 = .ok (.return_, 1) := by decide +kernel
theorem dX3_leastFrom_0 : decode cX3_leastFrom 0 = .ok (.aload_n 0, 1) := by decide +kernel
theorem dX3_leastFrom_1 : decode cX3_leastFrom 1 = .ok (.getfield 28, 3) := by decide +kernel
theorem dX3_leastFrom_4 : decode cX3_leastFrom 4 = .ok (.iconst 1, 1) := by decide +kernel
theorem dX3_leastFrom_5 : decode cX3_leastFrom 5 = .ok (.iadd, 1) := by decide +kernel
theorem dX3_leastFrom_6 : decode cX3_leastFrom 6 = .ok (.aload_n 0, 1) := by decide +kernel
theorem dX3_leastFrom_7 : decode cX3_leastFrom 7 = .ok (.getfield 15, 3) := by decide +kernel
theorem dX3_leastFrom_10 : decode cX3_leastFrom 10 = .ok (.iload_n 1, 1) := by decide +kernel
theorem dX3_leastFrom_11 : decode cX3_leastFrom 11 = .ok (.iconst 1, 1) := by decide +kernel
theorem dX3_leastFrom_12 : decode cX3_leastFrom 12 = .ok (.iadd, 1) := by decide +kernel
theorem dX3_leastFrom_13 : decode cX3_leastFrom 13 = .ok (.bipush 64, 2) := by decide +kernel
theorem dX3_leastFrom_15 : decode cX3_leastFrom 15 = .ok (.imul, 1) := by decide +kernel
theorem dX3_leastFrom_16 : decode cX3_leastFrom 16 = .ok (.iload_n 2, 1) := by decide +kernel
theorem dX3_leastFrom_17 : decode cX3_leastFrom 17 = .ok (.iadd, 1) := by decide +kernel
theorem dX3_leastFrom_18 : decode cX3_leastFrom 18 = .ok (.iaload, 1) := by decide +kernel
theorem dX3_leastFrom_19 : decode cX3_leastFrom 19 = .ok (.iadd, 1) := by decide +kernel
theorem dX3_leastFrom_20 : decode cX3_leastFrom 20 = .ok (.istore_n 3, 1) := by decide +kernel
theorem dX3_leastFrom_21 : decode cX3_leastFrom 21 = .ok (.iconst 0, 1) := by decide +kernel
theorem dX3_leastFrom_22 : decode cX3_leastFrom 22 = .ok (.istore 4, 2) := by decide +kernel
theorem dX3_leastFrom_24 : decode cX3_leastFrom 24 = .ok (.iload 4, 2) := by decide +kernel
theorem dX3_leastFrom_26 : decode cX3_leastFrom 26 = .ok (.aload_n 0, 1) := by decide +kernel
theorem dX3_leastFrom_27 : decode cX3_leastFrom 27 = .ok (.getfield 25, 3) := by decide +kernel
theorem dX3_leastFrom_30 : decode cX3_leastFrom 30 = .ok (.if_icmp .ge 22, 3) := by decide +kernel
theorem dX3_leastFrom_33 : decode cX3_leastFrom 33 = .ok (.iload_n 3, 1) := by decide +kernel
theorem dX3_leastFrom_34 : decode cX3_leastFrom 34 = .ok (.aload_n 0, 1) := by decide +kernel
theorem dX3_leastFrom_35 : decode cX3_leastFrom 35 = .ok (.iload_n 1, 1) := by decide +kernel
theorem dX3_leastFrom_36 : decode cX3_leastFrom 36 = .ok (.iload 4, 2) := by decide +kernel
theorem dX3_leastFrom_38 : decode cX3_leastFrom 38 = .ok (.iload_n 2, 1) := by decide +kernel
theorem dX3_leastFrom_39 : decode cX3_leastFrom 39 = .ok (.invokevirtual 69, 3) := by decide +kernel
theorem dX3_leastFrom_42 : decode cX3_leastFrom 42 = .ok (.invokestatic 72, 3) := by decide +kernel
theorem dX3_leastFrom_45 : decode cX3_leastFrom 45 = .ok (.istore_n 3, 1) := by decide +kernel
theorem dX3_leastFrom_46 : decode cX3_leastFrom 46 = .ok (.iinc 4 1, 3) := by decide +kernel
theorem dX3_leastFrom_49 : decode cX3_leastFrom 49 = .ok (.goto (-25), 3) := by decide +kernel
theorem dX3_leastFrom_52 : decode cX3_leastFrom 52 = .ok (.iload_n 3, 1) := by decide +kernel
theorem dX3_leastFrom_53 : decode cX3_leastFrom 53 = .ok (.ireturn, 1) := by decide +kernel
theorem dX3_costWith_0 : decode cX3_costWith 0 = .ok (.aload_n 0, 1) := by decide +kernel
theorem dX3_costWith_1 : decode cX3_costWith 1 = .ok (.getfield 9, 3) := by decide +kernel
theorem dX3_costWith_4 : decode cX3_costWith 4 = .ok (.iload_n 1, 1) := by decide +kernel
theorem dX3_costWith_5 : decode cX3_costWith 5 = .ok (.bipush 6, 2) := by decide +kernel
theorem dX3_costWith_7 : decode cX3_costWith 7 = .ok (.imul, 1) := by decide +kernel
theorem dX3_costWith_8 : decode cX3_costWith 8 = .ok (.iload_n 2, 1) := by decide +kernel
theorem dX3_costWith_9 : decode cX3_costWith 9 = .ok (.iadd, 1) := by decide +kernel
theorem dX3_costWith_10 : decode cX3_costWith 10 = .ok (.iaload, 1) := by decide +kernel
theorem dX3_costWith_11 : decode cX3_costWith 11 = .ok (.istore 4, 2) := by decide +kernel
theorem dX3_costWith_13 : decode cX3_costWith 13 = .ok (.iload_n 3, 1) := by decide +kernel
theorem dX3_costWith_14 : decode cX3_costWith 14 = .ok (.iconst 1, 1) := by decide +kernel
theorem dX3_costWith_15 : decode cX3_costWith 15 = .ok (.iload_n 2, 1) := by decide +kernel
theorem dX3_costWith_16 : decode cX3_costWith 16 = .ok (.ishl, 1) := by decide +kernel
theorem dX3_costWith_17 : decode cX3_costWith 17 = .ok (.iand, 1) := by decide +kernel
theorem dX3_costWith_18 : decode cX3_costWith 18 = .ok (.ifCond .ne 12, 3) := by decide +kernel
theorem dX3_costWith_21 : decode cX3_costWith 21 = .ok (.iload 4, 2) := by decide +kernel
theorem dX3_costWith_23 : decode cX3_costWith 23 = .ok (.aload_n 0, 1) := by decide +kernel
theorem dX3_costWith_24 : decode cX3_costWith 24 = .ok (.getfield 28, 3) := by decide +kernel
theorem dX3_costWith_27 : decode cX3_costWith 27 = .ok (.if_icmp .le 6, 3) := by decide +kernel
theorem dX3_costWith_30 : decode cX3_costWith 30 = .ok (.ldc 77, 2) := by decide +kernel
theorem dX3_costWith_32 : decode cX3_costWith 32 = .ok (.ireturn, 1) := by decide +kernel
theorem dX3_costWith_33 : decode cX3_costWith 33 = .ok (.iload 4, 2) := by decide +kernel
theorem dX3_costWith_35 : decode cX3_costWith 35 = .ok (.aload_n 0, 1) := by decide +kernel
theorem dX3_costWith_36 : decode cX3_costWith 36 = .ok (.getfield 15, 3) := by decide +kernel
theorem dX3_costWith_39 : decode cX3_costWith 39 = .ok (.iload_n 1, 1) := by decide +kernel
theorem dX3_costWith_40 : decode cX3_costWith 40 = .ok (.iconst 1, 1) := by decide +kernel
theorem dX3_costWith_41 : decode cX3_costWith 41 = .ok (.iadd, 1) := by decide +kernel
theorem dX3_costWith_42 : decode cX3_costWith 42 = .ok (.bipush 64, 2) := by decide +kernel
theorem dX3_costWith_44 : decode cX3_costWith 44 = .ok (.imul, 1) := by decide +kernel
theorem dX3_costWith_45 : decode cX3_costWith 45 = .ok (.iload_n 3, 1) := by decide +kernel
theorem dX3_costWith_46 : decode cX3_costWith 46 = .ok (.iconst 1, 1) := by decide +kernel
theorem dX3_costWith_47 : decode cX3_costWith 47 = .ok (.iload_n 2, 1) := by decide +kernel
theorem dX3_costWith_48 : decode cX3_costWith 48 = .ok (.ishl, 1) := by decide +kernel
theorem dX3_costWith_49 : decode cX3_costWith 49 = .ok (.ior, 1) := by decide +kernel
theorem dX3_costWith_50 : decode cX3_costWith 50 = .ok (.iadd, 1) := by decide +kernel
theorem dX3_costWith_51 : decode cX3_costWith 51 = .ok (.iaload, 1) := by decide +kernel
theorem dX3_costWith_52 : decode cX3_costWith 52 = .ok (.iadd, 1) := by decide +kernel
theorem dX3_costWith_53 : decode cX3_costWith 53 = .ok (.ireturn, 1) := by decide +kernel
theorem dX3_chooseFirst_0 : decode cX3_chooseFirst 0 = .ok (.aload_n 0, 1) := by decide +kernel
theorem dX3_chooseFirst_1 : decode cX3_chooseFirst 1 = .ok (.iconst 0, 1) := by decide +kernel
theorem dX3_chooseFirst_2 : decode cX3_chooseFirst 2 = .ok (.putfield 31, 3) := by decide +kernel
theorem dX3_chooseFirst_5 : decode cX3_chooseFirst 5 = .ok (.aload_n 0, 1) := by decide +kernel
theorem dX3_chooseFirst_6 : decode cX3_chooseFirst 6 = .ok (.aload_n 0, 1) := by decide +kernel
theorem dX3_chooseFirst_7 : decode cX3_chooseFirst 7 = .ok (.getfield 15, 3) := by decide +kernel
theorem dX3_chooseFirst_10 : decode cX3_chooseFirst 10 = .ok (.iconst 0, 1) := by decide +kernel
theorem dX3_chooseFirst_11 : decode cX3_chooseFirst 11 = .ok (.iaload, 1) := by decide +kernel
theorem dX3_chooseFirst_12 : decode cX3_chooseFirst 12 = .ok (.putfield 34, 3) := by decide +kernel
theorem dX3_chooseFirst_15 : decode cX3_chooseFirst 15 = .ok (.iconst 0, 1) := by decide +kernel
theorem dX3_chooseFirst_16 : decode cX3_chooseFirst 16 = .ok (.istore_n 1, 1) := by decide +kernel
theorem dX3_chooseFirst_17 : decode cX3_chooseFirst 17 = .ok (.iload_n 1, 1) := by decide +kernel
theorem dX3_chooseFirst_18 : decode cX3_chooseFirst 18 = .ok (.aload_n 0, 1) := by decide +kernel
theorem dX3_chooseFirst_19 : decode cX3_chooseFirst 19 = .ok (.getfield 21, 3) := by decide +kernel
theorem dX3_chooseFirst_22 : decode cX3_chooseFirst 22 = .ok (.if_icmp .ge 47, 3) := by decide +kernel
theorem dX3_chooseFirst_25 : decode cX3_chooseFirst 25 = .ok (.aload_n 0, 1) := by decide +kernel
theorem dX3_chooseFirst_26 : decode cX3_chooseFirst 26 = .ok (.getfield 18, 3) := by decide +kernel
theorem dX3_chooseFirst_29 : decode cX3_chooseFirst 29 = .ok (.iload_n 1, 1) := by decide +kernel
theorem dX3_chooseFirst_30 : decode cX3_chooseFirst 30 = .ok (.aload_n 0, 1) := by decide +kernel
theorem dX3_chooseFirst_31 : decode cX3_chooseFirst 31 = .ok (.iload_n 1, 1) := by decide +kernel
theorem dX3_chooseFirst_32 : decode cX3_chooseFirst 32 = .ok (.invokevirtual 78, 3) := by decide +kernel
theorem dX3_chooseFirst_35 : decode cX3_chooseFirst 35 = .ok (.iastore, 1) := by decide +kernel
theorem dX3_chooseFirst_36 : decode cX3_chooseFirst 36 = .ok (.aload_n 0, 1) := by decide +kernel
theorem dX3_chooseFirst_37 : decode cX3_chooseFirst 37 = .ok (.getfield 18, 3) := by decide +kernel
theorem dX3_chooseFirst_40 : decode cX3_chooseFirst 40 = .ok (.iload_n 1, 1) := by decide +kernel
theorem dX3_chooseFirst_41 : decode cX3_chooseFirst 41 = .ok (.iaload, 1) := by decide +kernel
theorem dX3_chooseFirst_42 : decode cX3_chooseFirst 42 = .ok (.iconst (-1), 1) := by decide +kernel
theorem dX3_chooseFirst_43 : decode cX3_chooseFirst 43 = .ok (.if_icmp .eq 20, 3) := by decide +kernel
theorem dX3_chooseFirst_46 : decode cX3_chooseFirst 46 = .ok (.aload_n 0, 1) := by decide +kernel
theorem dX3_chooseFirst_47 : decode cX3_chooseFirst 47 = .ok (.dup, 1) := by decide +kernel
theorem dX3_chooseFirst_48 : decode cX3_chooseFirst 48 = .ok (.getfield 31, 3) := by decide +kernel
theorem dX3_chooseFirst_51 : decode cX3_chooseFirst 51 = .ok (.iconst 1, 1) := by decide +kernel
theorem dX3_chooseFirst_52 : decode cX3_chooseFirst 52 = .ok (.aload_n 0, 1) := by decide +kernel
theorem dX3_chooseFirst_53 : decode cX3_chooseFirst 53 = .ok (.getfield 18, 3) := by decide +kernel
theorem dX3_chooseFirst_56 : decode cX3_chooseFirst 56 = .ok (.iload_n 1, 1) := by decide +kernel
theorem dX3_chooseFirst_57 : decode cX3_chooseFirst 57 = .ok (.iaload, 1) := by decide +kernel
theorem dX3_chooseFirst_58 : decode cX3_chooseFirst 58 = .ok (.ishl, 1) := by decide +kernel
theorem dX3_chooseFirst_59 : decode cX3_chooseFirst 59 = .ok (.ior, 1) := by decide +kernel
theorem dX3_chooseFirst_60 : decode cX3_chooseFirst 60 = .ok (.putfield 31, 3) := by decide +kernel
theorem dX3_chooseFirst_63 : decode cX3_chooseFirst 63 = .ok (.iinc 1 1, 3) := by decide +kernel
theorem dX3_chooseFirst_66 : decode cX3_chooseFirst 66 = .ok (.goto (-49), 3) := by decide +kernel
theorem dX3_chooseFirst_69 : decode cX3_chooseFirst 69 = .ok (.return_, 1) := by decide +kernel
theorem dX3_firstOfLeast_0 : decode cX3_firstOfLeast 0 = .ok (.iconst 0, 1) := by decide +kernel
theorem dX3_firstOfLeast_1 : decode cX3_firstOfLeast 1 = .ok (.istore_n 2, 1) := by decide +kernel
theorem dX3_firstOfLeast_2 : decode cX3_firstOfLeast 2 = .ok (.iload_n 2, 1) := by decide +kernel
theorem dX3_firstOfLeast_3 : decode cX3_firstOfLeast 3 = .ok (.aload_n 0, 1) := by decide +kernel
theorem dX3_firstOfLeast_4 : decode cX3_firstOfLeast 4 = .ok (.getfield 25, 3) := by decide +kernel
theorem dX3_firstOfLeast_7 : decode cX3_firstOfLeast 7 = .ok (.if_icmp .ge 38, 3) := by decide +kernel
theorem dX3_firstOfLeast_10 : decode cX3_firstOfLeast 10 = .ok (.aload_n 0, 1) := by decide +kernel
theorem dX3_firstOfLeast_11 : decode cX3_firstOfLeast 11 = .ok (.iload_n 1, 1) := by decide +kernel
theorem dX3_firstOfLeast_12 : decode cX3_firstOfLeast 12 = .ok (.iload_n 2, 1) := by decide +kernel
theorem dX3_firstOfLeast_13 : decode cX3_firstOfLeast 13 = .ok (.aload_n 0, 1) := by decide +kernel
theorem dX3_firstOfLeast_14 : decode cX3_firstOfLeast 14 = .ok (.getfield 31, 3) := by decide +kernel
theorem dX3_firstOfLeast_17 : decode cX3_firstOfLeast 17 = .ok (.invokevirtual 69, 3) := by decide +kernel
theorem dX3_firstOfLeast_20 : decode cX3_firstOfLeast 20 = .ok (.aload_n 0, 1) := by decide +kernel
theorem dX3_firstOfLeast_21 : decode cX3_firstOfLeast 21 = .ok (.getfield 15, 3) := by decide +kernel
theorem dX3_firstOfLeast_24 : decode cX3_firstOfLeast 24 = .ok (.iload_n 1, 1) := by decide +kernel
theorem dX3_firstOfLeast_25 : decode cX3_firstOfLeast 25 = .ok (.bipush 64, 2) := by decide +kernel
theorem dX3_firstOfLeast_27 : decode cX3_firstOfLeast 27 = .ok (.imul, 1) := by decide +kernel
theorem dX3_firstOfLeast_28 : decode cX3_firstOfLeast 28 = .ok (.aload_n 0, 1) := by decide +kernel
theorem dX3_firstOfLeast_29 : decode cX3_firstOfLeast 29 = .ok (.getfield 31, 3) := by decide +kernel
theorem dX3_firstOfLeast_32 : decode cX3_firstOfLeast 32 = .ok (.iadd, 1) := by decide +kernel
theorem dX3_firstOfLeast_33 : decode cX3_firstOfLeast 33 = .ok (.iaload, 1) := by decide +kernel
theorem dX3_firstOfLeast_34 : decode cX3_firstOfLeast 34 = .ok (.if_icmp .ne 5, 3) := by decide +kernel
theorem dX3_firstOfLeast_37 : decode cX3_firstOfLeast 37 = .ok (.iload_n 2, 1) := by decide +kernel
theorem dX3_firstOfLeast_38 : decode cX3_firstOfLeast 38 = .ok (.ireturn, 1) := by decide +kernel
theorem dX3_firstOfLeast_39 : decode cX3_firstOfLeast 39 = .ok (.iinc 2 1, 3) := by decide +kernel
theorem dX3_firstOfLeast_42 : decode cX3_firstOfLeast 42 = .ok (.goto (-40), 3) := by decide +kernel
theorem dX3_firstOfLeast_45 : decode cX3_firstOfLeast 45 = .ok (.iconst (-1), 1) := by decide +kernel
theorem dX3_firstOfLeast_46 : decode cX3_firstOfLeast 46 = .ok (.ireturn, 1) := by decide +kernel
theorem dX4_init_0 : decode cX4_init 0 = .ok (.aload_n 0, 1) := by decide +kernel
theorem dX4_init_1 : decode cX4_init 1 = .ok (.invokespecial 3, 3) := by decide +kernel
theorem dX4_init_4 : decode cX4_init 4 = .ok (.aload_n 0, 1) := by decide +kernel
theorem dX4_init_5 : decode cX4_init 5 = .ok (.getstatic 9, 3) := by decide +kernel
theorem dX4_init_8 : decode cX4_init 8 = .ok (.invokevirtual 13, 3) := by decide +kernel
theorem dX4_init_11 : decode cX4_init 11 = .ok (.checkcast 14, 3) := by decide +kernel
theorem dX4_init_14 : decode cX4_init 14 = .ok (.putfield 18, 3) := by decide +kernel
theorem dX4_init_17 : decode cX4_init 17 = .ok (.aload_n 0, 1) := by decide +kernel
theorem dX4_init_18 : decode cX4_init 18 = .ok (.new 23, 3) := by decide +kernel
theorem dX4_init_21 : decode cX4_init 21 = .ok (.dup, 1) := by decide +kernel
theorem dX4_init_22 : decode cX4_init 22 = .ok (.invokespecial 25, 3) := by decide +kernel
theorem dX4_init_25 : decode cX4_init 25 = .ok (.putfield 26, 3) := by decide +kernel
theorem dX4_init_28 : decode cX4_init 28 = .ok (.aload_n 0, 1) := by decide +kernel
theorem dX4_init_29 : decode cX4_init 29 = .ok (.new 30, 3) := by decide +kernel
theorem dX4_init_32 : decode cX4_init 32 = .ok (.dup, 1) := by decide +kernel
theorem dX4_init_33 : decode cX4_init 33 = .ok (.invokespecial 32, 3) := by decide +kernel
theorem dX4_init_36 : decode cX4_init 36 = .ok (.putfield 33, 3) := by decide +kernel
theorem dX4_init_39 : decode cX4_init 39 = .ok (.aload_n 0, 1) := by decide +kernel
theorem dX4_init_40 : decode cX4_init 40 = .ok (.new 37, 3) := by decide +kernel
theorem dX4_init_43 : decode cX4_init 43 = .ok (.dup, 1) := by decide +kernel
theorem dX4_init_44 : decode cX4_init 44 = .ok (.invokespecial 39, 3) := by decide +kernel
theorem dX4_init_47 : decode cX4_init 47 = .ok (.putfield 40, 3) := by decide +kernel
theorem dX4_init_50 : decode cX4_init 50 = .ok (.aload_n 0, 1) := by decide +kernel
theorem dX4_init_51 : decode cX4_init 51 = .ok (.iconst 0, 1) := by decide +kernel
theorem dX4_init_52 : decode cX4_init 52 = .ok (.putfield 44, 3) := by decide +kernel
theorem dX4_init_55 : decode cX4_init 55 = .ok (.aload_n 0, 1) := by decide +kernel
theorem dX4_init_56 : decode cX4_init 56 = .ok (.iconst 0, 1) := by decide +kernel
theorem dX4_init_57 : decode cX4_init 57 = .ok (.putfield 48, 3) := by decide +kernel
theorem dX4_init_60 : decode cX4_init 60 = .ok (.aload_n 0, 1) := by decide +kernel
theorem dX4_init_61 : decode cX4_init 61 = .ok (.iconst 0, 1) := by decide +kernel
theorem dX4_init_62 : decode cX4_init 62 = .ok (.putfield 51, 3) := by decide +kernel
theorem dX4_init_65 : decode cX4_init 65 = .ok (.return_, 1) := by decide +kernel
theorem dX4_beginAnew_0 : decode cX4_beginAnew 0 = .ok (.aload_n 0, 1) := by decide +kernel
theorem dX4_beginAnew_1 : decode cX4_beginAnew 1 = .ok (.getfield 26, 3) := by decide +kernel
theorem dX4_beginAnew_4 : decode cX4_beginAnew 4 = .ok (.iload_n 1, 1) := by decide +kernel
theorem dX4_beginAnew_5 : decode cX4_beginAnew 5 = .ok (.iload_n 2, 1) := by decide +kernel
theorem dX4_beginAnew_6 : decode cX4_beginAnew 6 = .ok (.invokevirtual 54, 3) := by decide +kernel
theorem dX4_beginAnew_9 : decode cX4_beginAnew 9 = .ok (.aload_n 0, 1) := by decide +kernel
theorem dX4_beginAnew_10 : decode cX4_beginAnew 10 = .ok (.getfield 33, 3) := by decide +kernel
theorem dX4_beginAnew_13 : decode cX4_beginAnew 13 = .ok (.invokevirtual 58, 3) := by decide +kernel
theorem dX4_beginAnew_16 : decode cX4_beginAnew 16 = .ok (.aload_n 0, 1) := by decide +kernel
theorem dX4_beginAnew_17 : decode cX4_beginAnew 17 = .ok (.getfield 40, 3) := by decide +kernel
theorem dX4_beginAnew_20 : decode cX4_beginAnew 20 = .ok (.invokevirtual 61, 3) := by decide +kernel
theorem dX4_beginAnew_23 : decode cX4_beginAnew 23 = .ok (.aload_n 0, 1) := by decide +kernel
theorem dX4_beginAnew_24 : decode cX4_beginAnew 24 = .ok (.iconst 0, 1) := by decide +kernel
theorem dX4_beginAnew_25 : decode cX4_beginAnew 25 = .ok (.putfield 44, 3) := by decide +kernel
theorem dX4_beginAnew_28 : decode cX4_beginAnew 28 = .ok (.aload_n 0, 1) := by decide +kernel
theorem dX4_beginAnew_29 : decode cX4_beginAnew 29 = .ok (.iconst 0, 1) := by decide +kernel
theorem dX4_beginAnew_30 : decode cX4_beginAnew 30 = .ok (.putfield 48, 3) := by decide +kernel
theorem dX4_beginAnew_33 : decode cX4_beginAnew 33 = .ok (.aload_n 0, 1) := by decide +kernel
theorem dX4_beginAnew_34 : decode cX4_beginAnew 34 = .ok (.iconst 0, 1) := by decide +kernel
theorem dX4_beginAnew_35 : decode cX4_beginAnew 35 = .ok (.putfield 51, 3) := by decide +kernel
theorem dX4_beginAnew_38 : decode cX4_beginAnew 38 = .ok (.return_, 1) := by decide +kernel
theorem dX4_copyFrom_0 : decode cX4_copyFrom 0 = .ok (.aload_n 1, 1) := by decide +kernel
theorem dX4_copyFrom_1 : decode cX4_copyFrom 1 = .ok (.getfield 18, 3) := by decide +kernel
theorem dX4_copyFrom_4 : decode cX4_copyFrom 4 = .ok (.iconst 0, 1) := by decide +kernel
theorem dX4_copyFrom_5 : decode cX4_copyFrom 5 = .ok (.aload_n 0, 1) := by decide +kernel
theorem dX4_copyFrom_6 : decode cX4_copyFrom 6 = .ok (.getfield 18, 3) := by decide +kernel
theorem dX4_copyFrom_9 : decode cX4_copyFrom 9 = .ok (.iconst 0, 1) := by decide +kernel
theorem dX4_copyFrom_10 : decode cX4_copyFrom 10 = .ok (.aload_n 0, 1) := by decide +kernel
theorem dX4_copyFrom_11 : decode cX4_copyFrom 11 = .ok (.getfield 18, 3) := by decide +kernel
theorem dX4_copyFrom_14 : decode cX4_copyFrom 14 = .ok (.arraylength, 1) := by decide +kernel
theorem dX4_copyFrom_15 : decode cX4_copyFrom 15 = .ok (.invokestatic 62, 3) := by decide +kernel
theorem dX4_copyFrom_18 : decode cX4_copyFrom 18 = .ok (.aload_n 0, 1) := by decide +kernel
theorem dX4_copyFrom_19 : decode cX4_copyFrom 19 = .ok (.getfield 26, 3) := by decide +kernel
theorem dX4_copyFrom_22 : decode cX4_copyFrom 22 = .ok (.aload_n 1, 1) := by decide +kernel
theorem dX4_copyFrom_23 : decode cX4_copyFrom 23 = .ok (.getfield 26, 3) := by decide +kernel
theorem dX4_copyFrom_26 : decode cX4_copyFrom 26 = .ok (.invokevirtual 68, 3) := by decide +kernel
theorem dX4_copyFrom_29 : decode cX4_copyFrom 29 = .ok (.aload_n 0, 1) := by decide +kernel
theorem dX4_copyFrom_30 : decode cX4_copyFrom 30 = .ok (.getfield 33, 3) := by decide +kernel
theorem dX4_copyFrom_33 : decode cX4_copyFrom 33 = .ok (.aload_n 1, 1) := by decide +kernel
theorem dX4_copyFrom_34 : decode cX4_copyFrom 34 = .ok (.getfield 33, 3) := by decide +kernel
theorem dX4_copyFrom_37 : decode cX4_copyFrom 37 = .ok (.invokevirtual 72, 3) := by decide +kernel
theorem dX4_copyFrom_40 : decode cX4_copyFrom 40 = .ok (.aload_n 0, 1) := by decide +kernel
theorem dX4_copyFrom_41 : decode cX4_copyFrom 41 = .ok (.getfield 40, 3) := by decide +kernel
theorem dX4_copyFrom_44 : decode cX4_copyFrom 44 = .ok (.aload_n 1, 1) := by decide +kernel
theorem dX4_copyFrom_45 : decode cX4_copyFrom 45 = .ok (.getfield 40, 3) := by decide +kernel
theorem dX4_copyFrom_48 : decode cX4_copyFrom 48 = .ok (.invokevirtual 75, 3) := by decide +kernel
theorem dX4_copyFrom_51 : decode cX4_copyFrom 51 = .ok (.aload_n 0, 1) := by decide +kernel
theorem dX4_copyFrom_52 : decode cX4_copyFrom 52 = .ok (.aload_n 1, 1) := by decide +kernel
theorem dX4_copyFrom_53 : decode cX4_copyFrom 53 = .ok (.getfield 44, 3) := by decide +kernel
theorem dX4_copyFrom_56 : decode cX4_copyFrom 56 = .ok (.putfield 44, 3) := by decide +kernel
theorem dX4_copyFrom_59 : decode cX4_copyFrom 59 = .ok (.aload_n 0, 1) := by decide +kernel
theorem dX4_copyFrom_60 : decode cX4_copyFrom 60 = .ok (.aload_n 1, 1) := by decide +kernel
theorem dX4_copyFrom_61 : decode cX4_copyFrom 61 = .ok (.getfield 48, 3) := by decide +kernel
theorem dX4_copyFrom_64 : decode cX4_copyFrom 64 = .ok (.putfield 48, 3) := by decide +kernel
theorem dX4_copyFrom_67 : decode cX4_copyFrom 67 = .ok (.aload_n 0, 1) := by decide +kernel
theorem dX4_copyFrom_68 : decode cX4_copyFrom 68 = .ok (.aload_n 1, 1) := by decide +kernel
theorem dX4_copyFrom_69 : decode cX4_copyFrom 69 = .ok (.getfield 51, 3) := by decide +kernel
theorem dX4_copyFrom_72 : decode cX4_copyFrom 72 = .ok (.putfield 51, 3) := by decide +kernel
theorem dX4_copyFrom_75 : decode cX4_copyFrom 75 = .ok (.return_, 1) := by decide +kernel
theorem dX4_takeFrame_0 : decode cX4_takeFrame 0 = .ok (.aload_n 0, 1) := by decide +kernel
theorem dX4_takeFrame_1 : decode cX4_takeFrame 1 = .ok (.getfield 26, 3) := by decide +kernel
theorem dX4_takeFrame_4 : decode cX4_takeFrame 4 = .ok (.aload_n 0, 1) := by decide +kernel
theorem dX4_takeFrame_5 : decode cX4_takeFrame 5 = .ok (.getfield 18, 3) := by decide +kernel
theorem dX4_takeFrame_8 : decode cX4_takeFrame 8 = .ok (.iconst 0, 1) := by decide +kernel
theorem dX4_takeFrame_9 : decode cX4_takeFrame 9 = .ok (.iaload, 1) := by decide +kernel
theorem dX4_takeFrame_10 : decode cX4_takeFrame 10 = .ok (.invokevirtual 78, 3) := by decide +kernel
theorem dX4_takeFrame_13 : decode cX4_takeFrame 13 = .ok (.aload_n 0, 1) := by decide +kernel
theorem dX4_takeFrame_14 : decode cX4_takeFrame 14 = .ok (.getfield 26, 3) := by decide +kernel
theorem dX4_takeFrame_17 : decode cX4_takeFrame 17 = .ok (.invokevirtual 82, 3) := by decide +kernel
theorem dX4_takeFrame_20 : decode cX4_takeFrame 20 = .ok (.aload_n 0, 1) := by decide +kernel
theorem dX4_takeFrame_21 : decode cX4_takeFrame 21 = .ok (.getfield 33, 3) := by decide +kernel
theorem dX4_takeFrame_24 : decode cX4_takeFrame 24 = .ok (.aload_n 0, 1) := by decide +kernel
theorem dX4_takeFrame_25 : decode cX4_takeFrame 25 = .ok (.getfield 26, 3) := by decide +kernel
theorem dX4_takeFrame_28 : decode cX4_takeFrame 28 = .ok (.aload_n 0, 1) := by decide +kernel
theorem dX4_takeFrame_29 : decode cX4_takeFrame 29 = .ok (.getfield 18, 3) := by decide +kernel
theorem dX4_takeFrame_32 : decode cX4_takeFrame 32 = .ok (.iconst 1, 1) := by decide +kernel
theorem dX4_takeFrame_33 : decode cX4_takeFrame 33 = .ok (.iaload, 1) := by decide +kernel
theorem dX4_takeFrame_34 : decode cX4_takeFrame 34 = .ok (.invokevirtual 85, 3) := by decide +kernel
theorem dX4_takeFrame_37 : decode cX4_takeFrame 37 = .ok (.aload_n 0, 1) := by decide +kernel
theorem dX4_takeFrame_38 : decode cX4_takeFrame 38 = .ok (.aload_n 1, 1) := by decide +kernel
theorem dX4_takeFrame_39 : decode cX4_takeFrame 39 = .ok (.invokevirtual 89, 3) := by decide +kernel
theorem dX4_takeFrame_42 : decode cX4_takeFrame 42 = .ok (.aload_n 0, 1) := by decide +kernel
theorem dX4_takeFrame_43 : decode cX4_takeFrame 43 = .ok (.getfield 40, 3) := by decide +kernel
theorem dX4_takeFrame_46 : decode cX4_takeFrame 46 = .ok (.aload_n 0, 1) := by decide +kernel
theorem dX4_takeFrame_47 : decode cX4_takeFrame 47 = .ok (.getfield 33, 3) := by decide +kernel
theorem dX4_takeFrame_50 : decode cX4_takeFrame 50 = .ok (.aload_n 1, 1) := by decide +kernel
theorem dX4_takeFrame_51 : decode cX4_takeFrame 51 = .ok (.aload_n 0, 1) := by decide +kernel
theorem dX4_takeFrame_52 : decode cX4_takeFrame 52 = .ok (.getfield 18, 3) := by decide +kernel
theorem dX4_takeFrame_55 : decode cX4_takeFrame 55 = .ok (.iconst 3, 1) := by decide +kernel
theorem dX4_takeFrame_56 : decode cX4_takeFrame 56 = .ok (.iaload, 1) := by decide +kernel
theorem dX4_takeFrame_57 : decode cX4_takeFrame 57 = .ok (.invokevirtual 93, 3) := by decide +kernel
theorem dX4_takeFrame_60 : decode cX4_takeFrame 60 = .ok (.aload_n 0, 1) := by decide +kernel
theorem dX4_takeFrame_61 : decode cX4_takeFrame 61 = .ok (.invokevirtual 97, 3) := by decide +kernel
theorem dX4_takeFrame_64 : decode cX4_takeFrame 64 = .ok (.aload_n 0, 1) := by decide +kernel
theorem dX4_takeFrame_65 : decode cX4_takeFrame 65 = .ok (.dup, 1) := by decide +kernel
theorem dX4_takeFrame_66 : decode cX4_takeFrame 66 = .ok (.getfield 44, 3) := by decide +kernel
theorem dX4_takeFrame_69 : decode cX4_takeFrame 69 = .ok (.iconst 1, 1) := by decide +kernel
theorem dX4_takeFrame_70 : decode cX4_takeFrame 70 = .ok (.iadd, 1) := by decide +kernel
theorem dX4_takeFrame_71 : decode cX4_takeFrame 71 = .ok (.putfield 44, 3) := by decide +kernel
theorem dX4_takeFrame_74 : decode cX4_takeFrame 74 = .ok (.aload_n 0, 1) := by decide +kernel
theorem dX4_takeFrame_75 : decode cX4_takeFrame 75 = .ok (.getfield 26, 3) := by decide +kernel
theorem dX4_takeFrame_78 : decode cX4_takeFrame 78 = .ok (.iconst 0, 1) := by decide +kernel
theorem dX4_takeFrame_79 : decode cX4_takeFrame 79 = .ok (.putfield 100, 3) := by decide +kernel
theorem dX4_takeFrame_82 : decode cX4_takeFrame 82 = .ok (.return_, 1) := by decide +kernel
theorem dX4_pairUp_0 : decode cX4_pairUp 0 = .ok (.aload_n 1, 1) := by decide +kernel
theorem dX4_pairUp_1 : decode cX4_pairUp 1 = .ok (.aload_n 0, 1) := by decide +kernel
theorem dX4_pairUp_2 : decode cX4_pairUp 2 = .ok (.getfield 40, 3) := by decide +kernel
theorem dX4_pairUp_5 : decode cX4_pairUp 5 = .ok (.aload_n 0, 1) := by decide +kernel
theorem dX4_pairUp_6 : decode cX4_pairUp 6 = .ok (.getfield 33, 3) := by decide +kernel
theorem dX4_pairUp_9 : decode cX4_pairUp 9 = .ok (.aload_n 0, 1) := by decide +kernel
theorem dX4_pairUp_10 : decode cX4_pairUp 10 = .ok (.getfield 26, 3) := by decide +kernel
theorem dX4_pairUp_13 : decode cX4_pairUp 13 = .ok (.getfield 103, 3) := by decide +kernel
theorem dX4_pairUp_16 : decode cX4_pairUp 16 = .ok (.aload_n 0, 1) := by decide +kernel
theorem dX4_pairUp_17 : decode cX4_pairUp 17 = .ok (.getfield 18, 3) := by decide +kernel
theorem dX4_pairUp_20 : decode cX4_pairUp 20 = .ok (.iconst 2, 1) := by decide +kernel
theorem dX4_pairUp_21 : decode cX4_pairUp 21 = .ok (.iaload, 1) := by decide +kernel
theorem dX4_pairUp_22 : decode cX4_pairUp 22 = .ok (.invokevirtual 106, 3) := by decide +kernel
theorem dX4_pairUp_25 : decode cX4_pairUp 25 = .ok (.aload_n 1, 1) := by decide +kernel
theorem dX4_pairUp_26 : decode cX4_pairUp 26 = .ok (.invokevirtual 112, 3) := by decide +kernel
theorem dX4_pairUp_29 : decode cX4_pairUp 29 = .ok (.aload_n 1, 1) := by decide +kernel
theorem dX4_pairUp_30 : decode cX4_pairUp 30 = .ok (.invokevirtual 115, 3) := by decide +kernel
theorem dX4_pairUp_33 : decode cX4_pairUp 33 = .ok (.return_, 1) := by decide +kernel
theorem dX4_changeState_0 : decode cX4_changeState 0 = .ok (.aload_n 0, 1) := by decide +kernel
theorem dX4_changeState_1 : decode cX4_changeState 1 = .ok (.getfield 40, 3) := by decide +kernel
theorem dX4_changeState_4 : decode cX4_changeState 4 = .ok (.getfield 118, 3) := by decide +kernel
theorem dX4_changeState_7 : decode cX4_changeState 7 = .ok (.iconst 2, 1) := by decide +kernel
theorem dX4_changeState_8 : decode cX4_changeState 8 = .ok (.if_icmp .ne 34, 3) := by decide +kernel
theorem dX4_changeState_11 : decode cX4_changeState 11 = .ok (.aload_n 0, 1) := by decide +kernel
theorem dX4_changeState_12 : decode cX4_changeState 12 = .ok (.getfield 40, 3) := by decide +kernel
theorem dX4_changeState_15 : decode cX4_changeState 15 = .ok (.getfield 121, 3) := by decide +kernel
theorem dX4_changeState_18 : decode cX4_changeState 18 = .ok (.iconst 0, 1) := by decide +kernel
theorem dX4_changeState_19 : decode cX4_changeState 19 = .ok (.iaload, 1) := by decide +kernel
theorem dX4_changeState_20 : decode cX4_changeState 20 = .ok (.aload_n 0, 1) := by decide +kernel
theorem dX4_changeState_21 : decode cX4_changeState 21 = .ok (.getfield 40, 3) := by decide +kernel
theorem dX4_changeState_24 : decode cX4_changeState 24 = .ok (.getfield 121, 3) := by decide +kernel
theorem dX4_changeState_27 : decode cX4_changeState 27 = .ok (.iconst 1, 1) := by decide +kernel
theorem dX4_changeState_28 : decode cX4_changeState 28 = .ok (.iaload, 1) := by decide +kernel
theorem dX4_changeState_29 : decode cX4_changeState 29 = .ok (.aload_n 0, 1) := by decide +kernel
theorem dX4_changeState_30 : decode cX4_changeState 30 = .ok (.getfield 26, 3) := by decide +kernel
theorem dX4_changeState_33 : decode cX4_changeState 33 = .ok (.getfield 103, 3) := by decide +kernel
theorem dX4_changeState_36 : decode cX4_changeState 36 = .ok (.invokestatic 124, 3) := by decide +kernel
theorem dX4_changeState_39 : decode cX4_changeState 39 = .ok (.goto 4, 3) := by decide +kernel
theorem dX4_changeState_42 : decode cX4_changeState 42 = .ok (.iconst 0, 1) := by decide +kernel
theorem dX4_changeState_43 : decode cX4_changeState 43 = .ok (.istore_n 1, 1) := by decide +kernel
theorem dX4_changeState_44 : decode cX4_changeState 44 = .ok (.aload_n 0, 1) := by decide +kernel
theorem dX4_changeState_45 : decode cX4_changeState 45 = .ok (.getfield 48, 3) := by decide +kernel
theorem dX4_changeState_48 : decode cX4_changeState 48 = .ok (.aload_n 0, 1) := by decide +kernel
theorem dX4_changeState_49 : decode cX4_changeState 49 = .ok (.getfield 40, 3) := by decide +kernel
theorem dX4_changeState_52 : decode cX4_changeState 52 = .ok (.getfield 118, 3) := by decide +kernel
theorem dX4_changeState_55 : decode cX4_changeState 55 = .ok (.aload_n 0, 1) := by decide +kernel
theorem dX4_changeState_56 : decode cX4_changeState 56 = .ok (.getfield 40, 3) := by decide +kernel
theorem dX4_changeState_59 : decode cX4_changeState 59 = .ok (.getfield 128, 3) := by decide +kernel
theorem dX4_changeState_62 : decode cX4_changeState 62 = .ok (.iconst 0, 1) := by decide +kernel
theorem dX4_changeState_63 : decode cX4_changeState 63 = .ok (.iaload, 1) := by decide +kernel
