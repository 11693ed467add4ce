theorem dX0_init_0 : decode cX0_init 0 = .ok (.aload_n 0, 1) := by decide +kernel
theorem dX0_init_1 : decode cX0_init 1 = .ok (.invokespecial 3, 3) := by decide +kernel
theorem dX0_init_4 : decode cX0_init 4 = .ok (.aload_n 0, 1) := by decide +kernel
theorem dX0_init_5 : decode cX0_init 5 = .ok (.bipush 6, 2) := by decide +kernel
theorem dX0_init_7 : decode cX0_init 7 = .ok (.newarray .int, 2) := by decide +kernel
theorem dX0_init_9 : decode cX0_init 9 = .ok (.putfield 9, 3) := by decide +kernel
theorem dX0_init_12 : decode cX0_init 12 = .ok (.aload_n 0, 1) := by decide +kernel
theorem dX0_init_13 : decode cX0_init 13 = .ok (.bipush 6, 2) := by decide +kernel
theorem dX0_init_15 : decode cX0_init 15 = .ok (.newarray .int, 2) := by decide +kernel
theorem dX0_init_17 : decode cX0_init 17 = .ok (.putfield 15, 3) := by decide +kernel
theorem dX0_init_20 : decode cX0_init 20 = .ok (.aload_n 0, 1) := by decide +kernel
theorem dX0_init_21 : decode cX0_init 21 = .ok (.bipush 6, 2) := by decide +kernel
theorem dX0_init_23 : decode cX0_init 23 = .ok (.newarray .int, 2) := by decide +kernel
theorem dX0_init_25 : decode cX0_init 25 = .ok (.putfield 18, 3) := by decide +kernel
theorem dX0_init_28 : decode cX0_init 28 = .ok (.aload_n 0, 1) := by decide +kernel
theorem dX0_init_29 : decode cX0_init 29 = .ok (.bipush 6, 2) := by decide +kernel
theorem dX0_init_31 : decode cX0_init 31 = .ok (.newarray .int, 2) := by decide +kernel
theorem dX0_init_33 : decode cX0_init 33 = .ok (.putfield 21, 3) := by decide +kernel
theorem dX0_init_36 : decode cX0_init 36 = .ok (.aload_n 0, 1) := by decide +kernel
theorem dX0_init_37 : decode cX0_init 37 = .ok (.iconst 0, 1) := by decide +kernel
theorem dX0_init_38 : decode cX0_init 38 = .ok (.putfield 24, 3) := by decide +kernel
theorem dX0_init_41 : decode cX0_init 41 = .ok (.aload_n 0, 1) := by decide +kernel
theorem dX0_init_42 : decode cX0_init 42 = .ok (.iconst 0, 1) := by decide +kernel
theorem dX0_init_43 : decode cX0_init 43 = .ok (.putfield 28, 3) := by decide +kernel
theorem dX0_init_46 : decode cX0_init 46 = .ok (.aload_n 0, 1) := by decide +kernel
theorem dX0_init_47 : decode cX0_init 47 = .ok (.iconst 0, 1) := by decide +kernel
theorem dX0_init_48 : decode cX0_init 48 = .ok (.putfield 31, 3) := by decide +kernel
theorem dX0_init_51 : decode cX0_init 51 = .ok (.aload_n 0, 1) := by decide +kernel
theorem dX0_init_52 : decode cX0_init 52 = .ok (.iconst 0, 1) := by decide +kernel
theorem dX0_init_53 : decode cX0_init 53 = .ok (.putfield 34, 3) := by decide +kernel
theorem dX0_init_56 : decode cX0_init 56 = .ok (.aload_n 0, 1) := by decide +kernel
theorem dX0_init_57 : decode cX0_init 57 = .ok (.iconst 0, 1) := by decide +kernel
theorem dX0_init_58 : decode cX0_init 58 = .ok (.putfield 37, 3) := by decide +kernel
theorem dX0_init_61 : decode cX0_init 61 = .ok (.aload_n 0, 1) := by decide +kernel
theorem dX0_init_62 : decode cX0_init 62 = .ok (.iconst 0, 1) := by decide +kernel
theorem dX0_init_63 : decode cX0_init 63 = .ok (.putfield 40, 3) := by decide +kernel
theorem dX0_init_66 : decode cX0_init 66 = .ok (.aload_n 0, 1) := by decide +kernel
theorem dX0_init_67 : decode cX0_init 67 = .ok (.iconst 0, 1) := by decide +kernel
theorem dX0_init_68 : decode cX0_init 68 = .ok (.putfield 43, 3) := by decide +kernel
theorem dX0_init_71 : decode cX0_init 71 = .ok (.aload_n 0, 1) := by decide +kernel
theorem dX0_init_72 : decode cX0_init 72 = .ok (.aload_n 1, 1) := by decide +kernel
theorem dX0_init_73 : decode cX0_init 73 = .ok (.putfield 47, 3) := by decide +kernel
theorem dX0_init_76 : decode cX0_init 76 = .ok (.return_, 1) := by decide +kernel
theorem dX0_start_0 : decode cX0_start 0 = .ok (.iconst 0, 1) := by decide +kernel
theorem dX0_start_1 : decode cX0_start 1 = .ok (.istore_n 1, 1) := by decide +kernel
theorem dX0_start_2 : decode cX0_start 2 = .ok (.iload_n 1, 1) := by decide +kernel
theorem dX0_start_3 : decode cX0_start 3 = .ok (.bipush 6, 2) := by decide +kernel
theorem dX0_start_5 : decode cX0_start 5 = .ok (.if_icmp .ge 39, 3) := by decide +kernel
theorem dX0_start_8 : decode cX0_start 8 = .ok (.aload_n 0, 1) := by decide +kernel
theorem dX0_start_9 : decode cX0_start 9 = .ok (.getfield 9, 3) := by decide +kernel
theorem dX0_start_12 : decode cX0_start 12 = .ok (.iload_n 1, 1) := by decide +kernel
theorem dX0_start_13 : decode cX0_start 13 = .ok (.iconst 0, 1) := by decide +kernel
theorem dX0_start_14 : decode cX0_start 14 = .ok (.iastore, 1) := by decide +kernel
theorem dX0_start_15 : decode cX0_start 15 = .ok (.aload_n 0, 1) := by decide +kernel
theorem dX0_start_16 : decode cX0_start 16 = .ok (.getfield 15, 3) := by decide +kernel
theorem dX0_start_19 : decode cX0_start 19 = .ok (.iload_n 1, 1) := by decide +kernel
theorem dX0_start_20 : decode cX0_start 20 = .ok (.bipush (-4), 2) := by decide +kernel
theorem dX0_start_22 : decode cX0_start 22 = .ok (.iastore, 1) := by decide +kernel
theorem dX0_start_23 : decode cX0_start 23 = .ok (.aload_n 0, 1) := by decide +kernel
theorem dX0_start_24 : decode cX0_start 24 = .ok (.getfield 18, 3) := by decide +kernel
theorem dX0_start_27 : decode cX0_start 27 = .ok (.iload_n 1, 1) := by decide +kernel
theorem dX0_start_28 : decode cX0_start 28 = .ok (.iconst 0, 1) := by decide +kernel
theorem dX0_start_29 : decode cX0_start 29 = .ok (.iastore, 1) := by decide +kernel
theorem dX0_start_30 : decode cX0_start 30 = .ok (.aload_n 0, 1) := by decide +kernel
theorem dX0_start_31 : decode cX0_start 31 = .ok (.getfield 21, 3) := by decide +kernel
theorem dX0_start_34 : decode cX0_start 34 = .ok (.iload_n 1, 1) := by decide +kernel
theorem dX0_start_35 : decode cX0_start 35 = .ok (.bipush (-4), 2) := by decide +kernel
theorem dX0_start_37 : decode cX0_start 37 = .ok (.iastore, 1) := by decide +kernel
theorem dX0_start_38 : decode cX0_start 38 = .ok (.iinc 1 1, 3) := by decide +kernel
theorem dX0_start_41 : decode cX0_start 41 = .ok (.goto (-39), 3) := by decide +kernel
theorem dX0_start_44 : decode cX0_start 44 = .ok (.aload_n 0, 1) := by decide +kernel
theorem dX0_start_45 : decode cX0_start 45 = .ok (.iconst 0, 1) := by decide +kernel
theorem dX0_start_46 : decode cX0_start 46 = .ok (.putfield 24, 3) := by decide +kernel
theorem dX0_start_49 : decode cX0_start 49 = .ok (.aload_n 0, 1) := by decide +kernel
theorem dX0_start_50 : decode cX0_start 50 = .ok (.iconst 0, 1) := by decide +kernel
theorem dX0_start_51 : decode cX0_start 51 = .ok (.putfield 28, 3) := by decide +kernel
theorem dX0_start_54 : decode cX0_start 54 = .ok (.aload_n 0, 1) := by decide +kernel
theorem dX0_start_55 : decode cX0_start 55 = .ok (.iconst 0, 1) := by decide +kernel
theorem dX0_start_56 : decode cX0_start 56 = .ok (.putfield 31, 3) := by decide +kernel
theorem dX0_start_59 : decode cX0_start 59 = .ok (.aload_n 0, 1) := by decide +kernel
theorem dX0_start_60 : decode cX0_start 60 = .ok (.iconst 0, 1) := by decide +kernel
theorem dX0_start_61 : decode cX0_start 61 = .ok (.putfield 34, 3) := by decide +kernel
theorem dX0_start_64 : decode cX0_start 64 = .ok (.aload_n 0, 1) := by decide +kernel
theorem dX0_start_65 : decode cX0_start 65 = .ok (.aload_n 0, 1) := by decide +kernel
theorem dX0_start_66 : decode cX0_start 66 = .ok (.getfield 47, 3) := by decide +kernel
theorem dX0_start_69 : decode cX0_start 69 = .ok (.getfield 51, 3) := by decide +kernel
theorem dX0_start_72 : decode cX0_start 72 = .ok (.putfield 37, 3) := by decide +kernel
theorem dX0_start_75 : decode cX0_start 75 = .ok (.aload_n 0, 1) := by decide +kernel
theorem dX0_start_76 : decode cX0_start 76 = .ok (.iconst 0, 1) := by decide +kernel
theorem dX0_start_77 : decode cX0_start 77 = .ok (.putfield 40, 3) := by decide +kernel
theorem dX0_start_80 : decode cX0_start 80 = .ok (.aload_n 0, 1) := by decide +kernel
theorem dX0_start_81 : decode cX0_start 81 = .ok (.iconst 0, 1) := by decide +kernel
theorem dX0_start_82 : decode cX0_start 82 = .ok (.putfield 43, 3) := by decide +kernel
theorem dX0_start_85 : decode cX0_start 85 = .ok (.return_, 1) := by decide +kernel
theorem dX0_copyFrom_0 : decode cX0_copyFrom 0 = .ok (.aload_n 1, 1) := by decide +kernel
theorem dX0_copyFrom_1 : decode cX0_copyFrom 1 = .ok (.getfield 9, 3) := by decide +kernel
theorem dX0_copyFrom_4 : decode cX0_copyFrom 4 = .ok (.iconst 0, 1) := by decide +kernel
theorem dX0_copyFrom_5 : decode cX0_copyFrom 5 = .ok (.aload_n 0, 1) := by decide +kernel
theorem dX0_copyFrom_6 : decode cX0_copyFrom 6 = .ok (.getfield 9, 3) := by decide +kernel
theorem dX0_copyFrom_9 : decode cX0_copyFrom 9 = .ok (.iconst 0, 1) := by decide +kernel
theorem dX0_copyFrom_10 : decode cX0_copyFrom 10 = .ok (.bipush 6, 2) := by decide +kernel
theorem dX0_copyFrom_12 : decode cX0_copyFrom 12 = .ok (.invokestatic 54, 3) := by decide +kernel
theorem dX0_copyFrom_15 : decode cX0_copyFrom 15 = .ok (.aload_n 1, 1) := by decide +kernel
theorem dX0_copyFrom_16 : decode cX0_copyFrom 16 = .ok (.getfield 15, 3) := by decide +kernel
theorem dX0_copyFrom_19 : decode cX0_copyFrom 19 = .ok (.iconst 0, 1) := by decide +kernel
theorem dX0_copyFrom_20 : decode cX0_copyFrom 20 = .ok (.aload_n 0, 1) := by decide +kernel
theorem dX0_copyFrom_21 : decode cX0_copyFrom 21 = .ok (.getfield 15, 3) := by decide +kernel
theorem dX0_copyFrom_24 : decode cX0_copyFrom 24 = .ok (.iconst 0, 1) := by decide +kernel
theorem dX0_copyFrom_25 : decode cX0_copyFrom 25 = .ok (.bipush 6, 2) := by decide +kernel
theorem dX0_copyFrom_27 : decode cX0_copyFrom 27 = .ok (.invokestatic 54, 3) := by decide +kernel
theorem dX0_copyFrom_30 : decode cX0_copyFrom 30 = .ok (.aload_n 1, 1) := by decide +kernel
theorem dX0_copyFrom_31 : decode cX0_copyFrom 31 = .ok (.getfield 18, 3) := by decide +kernel
theorem dX0_copyFrom_34 : decode cX0_copyFrom 34 = .ok (.iconst 0, 1) := by decide +kernel
theorem dX0_copyFrom_35 : decode cX0_copyFrom 35 = .ok (.aload_n 0, 1) := by decide +kernel
theorem dX0_copyFrom_36 : decode cX0_copyFrom 36 = .ok (.getfield 18, 3) := by decide +kernel
theorem dX0_copyFrom_39 : decode cX0_copyFrom 39 = .ok (.iconst 0, 1) := by decide +kernel
theorem dX0_copyFrom_40 : decode cX0_copyFrom 40 = .ok (.bipush 6, 2) := by decide +kernel
theorem dX0_copyFrom_42 : decode cX0_copyFrom 42 = .ok (.invokestatic 54, 3) := by decide +kernel
theorem dX0_copyFrom_45 : decode cX0_copyFrom 45 = .ok (.aload_n 1, 1) := by decide +kernel
theorem dX0_copyFrom_46 : decode cX0_copyFrom 46 = .ok (.getfield 21, 3) := by decide +kernel
theorem dX0_copyFrom_49 : decode cX0_copyFrom 49 = .ok (.iconst 0, 1) := by decide +kernel
theorem dX0_copyFrom_50 : decode cX0_copyFrom 50 = .ok (.aload_n 0, 1) := by decide +kernel
theorem dX0_copyFrom_51 : decode cX0_copyFrom 51 = .ok (.getfield 21, 3) := by decide +kernel
theorem dX0_copyFrom_54 : decode cX0_copyFrom 54 = .ok (.iconst 0, 1) := by decide +kernel
theorem dX0_copyFrom_55 : decode cX0_copyFrom 55 = .ok (.bipush 6, 2) := by decide +kernel
theorem dX0_copyFrom_57 : decode cX0_copyFrom 57 = .ok (.invokestatic 54, 3) := by decide +kernel
theorem dX0_copyFrom_60 : decode cX0_copyFrom 60 = .ok (.aload_n 0, 1) := by decide +kernel
theorem dX0_copyFrom_61 : decode cX0_copyFrom 61 = .ok (.aload_n 1, 1) := by decide +kernel
theorem dX0_copyFrom_62 : decode cX0_copyFrom 62 = .ok (.getfield 24, 3) := by decide +kernel
theorem dX0_copyFrom_65 : decode cX0_copyFrom 65 = .ok (.putfield 24, 3) := by decide +kernel
theorem dX0_copyFrom_68 : decode cX0_copyFrom 68 = .ok (.aload_n 0, 1) := by decide +kernel
theorem dX0_copyFrom_69 : decode cX0_copyFrom 69 = .ok (.aload_n 1, 1) := by decide +kernel
theorem dX0_copyFrom_70 : decode cX0_copyFrom 70 = .ok (.getfield 28, 3) := by decide +kernel
theorem dX0_copyFrom_73 : decode cX0_copyFrom 73 = .ok (.putfield 28, 3) := by decide +kernel
theorem dX0_copyFrom_76 : decode cX0_copyFrom 76 = .ok (.aload_n 0, 1) := by decide +kernel
theorem dX0_copyFrom_77 : decode cX0_copyFrom 77 = .ok (.aload_n 1, 1) := by decide +kernel
theorem dX0_copyFrom_78 : decode cX0_copyFrom 78 = .ok (.getfield 31, 3) := by decide +kernel
theorem dX0_copyFrom_81 : decode cX0_copyFrom 81 = .ok (.putfield 31, 3) := by decide +kernel
theorem dX0_copyFrom_84 : decode cX0_copyFrom 84 = .ok (.aload_n 0, 1) := by decide +kernel
theorem dX0_copyFrom_85 : decode cX0_copyFrom 85 = .ok (.aload_n 1, 1) := by decide +kernel
theorem dX0_copyFrom_86 : decode cX0_copyFrom 86 = .ok (.getfield 34, 3) := by decide +kernel
theorem dX0_copyFrom_89 : decode cX0_copyFrom 89 = .ok (.putfield 34, 3) := by decide +kernel
theorem dX0_copyFrom_92 : decode cX0_copyFrom 92 = .ok (.aload_n 0, 1) := by decide +kernel
theorem dX0_copyFrom_93 : decode cX0_copyFrom 93 = .ok (.aload_n 1, 1) := by decide +kernel
theorem dX0_copyFrom_94 : decode cX0_copyFrom 94 = .ok (.getfield 37, 3) := by decide +kernel
theorem dX0_copyFrom_97 : decode cX0_copyFrom 97 = .ok (.putfield 37, 3) := by decide +kernel
theorem dX0_copyFrom_100 : decode cX0_copyFrom 100 = .ok (.aload_n 0, 1) := by decide +kernel
theorem dX0_copyFrom_101 : decode cX0_copyFrom 101 = .ok (.aload_n 1, 1) := by decide +kernel
theorem dX0_copyFrom_102 : decode cX0_copyFrom 102 = .ok (.getfield 40, 3) := by decide +kernel
theorem dX0_copyFrom_105 : decode cX0_copyFrom 105 = .ok (.putfield 40, 3) := by decide +kernel
theorem dX0_copyFrom_108 : decode cX0_copyFrom 108 = .ok (.aload_n 0, 1) := by decide +kernel
theorem dX0_copyFrom_109 : decode cX0_copyFrom 109 = .ok (.aload_n 1, 1) := by decide +kernel
theorem dX0_copyFrom_110 : decode cX0_copyFrom 110 = .ok (.getfield 43, 3) := by decide +kernel
theorem dX0_copyFrom_113 : decode cX0_copyFrom 113 = .ok (.putfield 43, 3) := by decide +kernel
theorem dX0_copyFrom_116 : decode cX0_copyFrom 116 = .ok (.return_, 1) := by decide +kernel
theorem dX0_isTold_0 : decode cX0_isTold 0 = .ok (.aload_n 0, 1) := by decide +kernel
theorem dX0_isTold_1 : decode cX0_isTold 1 = .ok (.getfield 21, 3) := by decide +kernel
theorem dX0_isTold_4 : decode cX0_isTold 4 = .ok (.iload_n 1, 1) := by decide +kernel
theorem dX0_isTold_5 : decode cX0_isTold 5 = .ok (.iaload, 1) := by decide +kernel
theorem dX0_isTold_6 : decode cX0_isTold 6 = .ok (.ifCond .lt 7, 3) := by decide +kernel
theorem dX0_isTold_9 : decode cX0_isTold 9 = .ok (.iconst 1, 1) := by decide +kernel
theorem dX0_isTold_10 : decode cX0_isTold 10 = .ok (.goto 4, 3) := by decide +kernel
theorem dX0_isTold_13 : decode cX0_isTold 13 = .ok (.iconst 0, 1) := by decide +kernel
theorem dX0_isTold_14 : decode cX0_isTold 14 = .ok (.ireturn, 1) := by decide +kernel
theorem dX0_canBeSentOne_0 : decode cX0_canBeSentOne 0 = .ok (.aload_n 0, 1) := by decide +kernel
theorem dX0_canBeSentOne_1 : decode cX0_canBeSentOne 1 = .ok (.getfield 9, 3) := by decide +kernel
theorem dX0_canBeSentOne_4 : decode cX0_canBeSentOne 4 = .ok (.iload_n 1, 1) := by decide +kernel
theorem dX0_canBeSentOne_5 : decode cX0_canBeSentOne 5 = .ok (.iaload, 1) := by decide +kernel
theorem dX0_canBeSentOne_6 : decode cX0_canBeSentOne 6 = .ok (.ifCond .ne 26, 3) := by decide +kernel
theorem dX0_canBeSentOne_9 : decode cX0_canBeSentOne 9 = .ok (.aload_n 0, 1) := by decide +kernel
theorem dX0_canBeSentOne_10 : decode cX0_canBeSentOne 10 = .ok (.getfield 24, 3) := by decide +kernel
theorem dX0_canBeSentOne_13 : decode cX0_canBeSentOne 13 = .ok (.iload_n 1, 1) := by decide +kernel
theorem dX0_canBeSentOne_14 : decode cX0_canBeSentOne 14 = .ok (.invokestatic 60, 3) := by decide +kernel
theorem dX0_canBeSentOne_17 : decode cX0_canBeSentOne 17 = .ok (.ifCond .ne 15, 3) := by decide +kernel
theorem dX0_canBeSentOne_20 : decode cX0_canBeSentOne 20 = .ok (.aload_n 0, 1) := by decide +kernel
theorem dX0_canBeSentOne_21 : decode cX0_canBeSentOne 21 = .ok (.iload_n 1, 1) := by decide +kernel
theorem dX0_canBeSentOne_22 : decode cX0_canBeSentOne 22 = .ok (.invokevirtual 64, 3) := by decide +kernel
theorem dX0_canBeSentOne_25 : decode cX0_canBeSentOne 25 = .ok (.ifCond .ne 7, 3) := by decide +kernel
theorem dX0_canBeSentOne_28 : decode cX0_canBeSentOne 28 = .ok (.iconst 1, 1) := by decide +kernel
theorem dX0_canBeSentOne_29 : decode cX0_canBeSentOne 29 = .ok (.goto 4, 3) := by decide +kernel
theorem dX0_canBeSentOne_32 : decode cX0_canBeSentOne 32 = .ok (.iconst 0, 1) := by decide +kernel
theorem dX0_canBeSentOne_33 : decode cX0_canBeSentOne 33 = .ok (.ireturn, 1) := by decide +kernel
theorem dX0_canSendNow_0 : decode cX0_canSendNow 0 = .ok (.aload_n 0, 1) := by decide +kernel
theorem dX0_canSendNow_1 : decode cX0_canSendNow 1 = .ok (.iload_n 1, 1) := by decide +kernel
theorem dX0_canSendNow_2 : decode cX0_canSendNow 2 = .ok (.invokevirtual 68, 3) := by decide +kernel
theorem dX0_canSendNow_5 : decode cX0_canSendNow 5 = .ok (.ifCond .eq 21, 3) := by decide +kernel
theorem dX0_canSendNow_8 : decode cX0_canSendNow 8 = .ok (.aload_n 0, 1) := by decide +kernel
theorem dX0_canSendNow_9 : decode cX0_canSendNow 9 = .ok (.getfield 37, 3) := by decide +kernel
theorem dX0_canSendNow_12 : decode cX0_canSendNow 12 = .ok (.ifCond .le 14, 3) := by decide +kernel
theorem dX0_canSendNow_15 : decode cX0_canSendNow 15 = .ok (.aload_n 0, 1) := by decide +kernel
theorem dX0_canSendNow_16 : decode cX0_canSendNow 16 = .ok (.getfield 43, 3) := by decide +kernel
theorem dX0_canSendNow_19 : decode cX0_canSendNow 19 = .ok (.ifCond .ne 7, 3) := by decide +kernel
theorem dX0_canSendNow_22 : decode cX0_canSendNow 22 = .ok (.iconst 1, 1) := by decide +kernel
theorem dX0_canSendNow_23 : decode cX0_canSendNow 23 = .ok (.goto 4, 3) := by decide +kernel
theorem dX0_canSendNow_26 : decode cX0_canSendNow 26 = .ok (.iconst 0, 1) := by decide +kernel
theorem dX0_canSendNow_27 : decode cX0_canSendNow 27 = .ok (.ireturn, 1) := by decide +kernel
theorem dX0_dispatch_0 : decode cX0_dispatch 0 = .ok (.aload_n 0, 1) := by decide +kernel
theorem dX0_dispatch_1 : decode cX0_dispatch 1 = .ok (.dup, 1) := by decide +kernel
theorem dX0_dispatch_2 : decode cX0_dispatch 2 = .ok (.getfield 37, 3) := by decide +kernel
theorem dX0_dispatch_5 : decode cX0_dispatch 5 = .ok (.iconst 1, 1) := by decide +kernel
theorem dX0_dispatch_6 : decode cX0_dispatch 6 = .ok (.isub, 1) := by decide +kernel
theorem dX0_dispatch_7 : decode cX0_dispatch 7 = .ok (.putfield 37, 3) := by decide +kernel
theorem dX0_dispatch_10 : decode cX0_dispatch 10 = .ok (.aload_n 0, 1) := by decide +kernel
theorem dX0_dispatch_11 : decode cX0_dispatch 11 = .ok (.iconst 1, 1) := by decide +kernel
theorem dX0_dispatch_12 : decode cX0_dispatch 12 = .ok (.putfield 43, 3) := by decide +kernel
theorem dX0_dispatch_15 : decode cX0_dispatch 15 = .ok (.aload_n 0, 1) := by decide +kernel
theorem dX0_dispatch_16 : decode cX0_dispatch 16 = .ok (.getfield 9, 3) := by decide +kernel
theorem dX0_dispatch_19 : decode cX0_dispatch 19 = .ok (.iload_n 1, 1) := by decide +kernel
theorem dX0_dispatch_20 : decode cX0_dispatch 20 = .ok (.iconst 1, 1) := by decide +kernel
theorem dX0_dispatch_21 : decode cX0_dispatch 21 = .ok (.iastore, 1) := by decide +kernel
theorem dX0_dispatch_22 : decode cX0_dispatch 22 = .ok (.aload_n 0, 1) := by decide +kernel
theorem dX0_dispatch_23 : decode cX0_dispatch 23 = .ok (.getfield 15, 3) := by decide +kernel
theorem dX0_dispatch_26 : decode cX0_dispatch 26 = .ok (.iload_n 1, 1) := by decide +kernel
theorem dX0_dispatch_27 : decode cX0_dispatch 27 = .ok (.aload_n 0, 1) := by decide +kernel
theorem dX0_dispatch_28 : decode cX0_dispatch 28 = .ok (.getfield 40, 3) := by decide +kernel
theorem dX0_dispatch_31 : decode cX0_dispatch 31 = .ok (.aload_n 0, 1) := by decide +kernel
theorem dX0_dispatch_32 : decode cX0_dispatch 32 = .ok (.iload_n 1, 1) := by decide +kernel
theorem dX0_dispatch_33 : decode cX0_dispatch 33 = .ok (.invokevirtual 71, 3) := by decide +kernel
theorem dX0_dispatch_36 : decode cX0_dispatch 36 = .ok (.iadd, 1) := by decide +kernel
theorem dX0_dispatch_37 : decode cX0_dispatch 37 = .ok (.iastore, 1) := by decide +kernel
theorem dX0_dispatch_38 : decode cX0_dispatch 38 = .ok (.return_, 1) := by decide +kernel
theorem dX0_recall_0 : decode cX0_recall 0 = .ok (.aload_n 0, 1) := by decide +kernel
theorem dX0_recall_1 : decode cX0_recall 1 = .ok (.bipush 20, 2) := by decide +kernel
theorem dX0_recall_3 : decode cX0_recall 3 = .ok (.aload_n 0, 1) := by decide +kernel
theorem dX0_recall_4 : decode cX0_recall 4 = .ok (.getfield 37, 3) := by decide +kernel
theorem dX0_recall_7 : decode cX0_recall 7 = .ok (.aload_n 0, 1) := by decide +kernel
theorem dX0_recall_8 : decode cX0_recall 8 = .ok (.getfield 9, 3) := by decide +kernel
theorem dX0_recall_11 : decode cX0_recall 11 = .ok (.iload_n 1, 1) := by decide +kernel
theorem dX0_recall_12 : decode cX0_recall 12 = .ok (.iaload, 1) := by decide +kernel
theorem dX0_recall_13 : decode cX0_recall 13 = .ok (.iadd, 1) := by decide +kernel
theorem dX0_recall_14 : decode cX0_recall 14 = .ok (.invokestatic 75, 3) := by decide +kernel
theorem dX0_recall_17 : decode cX0_recall 17 = .ok (.putfield 37, 3) := by decide +kernel
theorem dX0_recall_20 : decode cX0_recall 20 = .ok (.aload_n 0, 1) := by decide +kernel
theorem dX0_recall_21 : decode cX0_recall 21 = .ok (.getfield 9, 3) := by decide +kernel
theorem dX0_recall_24 : decode cX0_recall 24 = .ok (.iload_n 1, 1) := by decide +kernel
theorem dX0_recall_25 : decode cX0_recall 25 = .ok (.iconst 0, 1) := by decide +kernel
theorem dX0_recall_26 : decode cX0_recall 26 = .ok (.iastore, 1) := by decide +kernel
theorem dX0_recall_27 : decode cX0_recall 27 = .ok (.aload_n 0, 1) := by decide +kernel
theorem dX0_recall_28 : decode cX0_recall 28 = .ok (.getfield 15, 3) := by decide +kernel
theorem dX0_recall_31 : decode cX0_recall 31 = .ok (.iload_n 1, 1) := by decide +kernel
theorem dX0_recall_32 : decode cX0_recall 32 = .ok (.bipush (-4), 2) := by decide +kernel
theorem dX0_recall_34 : decode cX0_recall 34 = .ok (.iastore, 1) := by decide +kernel
theorem dX0_recall_35 : decode cX0_recall 35 = .ok (.aload_n 0, 1) := by decide +kernel
theorem dX0_recall_36 : decode cX0_recall 36 = .ok (.dup, 1) := by decide +kernel
theorem dX0_recall_37 : decode cX0_recall 37 = .ok (.getfield 31, 3) := by decide +kernel
theorem dX0_recall_40 : decode cX0_recall 40 = .ok (.iconst 1, 1) := by decide +kernel
theorem dX0_recall_41 : decode cX0_recall 41 = .ok (.iload_n 1, 1) := by decide +kernel
theorem dX0_recall_42 : decode cX0_recall 42 = .ok (.ishl, 1) := by decide +kernel
theorem dX0_recall_43 : decode cX0_recall 43 = .ok (.iconst (-1), 1) := by decide +kernel
theorem dX0_recall_44 : decode cX0_recall 44 = .ok (.ixor, 1) := by decide +kernel
theorem dX0_recall_45 : decode cX0_recall 45 = .ok (.iand, 1) := by decide +kernel
theorem dX0_recall_46 : decode cX0_recall 46 = .ok (.putfield 31, 3) := by decide +kernel
theorem dX0_recall_49 : decode cX0_recall 49 = .ok (.return_, 1) := by decide +kernel
theorem dX0_passDays_0 : decode cX0_passDays 0 = .ok (.iconst 0, 1) := by decide +kernel
theorem dX0_passDays_1 : decode cX0_passDays 1 = .ok (.istore_n 2, 1) := by decide +kernel
theorem dX0_passDays_2 : decode cX0_passDays 2 = .ok (.iload_n 2, 1) := by decide +kernel
theorem dX0_passDays_3 : decode cX0_passDays 3 = .ok (.iload_n 1, 1) := by decide +kernel
theorem dX0_passDays_4 : decode cX0_passDays 4 = .ok (.if_icmp .ge 14, 3) := by decide +kernel
theorem dX0_passDays_7 : decode cX0_passDays 7 = .ok (.aload_n 0, 1) := by decide +kernel
theorem dX0_passDays_8 : decode cX0_passDays 8 = .ok (.iconst 0, 1) := by decide +kernel
theorem dX0_passDays_9 : decode cX0_passDays 9 = .ok (.invokevirtual 81, 3) := by decide +kernel
theorem dX0_passDays_12 : decode cX0_passDays 12 = .ok (.iinc 2 1, 3) := by decide +kernel
theorem dX0_passDays_15 : decode cX0_passDays 15 = .ok (.goto (-13), 3) := by decide +kernel
theorem dX0_passDays_18 : decode cX0_passDays 18 = .ok (.return_, 1) := by decide +kernel
theorem dX0_passDay_0 : decode cX0_passDay 0 = .ok (.iconst 0, 1) := by decide +kernel
theorem dX0_passDay_1 : decode cX0_passDay 1 = .ok (.istore_n 2, 1) := by decide +kernel
theorem dX0_passDay_2 : decode cX0_passDay 2 = .ok (.iload_n 2, 1) := by decide +kernel
theorem dX0_passDay_3 : decode cX0_passDay 3 = .ok (.aload_n 0, 1) := by decide +kernel
theorem dX0_passDay_4 : decode cX0_passDay 4 = .ok (.getfield 47, 3) := by decide +kernel
theorem dX0_passDay_7 : decode cX0_passDay 7 = .ok (.getfield 85, 3) := by decide +kernel
theorem dX0_passDay_10 : decode cX0_passDay 10 = .ok (.if_icmp .ge 40, 3) := by decide +kernel
theorem dX0_passDay_13 : decode cX0_passDay 13 = .ok (.iload_n 1, 1) := by decide +kernel
theorem dX0_passDay_14 : decode cX0_passDay 14 = .ok (.ifCond .ne 36, 3) := by decide +kernel
theorem dX0_passDay_17 : decode cX0_passDay 17 = .ok (.aload_n 0, 1) := by decide +kernel
theorem dX0_passDay_18 : decode cX0_passDay 18 = .ok (.getfield 9, 3) := by decide +kernel
theorem dX0_passDay_21 : decode cX0_passDay 21 = .ok (.iload_n 2, 1) := by decide +kernel
theorem dX0_passDay_22 : decode cX0_passDay 22 = .ok (.iaload, 1) := by decide +kernel
theorem dX0_passDay_23 : decode cX0_passDay 23 = .ok (.ifCond .le 21, 3) := by decide +kernel
theorem dX0_passDay_26 : decode cX0_passDay 26 = .ok (.aload_n 0, 1) := by decide +kernel
theorem dX0_passDay_27 : decode cX0_passDay 27 = .ok (.getfield 15, 3) := by decide +kernel
theorem dX0_passDay_30 : decode cX0_passDay 30 = .ok (.iload_n 2, 1) := by decide +kernel
theorem dX0_passDay_31 : decode cX0_passDay 31 = .ok (.iaload, 1) := by decide +kernel
theorem dX0_passDay_32 : decode cX0_passDay 32 = .ok (.aload_n 0, 1) := by decide +kernel
theorem dX0_passDay_33 : decode cX0_passDay 33 = .ok (.getfield 40, 3) := by decide +kernel
theorem dX0_passDay_36 : decode cX0_passDay 36 = .ok (.if_icmp .gt 8, 3) := by decide +kernel
theorem dX0_passDay_39 : decode cX0_passDay 39 = .ok (.aload_n 0, 1) := by decide +kernel
theorem dX0_passDay_40 : decode cX0_passDay 40 = .ok (.iload_n 2, 1) := by decide +kernel
theorem dX0_passDay_41 : decode cX0_passDay 41 = .ok (.invokevirtual 88, 3) := by decide +kernel
theorem dX0_passDay_44 : decode cX0_passDay 44 = .ok (.iinc 2 1, 3) := by decide +kernel
theorem dX0_passDay_47 : decode cX0_passDay 47 = .ok (.goto (-45), 3) := by decide +kernel
theorem dX0_passDay_50 : decode cX0_passDay 50 = .ok (.iconst 0, 1) := by decide +kernel
theorem dX0_passDay_51 : decode cX0_passDay 51 = .ok (.istore_n 2, 1) := by decide +kernel
theorem dX0_passDay_52 : decode cX0_passDay 52 = .ok (.iload_n 2, 1) := by decide +kernel
theorem dX0_passDay_53 : decode cX0_passDay 53 = .ok (.aload_n 0, 1) := by decide +kernel
theorem dX0_passDay_54 : decode cX0_passDay 54 = .ok (.getfield 47, 3) := by decide +kernel
theorem dX0_passDay_57 : decode cX0_passDay 57 = .ok (.getfield 85, 3) := by decide +kernel
theorem dX0_passDay_60 : decode cX0_passDay 60 = .ok (.if_icmp .ge 69, 3) := by decide +kernel
theorem dX0_passDay_63 : decode cX0_passDay 63 = .ok (.aload_n 0, 1) := by decide +kernel
theorem dX0_passDay_64 : decode cX0_passDay 64 = .ok (.getfield 47, 3) := by decide +kernel
theorem dX0_passDay_67 : decode cX0_passDay 67 = .ok (.getfield 92, 3) := by decide +kernel
theorem dX0_passDay_70 : decode cX0_passDay 70 = .ok (.iload_n 2, 1) := by decide +kernel
theorem dX0_passDay_71 : decode cX0_passDay 71 = .ok (.iaload, 1) := by decide +kernel
theorem dX0_passDay_72 : decode cX0_passDay 72 = .ok (.aload_n 0, 1) := by decide +kernel
theorem dX0_passDay_73 : decode cX0_passDay 73 = .ok (.getfield 40, 3) := by decide +kernel
theorem dX0_passDay_76 : decode cX0_passDay 76 = .ok (.if_icmp .gt 47, 3) := by decide +kernel
theorem dX0_passDay_79 : decode cX0_passDay 79 = .ok (.aload_n 0, 1) := by decide +kernel
theorem dX0_passDay_80 : decode cX0_passDay 80 = .ok (.iload_n 2, 1) := by decide +kernel
theorem dX0_passDay_81 : decode cX0_passDay 81 = .ok (.invokevirtual 64, 3) := by decide +kernel
theorem dX0_passDay_84 : decode cX0_passDay 84 = .ok (.ifCond .ne 39, 3) := by decide +kernel
theorem dX0_passDay_87 : decode cX0_passDay 87 = .ok (.aload_n 0, 1) := by decide +kernel
theorem dX0_passDay_88 : decode cX0_passDay 88 = .ok (.getfield 18, 3) := by decide +kernel
theorem dX0_passDay_91 : decode cX0_passDay 91 = .ok (.iload_n 2, 1) := by decide +kernel
theorem dX0_passDay_92 : decode cX0_passDay 92 = .ok (.iaload, 1) := by decide +kernel
theorem dX0_passDay_93 : decode cX0_passDay 93 = .ok (.ifCond .ne 30, 3) := by decide +kernel
theorem dX0_passDay_96 : decode cX0_passDay 96 = .ok (.aload_n 0, 1) := by decide +kernel
theorem dX0_passDay_97 : decode cX0_passDay 97 = .ok (.getfield 21, 3) := by decide +kernel
theorem dX0_passDay_100 : decode cX0_passDay 100 = .ok (.iload_n 2, 1) := by decide +kernel
theorem dX0_passDay_101 : decode cX0_passDay 101 = .ok (.aload_n 0, 1) := by decide +kernel
theorem dX0_passDay_102 : decode cX0_passDay 102 = .ok (.getfield 40, 3) := by decide +kernel
theorem dX0_passDay_105 : decode cX0_passDay 105 = .ok (.iastore, 1) := by decide +kernel
theorem dX0_passDay_106 : decode cX0_passDay 106 = .ok (.aload_n 0, 1) := by decide +kernel
theorem dX0_passDay_107 : decode cX0_passDay 107 = .ok (.dup, 1) := by decide +kernel
theorem dX0_passDay_108 : decode cX0_passDay 108 = .ok (.getfield 28, 3) := by decide +kernel
theorem dX0_passDay_111 : decode cX0_passDay 111 = .ok (.aload_n 0, 1) := by decide +kernel
theorem dX0_passDay_112 : decode cX0_passDay 112 = .ok (.getfield 24, 3) := by decide +kernel
theorem dX0_passDay_115 : decode cX0_passDay 115 = .ok (.iconst 1, 1) := by decide +kernel
theorem dX0_passDay_116 : decode cX0_passDay 116 = .ok (.iload_n 2, 1) := by decide +kernel
theorem dX0_passDay_117 : decode cX0_passDay 117 = .ok (.ishl, 1) := by decide +kernel
theorem dX0_passDay_118 : decode cX0_passDay 118 = .ok (.iand, 1) := by decide +kernel
theorem dX0_passDay_119 : decode cX0_passDay 119 = .ok (.ior, 1) := by decide +kernel
theorem dX0_passDay_120 : decode cX0_passDay 120 = .ok (.putfield 28, 3) := by decide +kernel
theorem dX0_passDay_123 : decode cX0_passDay 123 = .ok (.iinc 2 1, 3) := by decide +kernel
theorem dX0_passDay_126 : decode cX0_passDay 126 = .ok (.goto (-74), 3) := by decide +kernel
theorem dX0_passDay_129 : decode cX0_passDay 129 = .ok (.iconst 0, 1) := by decide +kernel
theorem dX0_passDay_130 : decode cX0_passDay 130 = .ok (.istore_n 2, 1) := by decide +kernel
theorem dX0_passDay_131 : decode cX0_passDay 131 = .ok (.iload_n 2, 1) := by decide +kernel
theorem dX0_passDay_132 : decode cX0_passDay 132 = .ok (.aload_n 0, 1) := by decide +kernel
theorem dX0_passDay_133 : decode cX0_passDay 133 = .ok (.getfield 47, 3) := by decide +kernel
theorem dX0_passDay_136 : decode cX0_passDay 136 = .ok (.getfield 85, 3) := by decide +kernel
theorem dX0_passDay_139 : decode cX0_passDay 139 = .ok (.if_icmp .ge 28, 3) := by decide +kernel
theorem dX0_passDay_142 : decode cX0_passDay 142 = .ok (.aload_n 0, 1) := by decide +kernel
theorem dX0_passDay_143 : decode cX0_passDay 143 = .ok (.getfield 18, 3) := by decide +kernel
theorem dX0_passDay_146 : decode cX0_passDay 146 = .ok (.iload_n 2, 1) := by decide +kernel
theorem dX0_passDay_147 : decode cX0_passDay 147 = .ok (.iaload, 1) := by decide +kernel
theorem dX0_passDay_148 : decode cX0_passDay 148 = .ok (.ifCond .le 13, 3) := by decide +kernel
theorem dX0_passDay_151 : decode cX0_passDay 151 = .ok (.aload_n 0, 1) := by decide +kernel
theorem dX0_passDay_152 : decode cX0_passDay 152 = .ok (.getfield 18, 3) := by decide +kernel
theorem dX0_passDay_155 : decode cX0_passDay 155 = .ok (.iload_n 2, 1) := by decide +kernel
theorem dX0_passDay_156 : decode cX0_passDay 156 = .ok (.dup2, 1) := by decide +kernel
theorem dX0_passDay_157 : decode cX0_passDay 157 = .ok (.iaload, 1) := by decide +kernel
theorem dX0_passDay_158 : decode cX0_passDay 158 = .ok (.iconst 1, 1) := by decide +kernel
theorem dX0_passDay_159 : decode cX0_passDay 159 = .ok (.isub, 1) := by decide +kernel
theorem dX0_passDay_160 : decode cX0_passDay 160 = .ok (.iastore, 1) := by decide +kernel
theorem dX0_passDay_161 : decode cX0_passDay 161 = .ok (.iinc 2 1, 3) := by decide +kernel
theorem dX0_passDay_164 : decode cX0_passDay 164 = .ok (.goto (-33), 3) := by decide +kernel
theorem dX0_passDay_167 : decode cX0_passDay 167 = .ok (.aload_n 0, 1) := by decide +kernel
theorem dX0_passDay_168 : decode cX0_passDay 168 = .ok (.dup, 1) := by decide +kernel
theorem dX0_passDay_169 : decode cX0_passDay 169 = .ok (.getfield 40, 3) := by decide +kernel
theorem dX0_passDay_172 : decode cX0_passDay 172 = .ok (.iconst 1, 1) := by decide +kernel
theorem dX0_passDay_173 : decode cX0_passDay 173 = .ok (.iadd, 1) := by decide +kernel
theorem dX0_passDay_174 : decode cX0_passDay 174 = .ok (.putfield 40, 3) := by decide +kernel
theorem dX0_passDay_177 : decode cX0_passDay 177 = .ok (.aload_n 0, 1) := by decide +kernel
theorem dX0_passDay_178 : decode cX0_passDay 178 = .ok (.iconst 0, 1) := by decide +kernel
theorem dX0_passDay_179 : decode cX0_passDay 179 = .ok (.putfield 43, 3) := by decide +kernel
theorem dX0_passDay_182 : decode cX0_passDay 182 = .ok (.return_, 1) := by decide +kernel
theorem dX0_comeIn_0 : decode cX0_comeIn 0 = .ok (.aload_n 0, 1) := by decide +kernel
theorem dX0_comeIn_1 : decode cX0_comeIn 1 = .ok (.iload_n 1, 1) := by decide +kernel
theorem dX0_comeIn_2 : decode cX0_comeIn 2 = .ok (.invokevirtual 95, 3) := by decide +kernel
theorem dX0_comeIn_5 : decode cX0_comeIn 5 = .ok (.ifCond .eq 62, 3) := by decide +kernel
theorem dX0_comeIn_8 : decode cX0_comeIn 8 = .ok (.aload_n 0, 1) := by decide +kernel
theorem dX0_comeIn_9 : decode cX0_comeIn 9 = .ok (.dup, 1) := by decide +kernel
theorem dX0_comeIn_10 : decode cX0_comeIn 10 = .ok (.getfield 31, 3) := by decide +kernel
theorem dX0_comeIn_13 : decode cX0_comeIn 13 = .ok (.iconst 1, 1) := by decide +kernel
theorem dX0_comeIn_14 : decode cX0_comeIn 14 = .ok (.iload_n 1, 1) := by decide +kernel
theorem dX0_comeIn_15 : decode cX0_comeIn 15 = .ok (.ishl, 1) := by decide +kernel
theorem dX0_comeIn_16 : decode cX0_comeIn 16 = .ok (.ior, 1) := by decide +kernel
theorem dX0_comeIn_17 : decode cX0_comeIn 17 = .ok (.putfield 31, 3) := by decide +kernel
theorem dX0_comeIn_20 : decode cX0_comeIn 20 = .ok (.aload_n 0, 1) := by decide +kernel
theorem dX0_comeIn_21 : decode cX0_comeIn 21 = .ok (.dup, 1) := by decide +kernel
theorem dX0_comeIn_22 : decode cX0_comeIn 22 = .ok (.getfield 34, 3) := by decide +kernel
theorem dX0_comeIn_25 : decode cX0_comeIn 25 = .ok (.iconst 1, 1) := by decide +kernel
theorem dX0_comeIn_26 : decode cX0_comeIn 26 = .ok (.iadd, 1) := by decide +kernel
theorem dX0_comeIn_27 : decode cX0_comeIn 27 = .ok (.putfield 34, 3) := by decide +kernel
theorem dX0_comeIn_30 : decode cX0_comeIn 30 = .ok (.aload_n 0, 1) := by decide +kernel
theorem dX0_comeIn_31 : decode cX0_comeIn 31 = .ok (.getfield 15, 3) := by decide +kernel
theorem dX0_comeIn_34 : decode cX0_comeIn 34 = .ok (.iload_n 1, 1) := by decide +kernel
theorem dX0_comeIn_35 : decode cX0_comeIn 35 = .ok (.aload_n 0, 1) := by decide +kernel
theorem dX0_comeIn_36 : decode cX0_comeIn 36 = .ok (.getfield 40, 3) := by decide +kernel
theorem dX0_comeIn_39 : decode cX0_comeIn 39 = .ok (.iconst 1, 1) := by decide +kernel
theorem dX0_comeIn_40 : decode cX0_comeIn 40 = .ok (.iadd, 1) := by decide +kernel
theorem dX0_comeIn_41 : decode cX0_comeIn 41 = .ok (.iastore, 1) := by decide +kernel
theorem dX0_comeIn_42 : decode cX0_comeIn 42 = .ok (.aload_n 0, 1) := by decide +kernel
theorem dX0_comeIn_43 : decode cX0_comeIn 43 = .ok (.getfield 37, 3) := by decide +kernel
theorem dX0_comeIn_46 : decode cX0_comeIn 46 = .ok (.ifCond .le 20, 3) := by decide +kernel
theorem dX0_comeIn_49 : decode cX0_comeIn 49 = .ok (.aload_n 0, 1) := by decide +kernel
theorem dX0_comeIn_50 : decode cX0_comeIn 50 = .ok (.dup, 1) := by decide +kernel
theorem dX0_comeIn_51 : decode cX0_comeIn 51 = .ok (.getfield 37, 3) := by decide +kernel
theorem dX0_comeIn_54 : decode cX0_comeIn 54 = .ok (.iconst 1, 1) := by decide +kernel
theorem dX0_comeIn_55 : decode cX0_comeIn 55 = .ok (.isub, 1) := by decide +kernel
theorem dX0_comeIn_56 : decode cX0_comeIn 56 = .ok (.putfield 37, 3) := by decide +kernel
theorem dX0_comeIn_59 : decode cX0_comeIn 59 = .ok (.aload_n 0, 1) := by decide +kernel
theorem dX0_comeIn_60 : decode cX0_comeIn 60 = .ok (.getfield 9, 3) := by decide +kernel
theorem dX0_comeIn_63 : decode cX0_comeIn 63 = .ok (.iload_n 1, 1) := by decide +kernel
theorem dX0_comeIn_64 : decode cX0_comeIn 64 = .ok (.iconst 2, 1) := by decide +kernel
theorem dX0_comeIn_65 : decode cX0_comeIn 65 = .ok (.iastore, 1) := by decide +kernel
theorem dX0_comeIn_66 : decode cX0_comeIn 66 = .ok (.return_, 1) := by decide +kernel
theorem dX0_comeIn_67 : decode cX0_comeIn 67 = .ok (.aload_n 0, 1) := by decide +kernel
theorem dX0_comeIn_68 : decode cX0_comeIn 68 = .ok (.getfield 18, 3) := by decide +kernel
theorem dX0_comeIn_71 : decode cX0_comeIn 71 = .ok (.iload_n 1, 1) := by decide +kernel
theorem dX0_comeIn_72 : decode cX0_comeIn 72 = .ok (.aload_n 0, 1) := by decide +kernel
theorem dX0_comeIn_73 : decode cX0_comeIn 73 = .ok (.getfield 47, 3) := by decide +kernel
theorem dX0_comeIn_76 : decode cX0_comeIn 76 = .ok (.getfield 98, 3) := by decide +kernel
theorem dX0_comeIn_79 : decode cX0_comeIn 79 = .ok (.iload_n 1, 1) := by decide +kernel
theorem dX0_comeIn_80 : decode cX0_comeIn 80 = .ok (.iaload, 1) := by decide +kernel
theorem dX0_comeIn_81 : decode cX0_comeIn 81 = .ok (.aload_n 0, 1) := by decide +kernel
theorem dX0_comeIn_82 : decode cX0_comeIn 82 = .ok (.getfield 9, 3) := by decide +kernel
theorem dX0_comeIn_85 : decode cX0_comeIn 85 = .ok (.iload_n 1, 1) := by decide +kernel
theorem dX0_comeIn_86 : decode cX0_comeIn 86 = .ok (.iaload, 1) := by decide +kernel
theorem dX0_comeIn_87 : decode cX0_comeIn 87 = .ok (.invokestatic 101, 3) := by decide +kernel
theorem dX0_comeIn_90 : decode cX0_comeIn 90 = .ok (.iastore, 1) := by decide +kernel
theorem dX0_comeIn_91 : decode cX0_comeIn 91 = .ok (.aload_n 0, 1) := by decide +kernel
theorem dX0_comeIn_92 : decode cX0_comeIn 92 = .ok (.dup, 1) := by decide +kernel
theorem dX0_comeIn_93 : decode cX0_comeIn 93 = .ok (.getfield 24, 3) := by decide +kernel
theorem dX0_comeIn_96 : decode cX0_comeIn 96 = .ok (.iconst 1, 1) := by decide +kernel
theorem dX0_comeIn_97 : decode cX0_comeIn 97 = .ok (.iload_n 1, 1) := by decide +kernel
theorem dX0_comeIn_98 : decode cX0_comeIn 98 = .ok (.ishl, 1) := by decide +kernel
theorem dX0_comeIn_99 : decode cX0_comeIn 99 = .ok (.ior, 1) := by decide +kernel
theorem dX0_comeIn_100 : decode cX0_comeIn 100 = .ok (.putfield 24, 3) := by decide +kernel
theorem dX0_comeIn_103 : decode cX0_comeIn 103 = .ok (.aload_n 0, 1) := by decide +kernel
theorem dX0_comeIn_104 : decode cX0_comeIn 104 = .ok (.getfield 9, 3) := by decide +kernel
theorem dX0_comeIn_107 : decode cX0_comeIn 107 = .ok (.iload_n 1, 1) := by decide +kernel
theorem dX0_comeIn_108 : decode cX0_comeIn 108 = .ok (.iconst 0, 1) := by decide +kernel
theorem dX0_comeIn_109 : decode cX0_comeIn 109 = .ok (.iastore, 1) := by decide +kernel
theorem dX0_comeIn_110 : decode cX0_comeIn 110 = .ok (.aload_n 0, 1) := by decide +kernel
theorem dX0_comeIn_111 : decode cX0_comeIn 111 = .ok (.getfield 15, 3) := by decide +kernel
theorem dX0_comeIn_114 : decode cX0_comeIn 114 = .ok (.iload_n 1, 1) := by decide +kernel
theorem dX0_comeIn_115 : decode cX0_comeIn 115 = .ok (.bipush (-4), 2) := by decide +kernel
theorem dX0_comeIn_117 : decode cX0_comeIn 117 = .ok (.iastore, 1) := by decide +kernel
theorem dX0_comeIn_118 : decode cX0_comeIn 118 = .ok (.return_, 1) := by decide +kernel
theorem dX0_actByDraw_0 : decode cX0_actByDraw 0 = .ok (.aload_n 0, 1) := by decide +kernel
theorem dX0_actByDraw_1 : decode cX0_actByDraw 1 = .ok (.getfield 47, 3) := by decide +kernel
theorem dX0_actByDraw_4 : decode cX0_actByDraw 4 = .ok (.getfield 85, 3) := by decide +kernel
theorem dX0_actByDraw_7 : decode cX0_actByDraw 7 = .ok (.ifCond .gt 4, 3) := by decide +kernel
theorem dX0_actByDraw_10 : decode cX0_actByDraw 10 = .ok (.return_, 1) := by decide +kernel
theorem dX0_actByDraw_11 : decode cX0_actByDraw 11 = .ok (.iload_n 1, 1) := by decide +kernel
theorem dX0_actByDraw_12 : decode cX0_actByDraw 12 = .ok (.aload_n 0, 1) := by decide +kernel
theorem dX0_actByDraw_13 : decode cX0_actByDraw 13 = .ok (.getfield 47, 3) := by decide +kernel
theorem dX0_actByDraw_16 : decode cX0_actByDraw 16 = .ok (.getfield 85, 3) := by decide +kernel
theorem dX0_actByDraw_19 : decode cX0_actByDraw 19 = .ok (.irem, 1) := by decide +kernel
theorem dX0_actByDraw_20 : decode cX0_actByDraw 20 = .ok (.istore_n 2, 1) := by decide +kernel
theorem dX0_actByDraw_21 : decode cX0_actByDraw 21 = .ok (.iload_n 1, 1) := by decide +kernel
theorem dX0_actByDraw_22 : decode cX0_actByDraw 22 = .ok (.bipush 8, 2) := by decide +kernel
theorem dX0_actByDraw_24 : decode cX0_actByDraw 24 = .ok (.idiv, 1) := by decide +kernel
theorem dX0_actByDraw_25 : decode cX0_actByDraw 25 = .ok (.iconst 4, 1) := by decide +kernel
theorem dX0_actByDraw_26 : decode cX0_actByDraw 26 = .ok (.irem, 1) := by decide +kernel
theorem dX0_actByDraw_27 : decode cX0_actByDraw 27 = .ok (.istore_n 3, 1) := by decide +kernel
theorem dX0_actByDraw_28 : decode cX0_actByDraw 28 = .ok (.iload_n 3, 1) := by decide +kernel
theorem dX0_actByDraw_29 : decode cX0_actByDraw 29 = .ok (.iconst 2, 1) := by decide +kernel
theorem dX0_actByDraw_30 : decode cX0_actByDraw 30 = .ok (.if_icmp .ge 19, 3) := by decide +kernel
theorem dX0_actByDraw_33 : decode cX0_actByDraw 33 = .ok (.aload_n 0, 1) := by decide +kernel
theorem dX0_actByDraw_34 : decode cX0_actByDraw 34 = .ok (.iload_n 2, 1) := by decide +kernel
theorem dX0_actByDraw_35 : decode cX0_actByDraw 35 = .ok (.invokevirtual 104, 3) := by decide +kernel
theorem dX0_actByDraw_38 : decode cX0_actByDraw 38 = .ok (.ifCond .eq 11, 3) := by decide +kernel
theorem dX0_actByDraw_41 : decode cX0_actByDraw 41 = .ok (.aload_n 0, 1) := by decide +kernel
theorem dX0_actByDraw_42 : decode cX0_actByDraw 42 = .ok (.iload_n 2, 1) := by decide +kernel
theorem dX0_actByDraw_43 : decode cX0_actByDraw 43 = .ok (.invokevirtual 107, 3) := by decide +kernel
theorem dX0_actByDraw_46 : decode cX0_actByDraw 46 = .ok (.goto 49, 3) := by decide +kernel
theorem dX0_actByDraw_49 : decode cX0_actByDraw 49 = .ok (.iload_n 3, 1) := by decide +kernel
theorem dX0_actByDraw_50 : decode cX0_actByDraw 50 = .ok (.iconst 2, 1) := by decide +kernel
theorem dX0_actByDraw_51 : decode cX0_actByDraw 51 = .ok (.if_icmp .ne 20, 3) := by decide +kernel
theorem dX0_actByDraw_54 : decode cX0_actByDraw 54 = .ok (.aload_n 0, 1) := by decide +kernel
theorem dX0_actByDraw_55 : decode cX0_actByDraw 55 = .ok (.getfield 9, 3) := by decide +kernel
theorem dX0_actByDraw_58 : decode cX0_actByDraw 58 = .ok (.iload_n 2, 1) := by decide +kernel
theorem dX0_actByDraw_59 : decode cX0_actByDraw 59 = .ok (.iaload, 1) := by decide +kernel
theorem dX0_actByDraw_60 : decode cX0_actByDraw 60 = .ok (.ifCond .le 11, 3) := by decide +kernel
theorem dX0_actByDraw_63 : decode cX0_actByDraw 63 = .ok (.aload_n 0, 1) := by decide +kernel
theorem dX0_actByDraw_64 : decode cX0_actByDraw 64 = .ok (.iload_n 2, 1) := by decide +kernel
theorem dX0_actByDraw_65 : decode cX0_actByDraw 65 = .ok (.invokevirtual 110, 3) := by decide +kernel
theorem dX0_actByDraw_68 : decode cX0_actByDraw 68 = .ok (.goto 27, 3) := by decide +kernel
theorem dX0_actByDraw_71 : decode cX0_actByDraw 71 = .ok (.iload_n 3, 1) := by decide +kernel
theorem dX0_actByDraw_72 : decode cX0_actByDraw 72 = .ok (.iconst 3, 1) := by decide +kernel
theorem dX0_actByDraw_73 : decode cX0_actByDraw 73 = .ok (.if_icmp .ne 22, 3) := by decide +kernel
theorem dX0_actByDraw_76 : decode cX0_actByDraw 76 = .ok (.aload_n 0, 1) := by decide +kernel
theorem dX0_actByDraw_77 : decode cX0_actByDraw 77 = .ok (.getfield 37, 3) := by decide +kernel
theorem dX0_actByDraw_80 : decode cX0_actByDraw 80 = .ok (.bipush 20, 2) := by decide +kernel
theorem dX0_actByDraw_82 : decode cX0_actByDraw 82 = .ok (.if_icmp .ge 13, 3) := by decide +kernel
theorem dX0_actByDraw_85 : decode cX0_actByDraw 85 = .ok (.aload_n 0, 1) := by decide +kernel
theorem dX0_actByDraw_86 : decode cX0_actByDraw 86 = .ok (.dup, 1) := by decide +kernel
theorem dX0_actByDraw_87 : decode cX0_actByDraw 87 = .ok (.getfield 37, 3) := by decide +kernel
theorem dX0_actByDraw_90 : decode cX0_actByDraw 90 = .ok (.iconst 1, 1) := by decide +kernel
theorem dX0_actByDraw_91 : decode cX0_actByDraw 91 = .ok (.iadd, 1) := by decide +kernel
theorem dX0_actByDraw_92 : decode cX0_actByDraw 92 = .ok (.putfield 37, 3) := by decide +kernel
theorem dX0_actByDraw_95 : decode cX0_actByDraw 95 = .ok (.return_, 1) := by decide +kernel
theorem dX0_endsSoft_0 : decode cX0_endsSoft 0 = .ok (.aload_n 0, 1) := by decide +kernel
theorem dX0_endsSoft_1 : decode cX0_endsSoft 1 = .ok (.iload_n 1, 1) := by decide +kernel
theorem dX0_endsSoft_2 : decode cX0_endsSoft 2 = .ok (.invokevirtual 64, 3) := by decide +kernel
theorem dX0_endsSoft_5 : decode cX0_endsSoft 5 = .ok (.ifCond .eq 12, 3) := by decide +kernel
theorem dX0_endsSoft_8 : decode cX0_endsSoft 8 = .ok (.aload_n 0, 1) := by decide +kernel
theorem dX0_endsSoft_9 : decode cX0_endsSoft 9 = .ok (.getfield 28, 3) := by decide +kernel
theorem dX0_endsSoft_12 : decode cX0_endsSoft 12 = .ok (.iload_n 1, 1) := by decide +kernel
theorem dX0_endsSoft_13 : decode cX0_endsSoft 13 = .ok (.invokestatic 60, 3) := by decide +kernel
theorem dX0_endsSoft_16 : decode cX0_endsSoft 16 = .ok (.ireturn, 1) := by decide +kernel
theorem dX0_endsSoft_17 : decode cX0_endsSoft 17 = .ok (.aload_n 0, 1) := by decide +kernel
theorem dX0_endsSoft_18 : decode cX0_endsSoft 18 = .ok (.getfield 24, 3) := by decide +kernel
theorem dX0_endsSoft_21 : decode cX0_endsSoft 21 = .ok (.iload_n 1, 1) := by decide +kernel
theorem dX0_endsSoft_22 : decode cX0_endsSoft 22 = .ok (.invokestatic 60, 3) := by decide +kernel
theorem dX0_endsSoft_25 : decode cX0_endsSoft 25 = .ok (.ifCond .eq 5, 3) := by decide +kernel
theorem dX0_endsSoft_28 : decode cX0_endsSoft 28 = .ok (.iconst 1, 1) := by decide +kernel
theorem dX0_endsSoft_29 : decode cX0_endsSoft 29 = .ok (.ireturn, 1) := by decide +kernel
theorem dX0_endsSoft_30 : decode cX0_endsSoft 30 = .ok (.aload_n 0, 1) := by decide +kernel
theorem dX0_endsSoft_31 : decode cX0_endsSoft 31 = .ok (.getfield 15, 3) := by decide +kernel
theorem dX0_endsSoft_34 : decode cX0_endsSoft 34 = .ok (.iload_n 1, 1) := by decide +kernel
theorem dX0_endsSoft_35 : decode cX0_endsSoft 35 = .ok (.iaload, 1) := by decide +kernel
theorem dX0_endsSoft_36 : decode cX0_endsSoft 36 = .ok (.aload_n 0, 1) := by decide +kernel
theorem dX0_endsSoft_37 : decode cX0_endsSoft 37 = .ok (.getfield 40, 3) := by decide +kernel
theorem dX0_endsSoft_40 : decode cX0_endsSoft 40 = .ok (.invokestatic 113, 3) := by decide +kernel
theorem dX0_endsSoft_43 : decode cX0_endsSoft 43 = .ok (.aload_n 0, 1) := by decide +kernel
theorem dX0_endsSoft_44 : decode cX0_endsSoft 44 = .ok (.iload_n 1, 1) := by decide +kernel
theorem dX0_endsSoft_45 : decode cX0_endsSoft 45 = .ok (.invokevirtual 95, 3) := by decide +kernel
theorem dX0_endsSoft_48 : decode cX0_endsSoft 48 = .ok (.ifCond .eq 7, 3) := by decide +kernel
theorem dX0_endsSoft_51 : decode cX0_endsSoft 51 = .ok (.iconst 1, 1) := by decide +kernel
theorem dX0_endsSoft_52 : decode cX0_endsSoft 52 = .ok (.goto 4, 3) := by decide +kernel
theorem dX0_endsSoft_55 : decode cX0_endsSoft 55 = .ok (.iconst 0, 1) := by decide +kernel
theorem dX0_endsSoft_56 : decode cX0_endsSoft 56 = .ok (.iadd, 1) := by decide +kernel
theorem dX0_endsSoft_57 : decode cX0_endsSoft 57 = .ok (.istore_n 2, 1) := by decide +kernel
theorem dX0_endsSoft_58 : decode cX0_endsSoft 58 = .ok (.aload_n 0, 1) := by decide +kernel
theorem dX0_endsSoft_59 : decode cX0_endsSoft 59 = .ok (.getfield 9, 3) := by decide +kernel
theorem dX0_endsSoft_62 : decode cX0_endsSoft 62 = .ok (.iload_n 1, 1) := by decide +kernel
theorem dX0_endsSoft_63 : decode cX0_endsSoft 63 = .ok (.iaload, 1) := by decide +kernel
theorem dX0_endsSoft_64 : decode cX0_endsSoft 64 = .ok (.ifCond .le 20, 3) := by decide +kernel
theorem dX0_endsSoft_67 : decode cX0_endsSoft 67 = .ok (.iload_n 2, 1) := by decide +kernel
theorem dX0_endsSoft_68 : decode cX0_endsSoft 68 = .ok (.aload_n 0, 1) := by decide +kernel
theorem dX0_endsSoft_69 : decode cX0_endsSoft 69 = .ok (.getfield 47, 3) := by decide +kernel
theorem dX0_endsSoft_72 : decode cX0_endsSoft 72 = .ok (.getfield 92, 3) := by decide +kernel
theorem dX0_endsSoft_75 : decode cX0_endsSoft 75 = .ok (.iload_n 1, 1) := by decide +kernel
theorem dX0_endsSoft_76 : decode cX0_endsSoft 76 = .ok (.iaload, 1) := by decide +kernel
theorem dX0_endsSoft_77 : decode cX0_endsSoft 77 = .ok (.if_icmp .gt 7, 3) := by decide +kernel
theorem dX0_endsSoft_80 : decode cX0_endsSoft 80 = .ok (.iconst 1, 1) := by decide +kernel
theorem dX0_endsSoft_81 : decode cX0_endsSoft 81 = .ok (.goto 4, 3) := by decide +kernel
theorem dX0_endsSoft_84 : decode cX0_endsSoft 84 = .ok (.iconst 0, 1) := by decide +kernel
theorem dX0_endsSoft_85 : decode cX0_endsSoft 85 = .ok (.ireturn, 1) := by decide +kernel
theorem dX0_spareDays_0 : decode cX0_spareDays 0 = .ok (.aload_n 0, 1) := by decide +kernel
theorem dX0_spareDays_1 : decode cX0_spareDays 1 = .ok (.getfield 47, 3) := by decide +kernel
theorem dX0_spareDays_4 : decode cX0_spareDays 4 = .ok (.getfield 92, 3) := by decide +kernel
theorem dX0_spareDays_7 : decode cX0_spareDays 7 = .ok (.iload_n 1, 1) := by decide +kernel
theorem dX0_spareDays_8 : decode cX0_spareDays 8 = .ok (.iaload, 1) := by decide +kernel
theorem dX0_spareDays_9 : decode cX0_spareDays 9 = .ok (.aload_n 0, 1) := by decide +kernel
theorem dX0_spareDays_10 : decode cX0_spareDays 10 = .ok (.getfield 40, 3) := by decide +kernel
theorem dX0_spareDays_13 : decode cX0_spareDays 13 = .ok (.isub, 1) := by decide +kernel
theorem dX0_spareDays_14 : decode cX0_spareDays 14 = .ok (.aload_n 0, 1) := by decide +kernel
theorem dX0_spareDays_15 : decode cX0_spareDays 15 = .ok (.iload_n 1, 1) := by decide +kernel
theorem dX0_spareDays_16 : decode cX0_spareDays 16 = .ok (.invokevirtual 71, 3) := by decide +kernel
theorem dX0_spareDays_19 : decode cX0_spareDays 19 = .ok (.isub, 1) := by decide +kernel
theorem dX0_spareDays_20 : decode cX0_spareDays 20 = .ok (.aload_n 0, 1) := by decide +kernel
theorem dX0_spareDays_21 : decode cX0_spareDays 21 = .ok (.iload_n 1, 1) := by decide +kernel
theorem dX0_spareDays_22 : decode cX0_spareDays 22 = .ok (.invokevirtual 95, 3) := by decide +kernel
theorem dX0_spareDays_25 : decode cX0_spareDays 25 = .ok (.ifCond .eq 7, 3) := by decide +kernel
theorem dX0_spareDays_28 : decode cX0_spareDays 28 = .ok (.iconst 1, 1) := by decide +kernel
theorem dX0_spareDays_29 : decode cX0_spareDays 29 = .ok (.goto 4, 3) := by decide +kernel
theorem dX0_spareDays_32 : decode cX0_spareDays 32 = .ok (.iconst 0, 1) := by decide +kernel
theorem dX0_spareDays_33 : decode cX0_spareDays 33 = .ok (.isub, 1) := by decide +kernel
theorem dX0_spareDays_34 : decode cX0_spareDays 34 = .ok (.ireturn, 1) := by decide +kernel
theorem dX0_finalWeight_0 : decode cX0_finalWeight 0 = .ok (.iconst 0, 1) := by decide +kernel
theorem dX0_finalWeight_1 : decode cX0_finalWeight 1 = .ok (.istore_n 2, 1) := by decide +kernel
theorem dX0_finalWeight_2 : decode cX0_finalWeight 2 = .ok (.iconst 0, 1) := by decide +kernel
theorem dX0_finalWeight_3 : decode cX0_finalWeight 3 = .ok (.istore_n 3, 1) := by decide +kernel
theorem dX0_finalWeight_4 : decode cX0_finalWeight 4 = .ok (.iload_n 3, 1) := by decide +kernel
theorem dX0_finalWeight_5 : decode cX0_finalWeight 5 = .ok (.aload_n 0, 1) := by decide +kernel
theorem dX0_finalWeight_6 : decode cX0_finalWeight 6 = .ok (.getfield 47, 3) := by decide +kernel
theorem dX0_finalWeight_9 : decode cX0_finalWeight 9 = .ok (.getfield 85, 3) := by decide +kernel
theorem dX0_finalWeight_12 : decode cX0_finalWeight 12 = .ok (.if_icmp .ge 45, 3) := by decide +kernel
theorem dX0_finalWeight_15 : decode cX0_finalWeight 15 = .ok (.aload_n 0, 1) := by decide +kernel
theorem dX0_finalWeight_16 : decode cX0_finalWeight 16 = .ok (.iload_n 3, 1) := by decide +kernel
theorem dX0_finalWeight_17 : decode cX0_finalWeight 17 = .ok (.invokevirtual 116, 3) := by decide +kernel
theorem dX0_finalWeight_20 : decode cX0_finalWeight 20 = .ok (.ifCond .ne 19, 3) := by decide +kernel
theorem dX0_finalWeight_23 : decode cX0_finalWeight 23 = .ok (.iload_n 1, 1) := by decide +kernel
theorem dX0_finalWeight_24 : decode cX0_finalWeight 24 = .ok (.iload_n 3, 1) := by decide +kernel
theorem dX0_finalWeight_25 : decode cX0_finalWeight 25 = .ok (.invokestatic 60, 3) := by decide +kernel
theorem dX0_finalWeight_28 : decode cX0_finalWeight 28 = .ok (.ifCond .eq 23, 3) := by decide +kernel
theorem dX0_finalWeight_31 : decode cX0_finalWeight 31 = .ok (.aload_n 0, 1) := by decide +kernel
theorem dX0_finalWeight_32 : decode cX0_finalWeight 32 = .ok (.iload_n 3, 1) := by decide +kernel
theorem dX0_finalWeight_33 : decode cX0_finalWeight 33 = .ok (.invokevirtual 119, 3) := by decide +kernel
theorem dX0_finalWeight_36 : decode cX0_finalWeight 36 = .ok (.ifCond .lt 15, 3) := by decide +kernel
theorem dX0_finalWeight_39 : decode cX0_finalWeight 39 = .ok (.iload_n 2, 1) := by decide +kernel
theorem dX0_finalWeight_40 : decode cX0_finalWeight 40 = .ok (.aload_n 0, 1) := by decide +kernel
theorem dX0_finalWeight_41 : decode cX0_finalWeight 41 = .ok (.getfield 47, 3) := by decide +kernel
theorem dX0_finalWeight_44 : decode cX0_finalWeight 44 = .ok (.getfield 122, 3) := by decide +kernel
theorem dX0_finalWeight_47 : decode cX0_finalWeight 47 = .ok (.iload_n 3, 1) := by decide +kernel
theorem dX0_finalWeight_48 : decode cX0_finalWeight 48 = .ok (.iaload, 1) := by decide +kernel
theorem dX0_finalWeight_49 : decode cX0_finalWeight 49 = .ok (.iadd, 1) := by decide +kernel
theorem dX0_finalWeight_50 : decode cX0_finalWeight 50 = .ok (.istore_n 2, 1) := by decide +kernel
theorem dX0_finalWeight_51 : decode cX0_finalWeight 51 = .ok (.iinc 3 1, 3) := by decide +kernel
theorem dX0_finalWeight_54 : decode cX0_finalWeight 54 = .ok (.goto (-50), 3) := by decide +kernel
theorem dX0_finalWeight_57 : decode cX0_finalWeight 57 = .ok (.iload_n 2, 1) := by decide +kernel
theorem dX0_finalWeight_58 : decode cX0_finalWeight 58 = .ok (.ireturn, 1) := by decide +kernel
theorem dX0_softWeight_0 : decode cX0_softWeight 0 = .ok (.iconst 0, 1) := by decide +kernel
theorem dX0_softWeight_1 : decode cX0_softWeight 1 = .ok (.istore_n 1, 1) := by decide +kernel
theorem dX0_softWeight_2 : decode cX0_softWeight 2 = .ok (.iconst 0, 1) := by decide +kernel
theorem dX0_softWeight_3 : decode cX0_softWeight 3 = .ok (.istore_n 2, 1) := by decide +kernel
theorem dX0_softWeight_4 : decode cX0_softWeight 4 = .ok (.iload_n 2, 1) := by decide +kernel
theorem dX0_softWeight_5 : decode cX0_softWeight 5 = .ok (.aload_n 0, 1) := by decide +kernel
theorem dX0_softWeight_6 : decode cX0_softWeight 6 = .ok (.getfield 47, 3) := by decide +kernel
theorem dX0_softWeight_9 : decode cX0_softWeight 9 = .ok (.getfield 85, 3) := by decide +kernel
theorem dX0_softWeight_12 : decode cX0_softWeight 12 = .ok (.if_icmp .ge 32, 3) := by decide +kernel
theorem dX0_softWeight_15 : decode cX0_softWeight 15 = .ok (.aload_n 0, 1) := by decide +kernel
theorem dX0_softWeight_16 : decode cX0_softWeight 16 = .ok (.getfield 28, 3) := by decide +kernel
theorem dX0_softWeight_19 : decode cX0_softWeight 19 = .ok (.iload_n 2, 1) := by decide +kernel
theorem dX0_softWeight_20 : decode cX0_softWeight 20 = .ok (.invokestatic 60, 3) := by decide +kernel
theorem dX0_softWeight_23 : decode cX0_softWeight 23 = .ok (.ifCond .eq 15, 3) := by decide +kernel
theorem dX0_softWeight_26 : decode cX0_softWeight 26 = .ok (.iload_n 1, 1) := by decide +kernel
theorem dX0_softWeight_27 : decode cX0_softWeight 27 = .ok (.aload_n 0, 1) := by decide +kernel
theorem dX0_softWeight_28 : decode cX0_softWeight 28 = .ok (.getfield 47, 3) := by decide +kernel
theorem dX0_softWeight_31 : decode cX0_softWeight 31 = .ok (.getfield 122, 3) := by decide +kernel
theorem dX0_softWeight_34 : decode cX0_softWeight 34 = .ok (.iload_n 2, 1) := by decide +kernel
theorem dX0_softWeight_35 : decode cX0_softWeight 35 = .ok (.iaload, 1) := by decide +kernel
theorem dX0_softWeight_36 : decode cX0_softWeight 36 = .ok (.iadd, 1) := by decide +kernel
theorem dX0_softWeight_37 : decode cX0_softWeight 37 = .ok (.istore_n 1, 1) := by decide +kernel
theorem dX0_softWeight_38 : decode cX0_softWeight 38 = .ok (.iinc 2 1, 3) := by decide +kernel
theorem dX0_softWeight_41 : decode cX0_softWeight 41 = .ok (.goto (-37), 3) := by decide +kernel
theorem dX0_softWeight_44 : decode cX0_softWeight 44 = .ok (.iload_n 1, 1) := by decide +kernel
theorem dX0_softWeight_45 : decode cX0_softWeight 45 = .ok (.ireturn, 1) := by decide +kernel
theorem dX0_allOnWay_0 : decode cX0_allOnWay 0 = .ok (.iconst 0, 1) := by decide +kernel
theorem dX0_allOnWay_1 : decode cX0_allOnWay 1 = .ok (.istore_n 1, 1) := by decide +kernel
theorem dX0_allOnWay_2 : decode cX0_allOnWay 2 = .ok (.iconst 0, 1) := by decide +kernel
theorem dX0_allOnWay_3 : decode cX0_allOnWay 3 = .ok (.istore_n 2, 1) := by decide +kernel
theorem dX0_allOnWay_4 : decode cX0_allOnWay 4 = .ok (.iload_n 2, 1) := by decide +kernel
theorem dX0_allOnWay_5 : decode cX0_allOnWay 5 = .ok (.aload_n 0, 1) := by decide +kernel
theorem dX0_allOnWay_6 : decode cX0_allOnWay 6 = .ok (.getfield 47, 3) := by decide +kernel
theorem dX0_allOnWay_9 : decode cX0_allOnWay 9 = .ok (.getfield 85, 3) := by decide +kernel
theorem dX0_allOnWay_12 : decode cX0_allOnWay 12 = .ok (.if_icmp .ge 18, 3) := by decide +kernel
theorem dX0_allOnWay_15 : decode cX0_allOnWay 15 = .ok (.iload_n 1, 1) := by decide +kernel
theorem dX0_allOnWay_16 : decode cX0_allOnWay 16 = .ok (.aload_n 0, 1) := by decide +kernel
theorem dX0_allOnWay_17 : decode cX0_allOnWay 17 = .ok (.getfield 9, 3) := by decide +kernel
theorem dX0_allOnWay_20 : decode cX0_allOnWay 20 = .ok (.iload_n 2, 1) := by decide +kernel
theorem dX0_allOnWay_21 : decode cX0_allOnWay 21 = .ok (.iaload, 1) := by decide +kernel
theorem dX0_allOnWay_22 : decode cX0_allOnWay 22 = .ok (.iadd, 1) := by decide +kernel
theorem dX0_allOnWay_23 : decode cX0_allOnWay 23 = .ok (.istore_n 1, 1) := by decide +kernel
theorem dX0_allOnWay_24 : decode cX0_allOnWay 24 = .ok (.iinc 2 1, 3) := by decide +kernel
theorem dX0_allOnWay_27 : decode cX0_allOnWay 27 = .ok (.goto (-23), 3) := by decide +kernel
theorem dX0_allOnWay_30 : decode cX0_allOnWay 30 = .ok (.iload_n 1, 1) := by decide +kernel
theorem dX0_allOnWay_31 : decode cX0_allOnWay 31 = .ok (.ireturn, 1) := by decide +kernel
theorem dX0_eatingBits_0 : decode cX0_eatingBits 0 = .ok (.iconst 0, 1) := by decide +kernel
theorem dX0_eatingBits_1 : decode cX0_eatingBits 1 = .ok (.istore_n 1, 1) := by decide +kernel
theorem dX0_eatingBits_2 : decode cX0_eatingBits 2 = .ok (.iconst 0, 1) := by decide +kernel
theorem dX0_eatingBits_3 : decode cX0_eatingBits 3 = .ok (.istore_n 2, 1) := by decide +kernel
theorem dX0_eatingBits_4 : decode cX0_eatingBits 4 = .ok (.iload_n 2, 1) := by decide +kernel
theorem dX0_eatingBits_5 : decode cX0_eatingBits 5 = .ok (.aload_n 0, 1) := by decide +kernel
theorem dX0_eatingBits_6 : decode cX0_eatingBits 6 = .ok (.getfield 47, 3) := by decide +kernel
theorem dX0_eatingBits_9 : decode cX0_eatingBits 9 = .ok (.getfield 85, 3) := by decide +kernel
theorem dX0_eatingBits_12 : decode cX0_eatingBits 12 = .ok (.if_icmp .ge 24, 3) := by decide +kernel
theorem dX0_eatingBits_15 : decode cX0_eatingBits 15 = .ok (.aload_n 0, 1) := by decide +kernel
theorem dX0_eatingBits_16 : decode cX0_eatingBits 16 = .ok (.getfield 18, 3) := by decide +kernel
theorem dX0_eatingBits_19 : decode cX0_eatingBits 19 = .ok (.iload_n 2, 1) := by decide +kernel
theorem dX0_eatingBits_20 : decode cX0_eatingBits 20 = .ok (.iaload, 1) := by decide +kernel
theorem dX0_eatingBits_21 : decode cX0_eatingBits 21 = .ok (.ifCond .le 9, 3) := by decide +kernel
theorem dX0_eatingBits_24 : decode cX0_eatingBits 24 = .ok (.iload_n 1, 1) := by decide +kernel
theorem dX0_eatingBits_25 : decode cX0_eatingBits 25 = .ok (.iconst 1, 1) := by decide +kernel
theorem dX0_eatingBits_26 : decode cX0_eatingBits 26 = .ok (.iload_n 2, 1) := by decide +kernel
theorem dX0_eatingBits_27 : decode cX0_eatingBits 27 = .ok (.ishl, 1) := by decide +kernel
theorem dX0_eatingBits_28 : decode cX0_eatingBits 28 = .ok (.ior, 1) := by decide +kernel
theorem dX0_eatingBits_29 : decode cX0_eatingBits 29 = .ok (.istore_n 1, 1) := by decide +kernel
theorem dX0_eatingBits_30 : decode cX0_eatingBits 30 = .ok (.iinc 2 1, 3) := by decide +kernel
theorem dX0_eatingBits_33 : decode cX0_eatingBits 33 = .ok (.goto (-29), 3) := by decide +kernel
theorem dX0_eatingBits_36 : decode cX0_eatingBits 36 = .ok (.iload_n 1, 1) := by decide +kernel
theorem dX0_eatingBits_37 : decode cX0_eatingBits 37 = .ok (.ireturn, 1) := by decide +kernel
theorem dX0_toldBits_0 : decode cX0_toldBits 0 = .ok (.iconst 0, 1) := by decide +kernel
theorem dX0_toldBits_1 : decode cX0_toldBits 1 = .ok (.istore_n 1, 1) := by decide +kernel
theorem dX0_toldBits_2 : decode cX0_toldBits 2 = .ok (.iconst 0, 1) := by decide +kernel
theorem dX0_toldBits_3 : decode cX0_toldBits 3 = .ok (.istore_n 2, 1) := by decide +kernel
theorem dX0_toldBits_4 : decode cX0_toldBits 4 = .ok (.iload_n 2, 1) := by decide +kernel
theorem dX0_toldBits_5 : decode cX0_toldBits 5 = .ok (.aload_n 0, 1) := by decide +kernel
theorem dX0_toldBits_6 : decode cX0_toldBits 6 = .ok (.getfield 47, 3) := by decide +kernel
theorem dX0_toldBits_9 : decode cX0_toldBits 9 = .ok (.getfield 85, 3) := by decide +kernel
theorem dX0_toldBits_12 : decode cX0_toldBits 12 = .ok (.if_icmp .ge 23, 3) := by decide +kernel
theorem dX0_toldBits_15 : decode cX0_toldBits 15 = .ok (.aload_n 0, 1) := by decide +kernel
theorem dX0_toldBits_16 : decode cX0_toldBits 16 = .ok (.iload_n 2, 1) := by decide +kernel
theorem dX0_toldBits_17 : decode cX0_toldBits 17 = .ok (.invokevirtual 64, 3) := by decide +kernel
theorem dX0_toldBits_20 : decode cX0_toldBits 20 = .ok (.ifCond .eq 9, 3) := by decide +kernel
theorem dX0_toldBits_23 : decode cX0_toldBits 23 = .ok (.iload_n 1, 1) := by decide +kernel
theorem dX0_toldBits_24 : decode cX0_toldBits 24 = .ok (.iconst 1, 1) := by decide +kernel
theorem dX0_toldBits_25 : decode cX0_toldBits 25 = .ok (.iload_n 2, 1) := by decide +kernel
theorem dX0_toldBits_26 : decode cX0_toldBits 26 = .ok (.ishl, 1) := by decide +kernel
theorem dX0_toldBits_27 : decode cX0_toldBits 27 = .ok (.ior, 1) := by decide +kernel
theorem dX0_toldBits_28 : decode cX0_toldBits 28 = .ok (.istore_n 1, 1) := by decide +kernel
theorem dX0_toldBits_29 : decode cX0_toldBits 29 = .ok (.iinc 2 1, 3) := by decide +kernel
theorem dX0_toldBits_32 : decode cX0_toldBits 32 = .ok (.goto (-28), 3) := by decide +kernel
theorem dX0_toldBits_35 : decode cX0_toldBits 35 = .ok (.iload_n 1, 1) := by decide +kernel
theorem dX0_toldBits_36 : decode cX0_toldBits 36 = .ok (.ireturn, 1) := by decide +kernel
theorem dX0_standing_0 : decode cX0_standing 0 = .ok (.iload_n 2, 1) := by decide +kernel
theorem dX0_standing_1 : decode cX0_standing 1 = .ok (.tableswitch 85 4 9 #[39, 46, 53, 60, 67, 76], 39) := by decide +kernel
theorem dX0_standing_40 : decode cX0_standing 40 = .ok (.aload_n 0, 1) := by decide +kernel
theorem dX0_standing_41 : decode cX0_standing 41 = .ok (.getfield 9, 3) := by decide +kernel
theorem dX0_standing_44 : decode cX0_standing 44 = .ok (.iload_n 1, 1) := by decide +kernel
theorem dX0_standing_45 : decode cX0_standing 45 = .ok (.iaload, 1) := by decide +kernel
theorem dX0_standing_46 : decode cX0_standing 46 = .ok (.ireturn, 1) := by decide +kernel
theorem dX0_standing_47 : decode cX0_standing 47 = .ok (.aload_n 0, 1) := by decide +kernel
theorem dX0_standing_48 : decode cX0_standing 48 = .ok (.getfield 15, 3) := by decide +kernel
theorem dX0_standing_51 : decode cX0_standing 51 = .ok (.iload_n 1, 1) := by decide +kernel
theorem dX0_standing_52 : decode cX0_standing 52 = .ok (.iaload, 1) := by decide +kernel
theorem dX0_standing_53 : decode cX0_standing 53 = .ok (.ireturn, 1) := by decide +kernel
theorem dX0_standing_54 : decode cX0_standing 54 = .ok (.aload_n 0, 1) := by decide +kernel
theorem dX0_standing_55 : decode cX0_standing 55 = .ok (.getfield 18, 3) := by decide +kernel
theorem dX0_standing_58 : decode cX0_standing 58 = .ok (.iload_n 1, 1) := by decide +kernel
theorem dX0_standing_59 : decode cX0_standing 59 = .ok (.iaload, 1) := by decide +kernel
theorem dX0_standing_60 : decode cX0_standing 60 = .ok (.ireturn, 1) := by decide +kernel
theorem dX0_standing_61 : decode cX0_standing 61 = .ok (.aload_n 0, 1) := by decide +kernel
theorem dX0_standing_62 : decode cX0_standing 62 = .ok (.getfield 21, 3) := by decide +kernel
theorem dX0_standing_65 : decode cX0_standing 65 = .ok (.iload_n 1, 1) := by decide +kernel
theorem dX0_standing_66 : decode cX0_standing 66 = .ok (.iaload, 1) := by decide +kernel
theorem dX0_standing_67 : decode cX0_standing 67 = .ok (.ireturn, 1) := by decide +kernel
theorem dX0_standing_68 : decode cX0_standing 68 = .ok (.aload_n 0, 1) := by decide +kernel
theorem dX0_standing_69 : decode cX0_standing 69 = .ok (.getfield 28, 3) := by decide +kernel
theorem dX0_standing_72 : decode cX0_standing 72 = .ok (.iload_n 1, 1) := by decide +kernel
theorem dX0_standing_73 : decode cX0_standing 73 = .ok (.ishr, 1) := by decide +kernel
theorem dX0_standing_74 : decode cX0_standing 74 = .ok (.iconst 1, 1) := by decide +kernel
theorem dX0_standing_75 : decode cX0_standing 75 = .ok (.iand, 1) := by decide +kernel
theorem dX0_standing_76 : decode cX0_standing 76 = .ok (.ireturn, 1) := by decide +kernel
theorem dX0_standing_77 : decode cX0_standing 77 = .ok (.aload_n 0, 1) := by decide +kernel
theorem dX0_standing_78 : decode cX0_standing 78 = .ok (.getfield 24, 3) := by decide +kernel
theorem dX0_standing_81 : decode cX0_standing 81 = .ok (.iload_n 1, 1) := by decide +kernel
theorem dX0_standing_82 : decode cX0_standing 82 = .ok (.ishr, 1) := by decide +kernel
theorem dX0_standing_83 : decode cX0_standing 83 = .ok (.iconst 1, 1) := by decide +kernel
theorem dX0_standing_84 : decode cX0_standing 84 = .ok (.iand, 1) := by decide +kernel
theorem dX0_standing_85 : decode cX0_standing 85 = .ok (.ireturn, 1) := by decide +kernel
theorem dX0_standing_86 : decode cX0_standing 86 = .ok (.aload_n 0, 1) := by decide +kernel
theorem dX0_standing_87 : decode cX0_standing 87 = .ok (.getfield 31, 3) := by decide +kernel
theorem dX0_standing_90 : decode cX0_standing 90 = .ok (.iload_n 1, 1) := by decide +kernel
theorem dX0_standing_91 : decode cX0_standing 91 = .ok (.ishr, 1) := by decide +kernel
theorem dX0_standing_92 : decode cX0_standing 92 = .ok (.iconst 1, 1) := by decide +kernel
theorem dX0_standing_93 : decode cX0_standing 93 = .ok (.iand, 1) := by decide +kernel
theorem dX0_standing_94 : decode cX0_standing 94 = .ok (.ireturn, 1) := by decide +kernel
theorem dX0_wayDays_0 : decode cX0_wayDays 0 = .ok (.aload_n 0, 1) := by decide +kernel
theorem dX0_wayDays_1 : decode cX0_wayDays 1 = .ok (.getfield 47, 3) := by decide +kernel
theorem dX0_wayDays_4 : decode cX0_wayDays 4 = .ok (.getfield 125, 3) := by decide +kernel
theorem dX0_wayDays_7 : decode cX0_wayDays 7 = .ok (.iload_n 1, 1) := by decide +kernel
theorem dX0_wayDays_8 : decode cX0_wayDays 8 = .ok (.iaload, 1) := by decide +kernel
theorem dX0_wayDays_9 : decode cX0_wayDays 9 = .ok (.bipush 10, 2) := by decide +kernel
theorem dX0_wayDays_11 : decode cX0_wayDays 11 = .ok (.idiv, 1) := by decide +kernel
theorem dX0_wayDays_12 : decode cX0_wayDays 12 = .ok (.iconst 1, 1) := by decide +kernel
theorem dX0_wayDays_13 : decode cX0_wayDays 13 = .ok (.iadd, 1) := by decide +kernel
theorem dX0_wayDays_14 : decode cX0_wayDays 14 = .ok (.ireturn, 1) := by decide +kernel
theorem dX0_willRefuse_0 : decode cX0_willRefuse 0 = .ok (.aload_n 0, 1) := by decide +kernel
theorem dX0_willRefuse_1 : decode cX0_willRefuse 1 = .ok (.getfield 47, 3) := by decide +kernel
theorem dX0_willRefuse_4 : decode cX0_willRefuse 4 = .ok (.getfield 98, 3) := by decide +kernel
theorem dX0_willRefuse_7 : decode cX0_willRefuse 7 = .ok (.iload_n 1, 1) := by decide +kernel
theorem dX0_willRefuse_8 : decode cX0_willRefuse 8 = .ok (.iaload, 1) := by decide +kernel
theorem dX0_willRefuse_9 : decode cX0_willRefuse 9 = .ok (.iconst 3, 1) := by decide +kernel
theorem dX0_willRefuse_10 : decode cX0_willRefuse 10 = .ok (.if_icmp .ne 18, 3) := by decide +kernel
theorem dX0_willRefuse_13 : decode cX0_willRefuse 13 = .ok (.aload_n 0, 1) := by decide +kernel
theorem dX0_willRefuse_14 : decode cX0_willRefuse 14 = .ok (.getfield 31, 3) := by decide +kernel
theorem dX0_willRefuse_17 : decode cX0_willRefuse 17 = .ok (.iload_n 1, 1) := by decide +kernel
theorem dX0_willRefuse_18 : decode cX0_willRefuse 18 = .ok (.invokestatic 60, 3) := by decide +kernel
theorem dX0_willRefuse_21 : decode cX0_willRefuse 21 = .ok (.ifCond .ne 7, 3) := by decide +kernel
theorem dX0_willRefuse_24 : decode cX0_willRefuse 24 = .ok (.iconst 1, 1) := by decide +kernel
theorem dX0_willRefuse_25 : decode cX0_willRefuse 25 = .ok (.goto 4, 3) := by decide +kernel
theorem dX0_willRefuse_28 : decode cX0_willRefuse 28 = .ok (.iconst 0, 1) := by decide +kernel
theorem dX0_willRefuse_29 : decode cX0_willRefuse 29 = .ok (.ireturn, 1) := by decide +kernel
theorem dX0_eatingDays_0 : decode cX0_eatingDays 0 = .ok (.iload_n 0, 1) := by decide +kernel
theorem dX0_eatingDays_1 : decode cX0_eatingDays 1 = .ok (.iconst 2, 1) := by decide +kernel
theorem dX0_eatingDays_2 : decode cX0_eatingDays 2 = .ok (.if_icmp .ne 5, 3) := by decide +kernel
theorem dX0_eatingDays_5 : decode cX0_eatingDays 5 = .ok (.iload_n 1, 1) := by decide +kernel
theorem dX0_eatingDays_6 : decode cX0_eatingDays 6 = .ok (.ireturn, 1) := by decide +kernel
theorem dX0_eatingDays_7 : decode cX0_eatingDays 7 = .ok (.iload_n 0, 1) := by decide +kernel
theorem dX0_eatingDays_8 : decode cX0_eatingDays 8 = .ok (.iconst 1, 1) := by decide +kernel
theorem dX0_eatingDays_9 : decode cX0_eatingDays 9 = .ok (.if_icmp .ne 11, 3) := by decide +kernel
theorem dX0_eatingDays_12 : decode cX0_eatingDays 12 = .ok (.iconst 2, 1) := by decide +kernel
theorem dX0_eatingDays_13 : decode cX0_eatingDays 13 = .ok (.iload_n 1, 1) := by decide +kernel
theorem dX0_eatingDays_14 : decode cX0_eatingDays 14 = .ok (.imul, 1) := by decide +kernel
theorem dX0_eatingDays_15 : decode cX0_eatingDays 15 = .ok (.iconst 2, 1) := by decide +kernel
theorem dX0_eatingDays_16 : decode cX0_eatingDays 16 = .ok (.iadd, 1) := by decide +kernel
theorem dX0_eatingDays_17 : decode cX0_eatingDays 17 = .ok (.goto 6, 3) := by decide +kernel
theorem dX0_eatingDays_20 : decode cX0_eatingDays 20 = .ok (.iconst 2, 1) := by decide +kernel
theorem dX0_eatingDays_21 : decode cX0_eatingDays 21 = .ok (.iload_n 1, 1) := by decide +kernel
theorem dX0_eatingDays_22 : decode cX0_eatingDays 22 = .ok (.imul, 1) := by decide +kernel
theorem dX0_eatingDays_23 : decode cX0_eatingDays 23 = .ok (.ireturn, 1) := by decide +kernel
theorem dX0_isIn_0 : decode cX0_isIn 0 = .ok (.iload_n 0, 1) := by decide +kernel
theorem dX0_isIn_1 : decode cX0_isIn 1 = .ok (.iload_n 1, 1) := by decide +kernel
theorem dX0_isIn_2 : decode cX0_isIn 2 = .ok (.ishr, 1) := by decide +kernel
theorem dX0_isIn_3 : decode cX0_isIn 3 = .ok (.iconst 1, 1) := by decide +kernel
theorem dX0_isIn_4 : decode cX0_isIn 4 = .ok (.iand, 1) := by decide +kernel
theorem dX0_isIn_5 : decode cX0_isIn 5 = .ok (.iconst 1, 1) := by decide +kernel
theorem dX0_isIn_6 : decode cX0_isIn 6 = .ok (.if_icmp .ne 7, 3) := by decide +kernel
theorem dX0_isIn_9 : decode cX0_isIn 9 = .ok (.iconst 1, 1) := by decide +kernel
theorem dX0_isIn_10 : decode cX0_isIn 10 = .ok (.goto 4, 3) := by decide +kernel
theorem dX0_isIn_13 : decode cX0_isIn 13 = .ok (.iconst 0, 1) := by decide +kernel
theorem dX0_isIn_14 : decode cX0_isIn 14 = .ok (.ireturn, 1) := by decide +kernel
theorem dX1_init_0 : decode cX1_init 0 = .ok (.aload_n 0, 1) := by decide +kernel
theorem dX1_init_1 : decode cX1_init 1 = .ok (.invokespecial 3, 3) := by decide +kernel
theorem dX1_init_4 : decode cX1_init 4 = .ok (.aload_n 0, 1) := by decide +kernel
theorem dX1_init_5 : decode cX1_init 5 = .ok (.bipush 7, 2) := by decide +kernel
theorem dX1_init_7 : decode cX1_init 7 = .ok (.anewarray 9, 3) := by decide +kernel
theorem dX1_init_10 : decode cX1_init 10 = .ok (.putfield 11, 3) := by decide +kernel
theorem dX1_init_13 : decode cX1_init 13 = .ok (.aload_n 0, 1) := by decide +kernel
theorem dX1_init_14 : decode cX1_init 14 = .ok (.bipush 6, 2) := by decide +kernel
theorem dX1_init_16 : decode cX1_init 16 = .ok (.newarray .int, 2) := by decide +kernel
theorem dX1_init_18 : decode cX1_init 18 = .ok (.putfield 17, 3) := by decide +kernel
theorem dX1_init_21 : decode cX1_init 21 = .ok (.aload_n 0, 1) := by decide +kernel
theorem dX1_init_22 : decode cX1_init 22 = .ok (.bipush 6, 2) := by decide +kernel
theorem dX1_init_24 : decode cX1_init 24 = .ok (.newarray .int, 2) := by decide +kernel
theorem dX1_init_26 : decode cX1_init 26 = .ok (.putfield 21, 3) := by decide +kernel
theorem dX1_init_29 : decode cX1_init 29 = .ok (.aload_n 0, 1) := by decide +kernel
theorem dX1_init_30 : decode cX1_init 30 = .ok (.iconst 0, 1) := by decide +kernel
theorem dX1_init_31 : decode cX1_init 31 = .ok (.putfield 24, 3) := by decide +kernel
theorem dX1_init_34 : decode cX1_init 34 = .ok (.aload_n 0, 1) := by decide +kernel
theorem dX1_init_35 : decode cX1_init 35 = .ok (.iconst (-1), 1) := by decide +kernel
theorem dX1_init_36 : decode cX1_init 36 = .ok (.putfield 28, 3) := by decide +kernel
theorem dX1_init_39 : decode cX1_init 39 = .ok (.iconst 0, 1) := by decide +kernel
theorem dX1_init_40 : decode cX1_init 40 = .ok (.istore_n 2, 1) := by decide +kernel
theorem dX1_init_41 : decode cX1_init 41 = .ok (.iload_n 2, 1) := by decide +kernel
theorem dX1_init_42 : decode cX1_init 42 = .ok (.aload_n 0, 1) := by decide +kernel
theorem dX1_init_43 : decode cX1_init 43 = .ok (.getfield 11, 3) := by decide +kernel
theorem dX1_init_46 : decode cX1_init 46 = .ok (.arraylength, 1) := by decide +kernel
theorem dX1_init_47 : decode cX1_init 47 = .ok (.if_icmp .ge 23, 3) := by decide +kernel
theorem dX1_init_50 : decode cX1_init 50 = .ok (.aload_n 0, 1) := by decide +kernel
theorem dX1_init_51 : decode cX1_init 51 = .ok (.getfield 11, 3) := by decide +kernel
theorem dX1_init_54 : decode cX1_init 54 = .ok (.iload_n 2, 1) := by decide +kernel
theorem dX1_init_55 : decode cX1_init 55 = .ok (.new 9, 3) := by decide +kernel
theorem dX1_init_58 : decode cX1_init 58 = .ok (.dup, 1) := by decide +kernel
theorem dX1_init_59 : decode cX1_init 59 = .ok (.aload_n 1, 1) := by decide +kernel
theorem dX1_init_60 : decode cX1_init 60 = .ok (.invokespecial 31, 3) := by decide +kernel
theorem dX1_init_63 : decode cX1_init 63 = .ok (.aastore, 1) := by decide +kernel
theorem dX1_init_64 : decode cX1_init 64 = .ok (.iinc 2 1, 3) := by decide +kernel
theorem dX1_init_67 : decode cX1_init 67 = .ok (.goto (-26), 3) := by decide +kernel
theorem dX1_init_70 : decode cX1_init 70 = .ok (.return_, 1) := by decide +kernel
theorem dX1_run_0 : decode cX1_run 0 = .ok (.aload_n 0, 1) := by decide +kernel
theorem dX1_run_1 : decode cX1_run 1 = .ok (.getfield 11, 3) := by decide +kernel
theorem dX1_run_4 : decode cX1_run 4 = .ok (.iconst 0, 1) := by decide +kernel
theorem dX1_run_5 : decode cX1_run 5 = .ok (.aaload, 1) := by decide +kernel
theorem dX1_run_6 : decode cX1_run 6 = .ok (.astore_n 3, 1) := by decide +kernel
theorem dX1_run_7 : decode cX1_run 7 = .ok (.aload_n 3, 1) := by decide +kernel
theorem dX1_run_8 : decode cX1_run 8 = .ok (.aload_n 1, 1) := by decide +kernel
theorem dX1_run_9 : decode cX1_run 9 = .ok (.invokevirtual 34, 3) := by decide +kernel
theorem dX1_run_12 : decode cX1_run 12 = .ok (.aload_n 3, 1) := by decide +kernel
theorem dX1_run_13 : decode cX1_run 13 = .ok (.iload_n 2, 1) := by decide +kernel
theorem dX1_run_14 : decode cX1_run 14 = .ok (.putfield 38, 3) := by decide +kernel
theorem dX1_run_17 : decode cX1_run 17 = .ok (.iconst 0, 1) := by decide +kernel
theorem dX1_run_18 : decode cX1_run 18 = .ok (.istore 4, 2) := by decide +kernel
theorem dX1_run_20 : decode cX1_run 20 = .ok (.iconst 0, 1) := by decide +kernel
theorem dX1_run_21 : decode cX1_run 21 = .ok (.istore 5, 2) := by decide +kernel
theorem dX1_run_23 : decode cX1_run 23 = .ok (.iload 5, 2) := by decide +kernel
theorem dX1_run_25 : decode cX1_run 25 = .ok (.aload_n 1, 1) := by decide +kernel
theorem dX1_run_26 : decode cX1_run 26 = .ok (.getfield 41, 3) := by decide +kernel
theorem dX1_run_29 : decode cX1_run 29 = .ok (.getfield 45, 3) := by decide +kernel
theorem dX1_run_32 : decode cX1_run 32 = .ok (.if_icmp .ge 27, 3) := by decide +kernel
theorem dX1_run_35 : decode cX1_run 35 = .ok (.aload_n 1, 1) := by decide +kernel
theorem dX1_run_36 : decode cX1_run 36 = .ok (.iload 5, 2) := by decide +kernel
theorem dX1_run_38 : decode cX1_run 38 = .ok (.invokevirtual 48, 3) := by decide +kernel
theorem dX1_run_41 : decode cX1_run 41 = .ok (.ifCond .eq 12, 3) := by decide +kernel
theorem dX1_run_44 : decode cX1_run 44 = .ok (.iload 4, 2) := by decide +kernel
theorem dX1_run_46 : decode cX1_run 46 = .ok (.iconst 1, 1) := by decide +kernel
theorem dX1_run_47 : decode cX1_run 47 = .ok (.iload 5, 2) := by decide +kernel
theorem dX1_run_49 : decode cX1_run 49 = .ok (.ishl, 1) := by decide +kernel
theorem dX1_run_50 : decode cX1_run 50 = .ok (.ior, 1) := by decide +kernel
theorem dX1_run_51 : decode cX1_run 51 = .ok (.istore 4, 2) := by decide +kernel
theorem dX1_run_53 : decode cX1_run 53 = .ok (.iinc 5 1, 3) := by decide +kernel
theorem dX1_run_56 : decode cX1_run 56 = .ok (.goto (-33), 3) := by decide +kernel
theorem dX1_run_59 : decode cX1_run 59 = .ok (.aload_n 0, 1) := by decide +kernel
theorem dX1_run_60 : decode cX1_run 60 = .ok (.iload 4, 2) := by decide +kernel
theorem dX1_run_62 : decode cX1_run 62 = .ok (.invokestatic 52, 3) := by decide +kernel
theorem dX1_run_65 : decode cX1_run 65 = .ok (.putfield 24, 3) := by decide +kernel
theorem dX1_run_68 : decode cX1_run 68 = .ok (.aload_n 0, 1) := by decide +kernel
theorem dX1_run_69 : decode cX1_run 69 = .ok (.iconst (-1), 1) := by decide +kernel
theorem dX1_run_70 : decode cX1_run 70 = .ok (.putfield 28, 3) := by decide +kernel
theorem dX1_run_73 : decode cX1_run 73 = .ok (.aload_n 0, 1) := by decide +kernel
theorem dX1_run_74 : decode cX1_run 74 = .ok (.iconst 0, 1) := by decide +kernel
theorem dX1_run_75 : decode cX1_run 75 = .ok (.iload 4, 2) := by decide +kernel
theorem dX1_run_77 : decode cX1_run 77 = .ok (.invokestatic 58, 3) := by decide +kernel
theorem dX1_run_80 : decode cX1_run 80 = .ok (.aload_n 0, 1) := by decide +kernel
theorem dX1_run_81 : decode cX1_run 81 = .ok (.getfield 28, 3) := by decide +kernel
theorem dX1_run_84 : decode cX1_run 84 = .ok (.ireturn, 1) := by decide +kernel
theorem dX1_extend_0 : decode cX1_extend 0 = .ok (.iload_n 2, 1) := by decide +kernel
theorem dX1_extend_1 : decode cX1_extend 1 = .ok (.ifCond .eq 9, 3) := by decide +kernel
theorem dX1_extend_4 : decode cX1_extend 4 = .ok (.iload_n 1, 1) := by decide +kernel
theorem dX1_extend_5 : decode cX1_extend 5 = .ok (.bipush 6, 2) := by decide +kernel
theorem dX1_extend_7 : decode cX1_extend 7 = .ok (.if_icmp .lt 33, 3) := by decide +kernel
theorem dX1_extend_10 : decode cX1_extend 10 = .ok (.aload_n 0, 1) := by decide +kernel
theorem dX1_extend_11 : decode cX1_extend 11 = .ok (.aload_n 0, 1) := by decide +kernel
theorem dX1_extend_12 : decode cX1_extend 12 = .ok (.getfield 11, 3) := by decide +kernel
theorem dX1_extend_15 : decode cX1_extend 15 = .ok (.iload_n 1, 1) := by decide +kernel
theorem dX1_extend_16 : decode cX1_extend 16 = .ok (.aaload, 1) := by decide +kernel
theorem dX1_extend_17 : decode cX1_extend 17 = .ok (.iconst 0, 1) := by decide +kernel
theorem dX1_extend_18 : decode cX1_extend 18 = .ok (.invokevirtual 62, 3) := by decide +kernel
theorem dX1_extend_21 : decode cX1_extend 21 = .ok (.putfield 28, 3) := by decide +kernel
theorem dX1_extend_24 : decode cX1_extend 24 = .ok (.aload_n 0, 1) := by decide +kernel
theorem dX1_extend_25 : decode cX1_extend 25 = .ok (.getfield 17, 3) := by decide +kernel
theorem dX1_extend_28 : decode cX1_extend 28 = .ok (.iconst 0, 1) := by decide +kernel
theorem dX1_extend_29 : decode cX1_extend 29 = .ok (.aload_n 0, 1) := by decide +kernel
theorem dX1_extend_30 : decode cX1_extend 30 = .ok (.getfield 21, 3) := by decide +kernel
theorem dX1_extend_33 : decode cX1_extend 33 = .ok (.iconst 0, 1) := by decide +kernel
theorem dX1_extend_34 : decode cX1_extend 34 = .ok (.bipush 6, 2) := by decide +kernel
theorem dX1_extend_36 : decode cX1_extend 36 = .ok (.invokestatic 65, 3) := by decide +kernel
theorem dX1_extend_39 : decode cX1_extend 39 = .ok (.return_, 1) := by decide +kernel
theorem dX1_extend_40 : decode cX1_extend 40 = .ok (.aload_n 0, 1) := by decide +kernel
theorem dX1_extend_41 : decode cX1_extend 41 = .ok (.getfield 11, 3) := by decide +kernel
theorem dX1_extend_44 : decode cX1_extend 44 = .ok (.iload_n 1, 1) := by decide +kernel
theorem dX1_extend_45 : decode cX1_extend 45 = .ok (.iconst 1, 1) := by decide +kernel
theorem dX1_extend_46 : decode cX1_extend 46 = .ok (.iadd, 1) := by decide +kernel
theorem dX1_extend_47 : decode cX1_extend 47 = .ok (.aaload, 1) := by decide +kernel
theorem dX1_extend_48 : decode cX1_extend 48 = .ok (.astore_n 3, 1) := by decide +kernel
theorem dX1_extend_49 : decode cX1_extend 49 = .ok (.iconst 0, 1) := by decide +kernel
theorem dX1_extend_50 : decode cX1_extend 50 = .ok (.istore 4, 2) := by decide +kernel
theorem dX1_extend_52 : decode cX1_extend 52 = .ok (.iload 4, 2) := by decide +kernel
theorem dX1_extend_54 : decode cX1_extend 54 = .ok (.bipush 6, 2) := by decide +kernel
theorem dX1_extend_56 : decode cX1_extend 56 = .ok (.if_icmp .ge 102, 3) := by decide +kernel
theorem dX1_extend_59 : decode cX1_extend 59 = .ok (.iload_n 2, 1) := by decide +kernel
theorem dX1_extend_60 : decode cX1_extend 60 = .ok (.iload 4, 2) := by decide +kernel
theorem dX1_extend_62 : decode cX1_extend 62 = .ok (.ishr, 1) := by decide +kernel
theorem dX1_extend_63 : decode cX1_extend 63 = .ok (.iconst 1, 1) := by decide +kernel
theorem dX1_extend_64 : decode cX1_extend 64 = .ok (.iand, 1) := by decide +kernel
theorem dX1_extend_65 : decode cX1_extend 65 = .ok (.ifCond .ne 6, 3) := by decide +kernel
theorem dX1_extend_68 : decode cX1_extend 68 = .ok (.goto 84, 3) := by decide +kernel
theorem dX1_extend_71 : decode cX1_extend 71 = .ok (.aload_n 3, 1) := by decide +kernel
theorem dX1_extend_72 : decode cX1_extend 72 = .ok (.aload_n 0, 1) := by decide +kernel
theorem dX1_extend_73 : decode cX1_extend 73 = .ok (.getfield 11, 3) := by decide +kernel
theorem dX1_extend_76 : decode cX1_extend 76 = .ok (.iload_n 1, 1) := by decide +kernel
theorem dX1_extend_77 : decode cX1_extend 77 = .ok (.aaload, 1) := by decide +kernel
theorem dX1_extend_78 : decode cX1_extend 78 = .ok (.invokevirtual 34, 3) := by decide +kernel
theorem dX1_extend_81 : decode cX1_extend 81 = .ok (.aload_n 3, 1) := by decide +kernel
theorem dX1_extend_82 : decode cX1_extend 82 = .ok (.iload 4, 2) := by decide +kernel
theorem dX1_extend_84 : decode cX1_extend 84 = .ok (.invokevirtual 71, 3) := by decide +kernel
theorem dX1_extend_87 : decode cX1_extend 87 = .ok (.ifCond .eq 9, 3) := by decide +kernel
theorem dX1_extend_90 : decode cX1_extend 90 = .ok (.aload_n 3, 1) := by decide +kernel
theorem dX1_extend_91 : decode cX1_extend 91 = .ok (.iload 4, 2) := by decide +kernel
theorem dX1_extend_93 : decode cX1_extend 93 = .ok (.invokevirtual 74, 3) := by decide +kernel
theorem dX1_extend_96 : decode cX1_extend 96 = .ok (.aload_n 3, 1) := by decide +kernel
theorem dX1_extend_97 : decode cX1_extend 97 = .ok (.iconst 0, 1) := by decide +kernel
theorem dX1_extend_98 : decode cX1_extend 98 = .ok (.invokevirtual 78, 3) := by decide +kernel
theorem dX1_extend_101 : decode cX1_extend 101 = .ok (.iload_n 2, 1) := by decide +kernel
theorem dX1_extend_102 : decode cX1_extend 102 = .ok (.iconst 1, 1) := by decide +kernel
theorem dX1_extend_103 : decode cX1_extend 103 = .ok (.iload 4, 2) := by decide +kernel
theorem dX1_extend_105 : decode cX1_extend 105 = .ok (.ishl, 1) := by decide +kernel
theorem dX1_extend_106 : decode cX1_extend 106 = .ok (.iconst (-1), 1) := by decide +kernel
theorem dX1_extend_107 : decode cX1_extend 107 = .ok (.ixor, 1) := by decide +kernel
theorem dX1_extend_108 : decode cX1_extend 108 = .ok (.iand, 1) := by decide +kernel
theorem dX1_extend_109 : decode cX1_extend 109 = .ok (.istore 5, 2) := by decide +kernel
theorem dX1_extend_111 : decode cX1_extend 111 = .ok (.aload_n 3, 1) := by decide +kernel
theorem dX1_extend_112 : decode cX1_extend 112 = .ok (.aload_n 3, 1) := by decide +kernel
theorem dX1_extend_113 : decode cX1_extend 113 = .ok (.getfield 38, 3) := by decide +kernel
theorem dX1_extend_116 : decode cX1_extend 116 = .ok (.ifCond .le 8, 3) := by decide +kernel
theorem dX1_extend_119 : decode cX1_extend 119 = .ok (.iload 5, 2) := by decide +kernel
theorem dX1_extend_121 : decode cX1_extend 121 = .ok (.goto 4, 3) := by decide +kernel
theorem dX1_extend_124 : decode cX1_extend 124 = .ok (.iconst 0, 1) := by decide +kernel
theorem dX1_extend_125 : decode cX1_extend 125 = .ok (.invokevirtual 62, 3) := by decide +kernel
theorem dX1_extend_128 : decode cX1_extend 128 = .ok (.aload_n 0, 1) := by decide +kernel
theorem dX1_extend_129 : decode cX1_extend 129 = .ok (.getfield 28, 3) := by decide +kernel
theorem dX1_extend_132 : decode cX1_extend 132 = .ok (.if_icmp .le 20, 3) := by decide +kernel
theorem dX1_extend_135 : decode cX1_extend 135 = .ok (.aload_n 0, 1) := by decide +kernel
theorem dX1_extend_136 : decode cX1_extend 136 = .ok (.getfield 17, 3) := by decide +kernel
theorem dX1_extend_139 : decode cX1_extend 139 = .ok (.iload_n 1, 1) := by decide +kernel
theorem dX1_extend_140 : decode cX1_extend 140 = .ok (.iload 4, 2) := by decide +kernel
theorem dX1_extend_142 : decode cX1_extend 142 = .ok (.iastore, 1) := by decide +kernel
theorem dX1_extend_143 : decode cX1_extend 143 = .ok (.aload_n 0, 1) := by decide +kernel
theorem dX1_extend_144 : decode cX1_extend 144 = .ok (.iload_n 1, 1) := by decide +kernel
theorem dX1_extend_145 : decode cX1_extend 145 = .ok (.iconst 1, 1) := by decide +kernel
theorem dX1_extend_146 : decode cX1_extend 146 = .ok (.iadd, 1) := by decide +kernel
theorem dX1_extend_147 : decode cX1_extend 147 = .ok (.iload 5, 2) := by decide +kernel
theorem dX1_extend_149 : decode cX1_extend 149 = .ok (.invokestatic 58, 3) := by decide +kernel
theorem dX1_extend_152 : decode cX1_extend 152 = .ok (.iinc 4 1, 3) := by decide +kernel
theorem dX1_extend_155 : decode cX1_extend 155 = .ok (.goto (-103), 3) := by decide +kernel
theorem dX1_extend_158 : decode cX1_extend 158 = .ok (.return_, 1) := by decide +kernel
theorem dX2_init_0 : decode cX2_init 0 = .ok (.aload_n 0, 1) := by decide +kernel
theorem dX2_init_1 : decode cX2_init 1 = .ok (.invokespecial 1, 3) := by decide +kernel
theorem dX2_init_4 : decode cX2_init 4 = .ok (.aload_n 0, 1) := by decide +kernel
theorem dX2_init_5 : decode cX2_init 5 = .ok (.iconst 0, 1) := by decide +kernel
theorem dX2_init_6 : decode cX2_init 6 = .ok (.putfield 7, 3) := by decide +kernel
theorem dX2_init_9 : decode cX2_init 9 = .ok (.aload_n 0, 1) := by decide +kernel
theorem dX2_init_10 : decode cX2_init 10 = .ok (.iconst 0, 1) := by decide +kernel
theorem dX2_init_11 : decode cX2_init 11 = .ok (.putfield 13, 3) := by decide +kernel
theorem dX2_init_14 : decode cX2_init 14 = .ok (.aload_n 0, 1) := by decide +kernel
theorem dX2_init_15 : decode cX2_init 15 = .ok (.iload_n 2, 1) := by decide +kernel
theorem dX2_init_16 : decode cX2_init 16 = .ok (.iconst 1, 1) := by decide +kernel
theorem dX2_init_17 : decode cX2_init 17 = .ok (.invokestatic 16, 3) := by decide +kernel
theorem dX2_init_20 : decode cX2_init 20 = .ok (.anewarray 22, 3) := by decide +kernel
theorem dX2_init_23 : decode cX2_init 23 = .ok (.putfield 24, 3) := by decide +kernel
theorem dX2_init_26 : decode cX2_init 26 = .ok (.iconst 0, 1) := by decide +kernel
theorem dX2_init_27 : decode cX2_init 27 = .ok (.istore_n 3, 1) := by decide +kernel
theorem dX2_init_28 : decode cX2_init 28 = .ok (.iload_n 3, 1) := by decide +kernel
theorem dX2_init_29 : decode cX2_init 29 = .ok (.aload_n 0, 1) := by decide +kernel
theorem dX2_init_30 : decode cX2_init 30 = .ok (.getfield 24, 3) := by decide +kernel
theorem dX2_init_33 : decode cX2_init 33 = .ok (.arraylength, 1) := by decide +kernel
theorem dX2_init_34 : decode cX2_init 34 = .ok (.if_icmp .ge 23, 3) := by decide +kernel
theorem dX2_init_37 : decode cX2_init 37 = .ok (.aload_n 0, 1) := by decide +kernel
theorem dX2_init_38 : decode cX2_init 38 = .ok (.getfield 24, 3) := by decide +kernel
theorem dX2_init_41 : decode cX2_init 41 = .ok (.iload_n 3, 1) := by decide +kernel
theorem dX2_init_42 : decode cX2_init 42 = .ok (.new 22, 3) := by decide +kernel
theorem dX2_init_45 : decode cX2_init 45 = .ok (.dup, 1) := by decide +kernel
theorem dX2_init_46 : decode cX2_init 46 = .ok (.aload_n 1, 1) := by decide +kernel
theorem dX2_init_47 : decode cX2_init 47 = .ok (.invokespecial 28, 3) := by decide +kernel
theorem dX2_init_50 : decode cX2_init 50 = .ok (.aastore, 1) := by decide +kernel
theorem dX2_init_51 : decode cX2_init 51 = .ok (.iinc 3 1, 3) := by decide +kernel
theorem dX2_init_54 : decode cX2_init 54 = .ok (.goto (-26), 3) := by decide +kernel
theorem dX2_init_57 : decode cX2_init 57 = .ok (.return_, 1) := by decide +kernel
theorem dX2_push_0 : decode cX2_push 0 = .ok (.aload_n 0, 1) := by decide +kernel
theorem dX2_push_1 : decode cX2_push 1 = .ok (.aload_n 0, 1) := by decide +kernel
theorem dX2_push_2 : decode cX2_push 2 = .ok (.getfield 13, 3) := by decide +kernel
theorem dX2_push_5 : decode cX2_push 5 = .ok (.iconst 1, 1) := by decide +kernel
theorem dX2_push_6 : decode cX2_push 6 = .ok (.iadd, 1) := by decide +kernel
theorem dX2_push_7 : decode cX2_push 7 = .ok (.aload_n 0, 1) := by decide +kernel
theorem dX2_push_8 : decode cX2_push 8 = .ok (.getfield 24, 3) := by decide +kernel
theorem dX2_push_11 : decode cX2_push 11 = .ok (.arraylength, 1) := by decide +kernel
theorem dX2_push_12 : decode cX2_push 12 = .ok (.if_icmp .ge 12, 3) := by decide +kernel
theorem dX2_push_15 : decode cX2_push 15 = .ok (.aload_n 0, 1) := by decide +kernel
theorem dX2_push_16 : decode cX2_push 16 = .ok (.getfield 13, 3) := by decide +kernel
theorem dX2_push_19 : decode cX2_push 19 = .ok (.iconst 1, 1) := by decide +kernel
theorem dX2_push_20 : decode cX2_push 20 = .ok (.iadd, 1) := by decide +kernel
theorem dX2_push_21 : decode cX2_push 21 = .ok (.goto 4, 3) := by decide +kernel
theorem dX2_push_24 : decode cX2_push 24 = .ok (.iconst 0, 1) := by decide +kernel
theorem dX2_push_25 : decode cX2_push 25 = .ok (.putfield 13, 3) := by decide +kernel
theorem dX2_push_28 : decode cX2_push 28 = .ok (.aload_n 0, 1) := by decide +kernel
theorem dX2_push_29 : decode cX2_push 29 = .ok (.getfield 24, 3) := by decide +kernel
theorem dX2_push_32 : decode cX2_push 32 = .ok (.aload_n 0, 1) := by decide +kernel
theorem dX2_push_33 : decode cX2_push 33 = .ok (.getfield 13, 3) := by decide +kernel
theorem dX2_push_36 : decode cX2_push 36 = .ok (.aaload, 1) := by decide +kernel
theorem dX2_push_37 : decode cX2_push 37 = .ok (.aload_n 1, 1) := by decide +kernel
theorem dX2_push_38 : decode cX2_push 38 = .ok (.invokevirtual 31, 3) := by decide +kernel
theorem dX2_push_41 : decode cX2_push 41 = .ok (.aload_n 0, 1) := by decide +kernel
theorem dX2_push_42 : decode cX2_push 42 = .ok (.aload_n 0, 1) := by decide +kernel
theorem dX2_push_43 : decode cX2_push 43 = .ok (.getfield 7, 3) := by decide +kernel
theorem dX2_push_46 : decode cX2_push 46 = .ok (.iconst 1, 1) := by decide +kernel
theorem dX2_push_47 : decode cX2_push 47 = .ok (.iadd, 1) := by decide +kernel
theorem dX2_push_48 : decode cX2_push 48 = .ok (.aload_n 0, 1) := by decide +kernel
theorem dX2_push_49 : decode cX2_push 49 = .ok (.getfield 24, 3) := by decide +kernel
theorem dX2_push_52 : decode cX2_push 52 = .ok (.arraylength, 1) := by decide +kernel
theorem dX2_push_53 : decode cX2_push 53 = .ok (.invokestatic 35, 3) := by decide +kernel
theorem dX2_push_56 : decode cX2_push 56 = .ok (.putfield 7, 3) := by decide +kernel
theorem dX2_push_59 : decode cX2_push 59 = .ok (.return_, 1) := by decide +kernel
theorem dX2_popInto_0 : decode cX2_popInto 0 = .ok (.aload_n 0, 1) := by decide +kernel
theorem dX2_popInto_1 : decode cX2_popInto 1 = .ok (.getfield 7, 3) := by decide +kernel
theorem dX2_popInto_4 : decode cX2_popInto 4 = .ok (.ifCond .ne 5, 3) := by decide +kernel
theorem dX2_popInto_7 : decode cX2_popInto 7 = .ok (.iconst 0, 1) := by decide +kernel
theorem dX2_popInto_8 : decode cX2_popInto 8 = .ok (.ireturn, 1) := by decide +kernel
theorem dX2_popInto_9 : decode cX2_popInto 9 = .ok (.aload_n 1, 1) := by decide +kernel
theorem dX2_popInto_10 : decode cX2_popInto 10 = .ok (.aload_n 0, 1) := by decide +kernel
theorem dX2_popInto_11 : decode cX2_popInto 11 = .ok (.getfield 24, 3) := by decide +kernel
theorem dX2_popInto_14 : decode cX2_popInto 14 = .ok (.aload_n 0, 1) := by decide +kernel
theorem dX2_popInto_15 : decode cX2_popInto 15 = .ok (.getfield 13, 3) := by decide +kernel
theorem dX2_popInto_18 : decode cX2_popInto 18 = .ok (.aaload, 1) := by decide +kernel
theorem dX2_popInto_19 : decode cX2_popInto 19 = .ok (.invokevirtual 31, 3) := by decide +kernel
theorem dX2_popInto_22 : decode cX2_popInto 22 = .ok (.aload_n 0, 1) := by decide +kernel
theorem dX2_popInto_23 : decode cX2_popInto 23 = .ok (.aload_n 0, 1) := by decide +kernel
theorem dX2_popInto_24 : decode cX2_popInto 24 = .ok (.getfield 13, 3) := by decide +kernel
theorem dX2_popInto_27 : decode cX2_popInto 27 = .ok (.ifCond .le 12, 3) := by decide +kernel
theorem dX2_popInto_30 : decode cX2_popInto 30 = .ok (.aload_n 0, 1) := by decide +kernel
theorem dX2_popInto_31 : decode cX2_popInto 31 = .ok (.getfield 13, 3) := by decide +kernel
theorem dX2_popInto_34 : decode cX2_popInto 34 = .ok (.iconst 1, 1) := by decide +kernel
theorem dX2_popInto_35 : decode cX2_popInto 35 = .ok (.isub, 1) := by decide +kernel
theorem dX2_popInto_36 : decode cX2_popInto 36 = .ok (.goto 10, 3) := by decide +kernel
theorem dX2_popInto_39 : decode cX2_popInto 39 = .ok (.aload_n 0, 1) := by decide +kernel
theorem dX2_popInto_40 : decode cX2_popInto 40 = .ok (.getfield 24, 3) := by decide +kernel
theorem dX2_popInto_43 : decode cX2_popInto 43 = .ok (.arraylength, 1) := by decide +kernel
theorem dX2_popInto_44 : decode cX2_popInto 44 = .ok (.iconst 1, 1) := by decide +kernel
theorem dX2_popInto_45 : decode cX2_popInto 45 = .ok (.isub, 1) := by decide +kernel
theorem dX2_popInto_46 : decode cX2_popInto 46 = .ok (.putfield 13, 3) := by decide +kernel
theorem dX2_popInto_49 : decode cX2_popInto 49 = .ok (.aload_n 0, 1) := by decide +kernel
theorem dX2_popInto_50 : decode cX2_popInto 50 = .ok (.dup, 1) := by decide +kernel
theorem dX2_popInto_51 : decode cX2_popInto 51 = .ok (.getfield 7, 3) := by decide +kernel
theorem dX2_popInto_54 : decode cX2_popInto 54 = .ok (.iconst 1, 1) := by decide +kernel
theorem dX2_popInto_55 : decode cX2_popInto 55 = .ok (.isub, 1) := by decide +kernel
theorem dX2_popInto_56 : decode cX2_popInto 56 = .ok (.putfield 7, 3) := by decide +kernel
theorem dX2_popInto_59 : decode cX2_popInto 59 = .ok (.iconst 1, 1) := by decide +kernel
theorem dX2_popInto_60 : decode cX2_popInto 60 = .ok (.ireturn, 1) := by decide +kernel
theorem dX3_init_0 : decode cX3_init 0 = .ok (.aload_n 0, 1) := by decide +kernel
theorem dX3_init_1 : decode cX3_init 1 = .ok (.invokespecial 3, 3) := by decide +kernel
theorem dX3_init_4 : decode cX3_init 4 = .ok (.aload_n 0, 1) := by decide +kernel
theorem dX3_init_5 : decode cX3_init 5 = .ok (.bipush 6, 2) := by decide +kernel
theorem dX3_init_7 : decode cX3_init 7 = .ok (.newarray .int, 2) := by decide +kernel
theorem dX3_init_9 : decode cX3_init 9 = .ok (.putfield 9, 3) := by decide +kernel
theorem dX3_init_12 : decode cX3_init 12 = .ok (.aload_n 0, 1) := by decide +kernel
theorem dX3_init_13 : decode cX3_init 13 = .ok (.bipush 6, 2) := by decide +kernel
theorem dX3_init_15 : decode cX3_init 15 = .ok (.newarray .int, 2) := by decide +kernel
theorem dX3_init_17 : decode cX3_init 17 = .ok (.putfield 15, 3) := by decide +kernel
theorem dX3_init_20 : decode cX3_init 20 = .ok (.aload_n 0, 1) := by decide +kernel
theorem dX3_init_21 : decode cX3_init 21 = .ok (.bipush 6, 2) := by decide +kernel
theorem dX3_init_23 : decode cX3_init 23 = .ok (.newarray .int, 2) := by decide +kernel
theorem dX3_init_25 : decode cX3_init 25 = .ok (.putfield 18, 3) := by decide +kernel
theorem dX3_init_28 : decode cX3_init 28 = .ok (.aload_n 0, 1) := by decide +kernel
theorem dX3_init_29 : decode cX3_init 29 = .ok (.bipush 6, 2) := by decide +kernel
theorem dX3_init_31 : decode cX3_init 31 = .ok (.newarray .int, 2) := by decide +kernel
theorem dX3_init_33 : decode cX3_init 33 = .ok (.putfield 21, 3) := by decide +kernel
theorem dX3_init_36 : decode cX3_init 36 = .ok (.aload_n 0, 1) := by decide +kernel
theorem dX3_init_37 : decode cX3_init 37 = .ok (.iconst 0, 1) := by decide +kernel
theorem dX3_init_38 : decode cX3_init 38 = .ok (.putfield 24, 3) := by decide +kernel
theorem dX3_init_41 : decode cX3_init 41 = .ok (.aload_n 0, 1) := by decide +kernel
theorem dX3_init_42 : decode cX3_init 42 = .ok (.iconst 3, 1) := by decide +kernel
theorem dX3_init_43 : decode cX3_init 43 = .ok (.putfield 28, 3) := by decide +kernel
theorem dX3_init_46 : decode cX3_init 46 = .ok (.return_, 1) := by decide +kernel
theorem dX3_clear_0 : decode cX3_clear 0 = .ok (.aload_n 0, 1) := by decide +kernel
theorem dX3_clear_1 : decode cX3_clear 1 = .ok (.iconst 0, 1) := by decide +kernel
theorem dX3_clear_2 : decode cX3_clear 2 = .ok (.putfield 24, 3) := by decide +kernel
theorem dX3_clear_5 : decode cX3_clear 5 = .ok (.aload_n 0, 1) := by decide +kernel
theorem dX3_clear_6 : decode cX3_clear 6 = .ok (.iconst 3, 1) := by decide +kernel
theorem dX3_clear_7 : decode cX3_clear 7 = .ok (.putfield 28, 3) := by decide +kernel
theorem dX3_clear_10 : decode cX3_clear 10 = .ok (.return_, 1) := by decide +kernel
theorem dX3_addPerson_0 : decode cX3_addPerson 0 = .ok (.aload_n 0, 1) := by decide +kernel
theorem dX3_addPerson_1 : decode cX3_addPerson 1 = .ok (.getfield 24, 3) := by decide +kernel
theorem dX3_addPerson_4 : decode cX3_addPerson 4 = .ok (.bipush 6, 2) := by decide +kernel
theorem dX3_addPerson_6 : decode cX3_addPerson 6 = .ok (.if_icmp .ge 33, 3) := by decide +kernel
theorem dX3_addPerson_9 : decode cX3_addPerson 9 = .ok (.iload_n 1, 1) := by decide +kernel
theorem dX3_addPerson_10 : decode cX3_addPerson 10 = .ok (.iconst 4, 1) := by decide +kernel
theorem dX3_addPerson_11 : decode cX3_addPerson 11 = .ok (.if_icmp .ge 28, 3) := by decide +kernel
theorem dX3_addPerson_14 : decode cX3_addPerson 14 = .ok (.iload_n 2, 1) := by decide +kernel
theorem dX3_addPerson_15 : decode cX3_addPerson 15 = .ok (.bipush 40, 2) := by decide +kernel
theorem dX3_addPerson_17 : decode cX3_addPerson 17 = .ok (.if_icmp .gt 22, 3) := by decide +kernel
theorem dX3_addPerson_20 : decode cX3_addPerson 20 = .ok (.iload_n 3, 1) := by decide +kernel
theorem dX3_addPerson_21 : decode cX3_addPerson 21 = .ok (.bipush 40, 2) := by decide +kernel
theorem dX3_addPerson_23 : decode cX3_addPerson 23 = .ok (.if_icmp .gt 16, 3) := by decide +kernel
theorem dX3_addPerson_26 : decode cX3_addPerson 26 = .ok (.iload 4, 2) := by decide +kernel
theorem dX3_addPerson_28 : decode cX3_addPerson 28 = .ok (.iconst 1, 1) := by decide +kernel
theorem dX3_addPerson_29 : decode cX3_addPerson 29 = .ok (.if_icmp .lt 10, 3) := by decide +kernel
theorem dX3_addPerson_32 : decode cX3_addPerson 32 = .ok (.iload 4, 2) := by decide +kernel
theorem dX3_addPerson_34 : decode cX3_addPerson 34 = .ok (.bipush 9, 2) := by decide +kernel
theorem dX3_addPerson_36 : decode cX3_addPerson 36 = .ok (.if_icmp .le 5, 3) := by decide +kernel
theorem dX3_addPerson_39 : decode cX3_addPerson 39 = .ok (.iconst 0, 1) := by decide +kernel
theorem dX3_addPerson_40 : decode cX3_addPerson 40 = .ok (.ireturn, 1) := by decide +kernel
theorem dX3_addPerson_41 : decode cX3_addPerson 41 = .ok (.aload_n 0, 1) := by decide +kernel
theorem dX3_addPerson_42 : decode cX3_addPerson 42 = .ok (.getfield 9, 3) := by decide +kernel
theorem dX3_addPerson_45 : decode cX3_addPerson 45 = .ok (.aload_n 0, 1) := by decide +kernel
theorem dX3_addPerson_46 : decode cX3_addPerson 46 = .ok (.getfield 24, 3) := by decide +kernel
theorem dX3_addPerson_49 : decode cX3_addPerson 49 = .ok (.iload_n 1, 1) := by decide +kernel
theorem dX3_addPerson_50 : decode cX3_addPerson 50 = .ok (.iastore, 1) := by decide +kernel
theorem dX3_addPerson_51 : decode cX3_addPerson 51 = .ok (.aload_n 0, 1) := by decide +kernel
theorem dX3_addPerson_52 : decode cX3_addPerson 52 = .ok (.getfield 15, 3) := by decide +kernel
theorem dX3_addPerson_55 : decode cX3_addPerson 55 = .ok (.aload_n 0, 1) := by decide +kernel
theorem dX3_addPerson_56 : decode cX3_addPerson 56 = .ok (.getfield 24, 3) := by decide +kernel
theorem dX3_addPerson_59 : decode cX3_addPerson 59 = .ok (.iload_n 2, 1) := by decide +kernel
theorem dX3_addPerson_60 : decode cX3_addPerson 60 = .ok (.iastore, 1) := by decide +kernel
theorem dX3_addPerson_61 : decode cX3_addPerson 61 = .ok (.aload_n 0, 1) := by decide +kernel
theorem dX3_addPerson_62 : decode cX3_addPerson 62 = .ok (.getfield 18, 3) := by decide +kernel
theorem dX3_addPerson_65 : decode cX3_addPerson 65 = .ok (.aload_n 0, 1) := by decide +kernel
theorem dX3_addPerson_66 : decode cX3_addPerson 66 = .ok (.getfield 24, 3) := by decide +kernel
theorem dX3_addPerson_69 : decode cX3_addPerson 69 = .ok (.iload_n 3, 1) := by decide +kernel
theorem dX3_addPerson_70 : decode cX3_addPerson 70 = .ok (.iastore, 1) := by decide +kernel
theorem dX3_addPerson_71 : decode cX3_addPerson 71 = .ok (.aload_n 0, 1) := by decide +kernel
theorem dX3_addPerson_72 : decode cX3_addPerson 72 = .ok (.getfield 21, 3) := by decide +kernel
theorem dX3_addPerson_75 : decode cX3_addPerson 75 = .ok (.aload_n 0, 1) := by decide +kernel
theorem dX3_addPerson_76 : decode cX3_addPerson 76 = .ok (.getfield 24, 3) := by decide +kernel
theorem dX3_addPerson_79 : decode cX3_addPerson 79 = .ok (.iload 4, 2) := by decide +kernel
theorem dX3_addPerson_81 : decode cX3_addPerson 81 = .ok (.iastore, 1) := by decide +kernel
theorem dX3_addPerson_82 : decode cX3_addPerson 82 = .ok (.aload_n 0, 1) := by decide +kernel
theorem dX3_addPerson_83 : decode cX3_addPerson 83 = .ok (.dup, 1) := by decide +kernel
theorem dX3_addPerson_84 : decode cX3_addPerson 84 = .ok (.getfield 24, 3) := by decide +kernel
theorem dX3_addPerson_87 : decode cX3_addPerson 87 = .ok (.iconst 1, 1) := by decide +kernel
theorem dX3_addPerson_88 : decode cX3_addPerson 88 = .ok (.iadd, 1) := by decide +kernel
theorem dX3_addPerson_89 : decode cX3_addPerson 89 = .ok (.putfield 24, 3) := by decide +kernel
theorem dX3_addPerson_92 : decode cX3_addPerson 92 = .ok (.iconst 1, 1) := by decide +kernel
theorem dX3_addPerson_93 : decode cX3_addPerson 93 = .ok (.ireturn, 1) := by decide +kernel
theorem dX3_setStock_0 : decode cX3_setStock 0 = .ok (.iload_n 1, 1) := by decide +kernel
theorem dX3_setStock_1 : decode cX3_setStock 1 = .ok (.bipush 20, 2) := by decide +kernel
theorem dX3_setStock_3 : decode cX3_setStock 3 = .ok (.if_icmp .le 5, 3) := by decide +kernel
theorem dX3_setStock_6 : decode cX3_setStock 6 = .ok (.iconst 0, 1) := by decide +kernel
theorem dX3_setStock_7 : decode cX3_setStock 7 = .ok (.ireturn, 1) := by decide +kernel
theorem dX3_setStock_8 : decode cX3_setStock 8 = .ok (.aload_n 0, 1) := by decide +kernel
theorem dX3_setStock_9 : decode cX3_setStock 9 = .ok (.iload_n 1, 1) := by decide +kernel
theorem dX3_setStock_10 : decode cX3_setStock 10 = .ok (.putfield 28, 3) := by decide +kernel
theorem dX3_setStock_13 : decode cX3_setStock 13 = .ok (.iconst 1, 1) := by decide +kernel
theorem dX3_setStock_14 : decode cX3_setStock 14 = .ok (.ireturn, 1) := by decide +kernel
theorem dX3_copyFrom_0 : decode cX3_copyFrom 0 = .ok (.aload_n 1, 1) := by decide +kernel
theorem dX3_copyFrom_1 : decode cX3_copyFrom 1 = .ok (.getfield 9, 3) := by decide +kernel
theorem dX3_copyFrom_4 : decode cX3_copyFrom 4 = .ok (.iconst 0, 1) := by decide +kernel
theorem dX3_copyFrom_5 : decode cX3_copyFrom 5 = .ok (.aload_n 0, 1) := by decide +kernel
theorem dX3_copyFrom_6 : decode cX3_copyFrom 6 = .ok (.getfield 9, 3) := by decide +kernel
theorem dX3_copyFrom_9 : decode cX3_copyFrom 9 = .ok (.iconst 0, 1) := by decide +kernel
theorem dX3_copyFrom_10 : decode cX3_copyFrom 10 = .ok (.bipush 6, 2) := by decide +kernel
theorem dX3_copyFrom_12 : decode cX3_copyFrom 12 = .ok (.invokestatic 31, 3) := by decide +kernel
theorem dX3_copyFrom_15 : decode cX3_copyFrom 15 = .ok (.aload_n 1, 1) := by decide +kernel
theorem dX3_copyFrom_16 : decode cX3_copyFrom 16 = .ok (.getfield 15, 3) := by decide +kernel
theorem dX3_copyFrom_19 : decode cX3_copyFrom 19 = .ok (.iconst 0, 1) := by decide +kernel
theorem dX3_copyFrom_20 : decode cX3_copyFrom 20 = .ok (.aload_n 0, 1) := by decide +kernel
theorem dX3_copyFrom_21 : decode cX3_copyFrom 21 = .ok (.getfield 15, 3) := by decide +kernel
theorem dX3_copyFrom_24 : decode cX3_copyFrom 24 = .ok (.iconst 0, 1) := by decide +kernel
theorem dX3_copyFrom_25 : decode cX3_copyFrom 25 = .ok (.bipush 6, 2) := by decide +kernel
theorem dX3_copyFrom_27 : decode cX3_copyFrom 27 = .ok (.invokestatic 31, 3) := by decide +kernel
theorem dX3_copyFrom_30 : decode cX3_copyFrom 30 = .ok (.aload_n 1, 1) := by decide +kernel
theorem dX3_copyFrom_31 : decode cX3_copyFrom 31 = .ok (.getfield 18, 3) := by decide +kernel
theorem dX3_copyFrom_34 : decode cX3_copyFrom 34 = .ok (.iconst 0, 1) := by decide +kernel
theorem dX3_copyFrom_35 : decode cX3_copyFrom 35 = .ok (.aload_n 0, 1) := by decide +kernel
theorem dX3_copyFrom_36 : decode cX3_copyFrom 36 = .ok (.getfield 18, 3) := by decide +kernel
theorem dX3_copyFrom_39 : decode cX3_copyFrom 39 = .ok (.iconst 0, 1) := by decide +kernel
theorem dX3_copyFrom_40 : decode cX3_copyFrom 40 = .ok (.bipush 6, 2) := by decide +kernel
theorem dX3_copyFrom_42 : decode cX3_copyFrom 42 = .ok (.invokestatic 31, 3) := by decide +kernel
theorem dX3_copyFrom_45 : decode cX3_copyFrom 45 = .ok (.aload_n 1, 1) := by decide +kernel
theorem dX3_copyFrom_46 : decode cX3_copyFrom 46 = .ok (.getfield 21, 3) := by decide +kernel
theorem dX3_copyFrom_49 : decode cX3_copyFrom 49 = .ok (.iconst 0, 1) := by decide +kernel
theorem dX3_copyFrom_50 : decode cX3_copyFrom 50 = .ok (.aload_n 0, 1) := by decide +kernel
theorem dX3_copyFrom_51 : decode cX3_copyFrom 51 = .ok (.getfield 21, 3) := by decide +kernel
theorem dX3_copyFrom_54 : decode cX3_copyFrom 54 = .ok (.iconst 0, 1) := by decide +kernel
theorem dX3_copyFrom_55 : decode cX3_copyFrom 55 = .ok (.bipush 6, 2) := by decide +kernel
theorem dX3_copyFrom_57 : decode cX3_copyFrom 57 = .ok (.invokestatic 31, 3) := by decide +kernel
theorem dX3_copyFrom_60 : decode cX3_copyFrom 60 = .ok (.aload_n 0, 1) := by decide +kernel
theorem dX3_copyFrom_61 : decode cX3_copyFrom 61 = .ok (.aload_n 1, 1) := by decide +kernel
theorem dX3_copyFrom_62 : decode cX3_copyFrom 62 = .ok (.getfield 24, 3) := by decide +kernel
theorem dX3_copyFrom_65 : decode cX3_copyFrom 65 = .ok (.putfield 24, 3) := by decide +kernel
theorem dX3_copyFrom_68 : decode cX3_copyFrom 68 = .ok (.aload_n 0, 1) := by decide +kernel
theorem dX3_copyFrom_69 : decode cX3_copyFrom 69 = .ok (.aload_n 1, 1) := by decide +kernel
theorem dX3_copyFrom_70 : decode cX3_copyFrom 70 = .ok (.getfield 28, 3) := by decide +kernel
theorem dX3_copyFrom_73 : decode cX3_copyFrom 73 = .ok (.putfield 28, 3) := by decide +kernel
theorem dX3_copyFrom_76 : decode cX3_copyFrom 76 = .ok (.return_, 1) := by decide +kernel
theorem dX3_fact_0 : decode cX3_fact 0 = .ok (.iload_n 2, 1) := by decide +kernel
theorem dX3_fact_1 : decode cX3_fact 1 = .ok (.tableswitch 48 0 2 #[27, 34, 41], 27) := by decide +kernel
theorem dX3_fact_28 : decode cX3_fact 28 = .ok (.aload_n 0, 1) := by decide +kernel
theorem dX3_fact_29 : decode cX3_fact 29 = .ok (.getfield 9, 3) := by decide +kernel
theorem dX3_fact_32 : decode cX3_fact 32 = .ok (.iload_n 1, 1) := by decide +kernel
theorem dX3_fact_33 : decode cX3_fact 33 = .ok (.iaload, 1) := by decide +kernel
theorem dX3_fact_34 : decode cX3_fact 34 = .ok (.ireturn, 1) := by decide +kernel
theorem dX3_fact_35 : decode cX3_fact 35 = .ok (.aload_n 0, 1) := by decide +kernel
theorem dX3_fact_36 : decode cX3_fact 36 = .ok (.getfield 15, 3) := by decide +kernel
theorem dX3_fact_39 : decode cX3_fact 39 = .ok (.iload_n 1, 1) := by decide +kernel
theorem dX3_fact_40 : decode cX3_fact 40 = .ok (.iaload, 1) := by decide +kernel
theorem dX3_fact_41 : decode cX3_fact 41 = .ok (.ireturn, 1) := by decide +kernel
theorem dX3_fact_42 : decode cX3_fact 42 = .ok (.aload_n 0, 1) := by decide +kernel
theorem dX3_fact_43 : decode cX3_fact 43 = .ok (.getfield 18, 3) := by decide +kernel
theorem dX3_fact_46 : decode cX3_fact 46 = .ok (.iload_n 1, 1) := by decide +kernel
theorem dX3_fact_47 : decode cX3_fact 47 = .ok (.iaload, 1) := by decide +kernel
theorem dX3_fact_48 : decode cX3_fact 48 = .ok (.ireturn, 1) := by decide +kernel
theorem dX3_fact_49 : decode cX3_fact 49 = .ok (.aload_n 0, 1) := by decide +kernel
theorem dX3_fact_50 : decode cX3_fact 50 = .ok (.getfield 21, 3) := by decide +kernel
theorem dX3_fact_53 : decode cX3_fact 53 = .ok (.iload_n 1, 1) := by decide +kernel
theorem dX3_fact_54 : decode cX3_fact 54 = .ok (.iaload, 1) := by decide +kernel
theorem dX3_fact_55 : decode cX3_fact 55 = .ok (.ireturn, 1) := by decide +kernel
theorem dX4_init_0 : decode cX4_init 0 = .ok (.aload_n 0, 1) := by decide +kernel
theorem dX4_init_1 : decode cX4_init 1 = .ok (.invokespecial 3, 3) := by decide +kernel
theorem dX4_init_4 : decode cX4_init 4 = .ok (.aload_n 0, 1) := by decide +kernel
theorem dX4_init_5 : decode cX4_init 5 = .ok (.bipush 6, 2) := by decide +kernel
theorem dX4_init_7 : decode cX4_init 7 = .ok (.newarray .int, 2) := by decide +kernel
theorem dX4_init_9 : decode cX4_init 9 = .ok (.putfield 9, 3) := by decide +kernel
theorem dX4_init_12 : decode cX4_init 12 = .ok (.aload_n 0, 1) := by decide +kernel
theorem dX4_init_13 : decode cX4_init 13 = .ok (.bipush 6, 2) := by decide +kernel
theorem dX4_init_15 : decode cX4_init 15 = .ok (.newarray .int, 2) := by decide +kernel
theorem dX4_init_17 : decode cX4_init 17 = .ok (.putfield 15, 3) := by decide +kernel
theorem dX4_init_20 : decode cX4_init 20 = .ok (.aload_n 0, 1) := by decide +kernel
theorem dX4_init_21 : decode cX4_init 21 = .ok (.bipush 6, 2) := by decide +kernel
theorem dX4_init_23 : decode cX4_init 23 = .ok (.newarray .boolean, 2) := by decide +kernel
theorem dX4_init_25 : decode cX4_init 25 = .ok (.putfield 18, 3) := by decide +kernel
theorem dX4_init_28 : decode cX4_init 28 = .ok (.aload_n 0, 1) := by decide +kernel
theorem dX4_init_29 : decode cX4_init 29 = .ok (.iconst 0, 1) := by decide +kernel
theorem dX4_init_30 : decode cX4_init 30 = .ok (.putfield 22, 3) := by decide +kernel
theorem dX4_init_33 : decode cX4_init 33 = .ok (.return_, 1) := by decide +kernel
theorem dX4_add_0 : decode cX4_add 0 = .ok (.aload_n 0, 1) := by decide +kernel
theorem dX4_add_1 : decode cX4_add 1 = .ok (.getfield 22, 3) := by decide +kernel
theorem dX4_add_4 : decode cX4_add 4 = .ok (.bipush 6, 2) := by decide +kernel
theorem dX4_add_6 : decode cX4_add 6 = .ok (.if_icmp .ge 43, 3) := by decide +kernel
theorem dX4_add_9 : decode cX4_add 9 = .ok (.aload_n 0, 1) := by decide +kernel
theorem dX4_add_10 : decode cX4_add 10 = .ok (.getfield 9, 3) := by decide +kernel
theorem dX4_add_13 : decode cX4_add 13 = .ok (.aload_n 0, 1) := by decide +kernel
theorem dX4_add_14 : decode cX4_add 14 = .ok (.getfield 22, 3) := by decide +kernel
theorem dX4_add_17 : decode cX4_add 17 = .ok (.iload_n 1, 1) := by decide +kernel
theorem dX4_add_18 : decode cX4_add 18 = .ok (.iastore, 1) := by decide +kernel
theorem dX4_add_19 : decode cX4_add 19 = .ok (.aload_n 0, 1) := by decide +kernel
theorem dX4_add_20 : decode cX4_add 20 = .ok (.getfield 15, 3) := by decide +kernel
theorem dX4_add_23 : decode cX4_add 23 = .ok (.aload_n 0, 1) := by decide +kernel
theorem dX4_add_24 : decode cX4_add 24 = .ok (.getfield 22, 3) := by decide +kernel
theorem dX4_add_27 : decode cX4_add 27 = .ok (.iload_n 2, 1) := by decide +kernel
theorem dX4_add_28 : decode cX4_add 28 = .ok (.iastore, 1) := by decide +kernel
theorem dX4_add_29 : decode cX4_add 29 = .ok (.aload_n 0, 1) := by decide +kernel
theorem dX4_add_30 : decode cX4_add 30 = .ok (.getfield 18, 3) := by decide +kernel
theorem dX4_add_33 : decode cX4_add 33 = .ok (.aload_n 0, 1) := by decide +kernel
theorem dX4_add_34 : decode cX4_add 34 = .ok (.getfield 22, 3) := by decide +kernel
theorem dX4_add_37 : decode cX4_add 37 = .ok (.iload_n 3, 1) := by decide +kernel
theorem dX4_add_38 : decode cX4_add 38 = .ok (.bastore, 1) := by decide +kernel
theorem dX4_add_39 : decode cX4_add 39 = .ok (.aload_n 0, 1) := by decide +kernel
theorem dX4_add_40 : decode cX4_add 40 = .ok (.dup, 1) := by decide +kernel
theorem dX4_add_41 : decode cX4_add 41 = .ok (.getfield 22, 3) := by decide +kernel
theorem dX4_add_44 : decode cX4_add 44 = .ok (.iconst 1, 1) := by decide +kernel
theorem dX4_add_45 : decode cX4_add 45 = .ok (.iadd, 1) := by decide +kernel
theorem dX4_add_46 : decode cX4_add 46 = .ok (.putfield 22, 3) := by decide +kernel
theorem dX4_add_49 : decode cX4_add 49 = .ok (.return_, 1) := by decide +kernel
theorem dX4_allHold_0 : decode cX4_allHold 0 = .ok (.iconst 0, 1) := by decide +kernel
theorem dX4_allHold_1 : decode cX4_allHold 1 = .ok (.istore_n 2, 1) := by decide +kernel
theorem dX4_allHold_2 : decode cX4_allHold 2 = .ok (.iconst 0, 1) := by decide +kernel
theorem dX4_allHold_3 : decode cX4_allHold 3 = .ok (.istore_n 3, 1) := by decide +kernel
theorem dX4_allHold_4 : decode cX4_allHold 4 = .ok (.iload_n 3, 1) := by decide +kernel
theorem dX4_allHold_5 : decode cX4_allHold 5 = .ok (.aload_n 0, 1) := by decide +kernel
theorem dX4_allHold_6 : decode cX4_allHold 6 = .ok (.getfield 22, 3) := by decide +kernel
theorem dX4_allHold_9 : decode cX4_allHold 9 = .ok (.if_icmp .ge 20, 3) := by decide +kernel
theorem dX4_allHold_12 : decode cX4_allHold 12 = .ok (.iload_n 2, 1) := by decide +kernel
theorem dX4_allHold_13 : decode cX4_allHold 13 = .ok (.aload_n 0, 1) := by decide +kernel
theorem dX4_allHold_14 : decode cX4_allHold 14 = .ok (.getfield 9, 3) := by decide +kernel
theorem dX4_allHold_17 : decode cX4_allHold 17 = .ok (.iload_n 3, 1) := by decide +kernel
theorem dX4_allHold_18 : decode cX4_allHold 18 = .ok (.iaload, 1) := by decide +kernel
theorem dX4_allHold_19 : decode cX4_allHold 19 = .ok (.invokestatic 26, 3) := by decide +kernel
theorem dX4_allHold_22 : decode cX4_allHold 22 = .ok (.istore_n 2, 1) := by decide +kernel
theorem dX4_allHold_23 : decode cX4_allHold 23 = .ok (.iinc 3 1, 3) := by decide +kernel
theorem dX4_allHold_26 : decode cX4_allHold 26 = .ok (.goto (-22), 3) := by decide +kernel
theorem dX4_allHold_29 : decode cX4_allHold 29 = .ok (.iconst 0, 1) := by decide +kernel
theorem dX4_allHold_30 : decode cX4_allHold 30 = .ok (.istore_n 3, 1) := by decide +kernel
theorem dX4_allHold_31 : decode cX4_allHold 31 = .ok (.iload_n 3, 1) := by decide +kernel
theorem dX4_allHold_32 : decode cX4_allHold 32 = .ok (.iload_n 2, 1) := by decide +kernel
theorem dX4_allHold_33 : decode cX4_allHold 33 = .ok (.if_icmp .gt 25, 3) := by decide +kernel
theorem dX4_allHold_36 : decode cX4_allHold 36 = .ok (.aload_n 0, 1) := by decide +kernel
theorem dX4_allHold_37 : decode cX4_allHold 37 = .ok (.iload_n 3, 1) := by decide +kernel
theorem dX4_allHold_38 : decode cX4_allHold 38 = .ok (.aload_n 1, 1) := by decide +kernel
theorem dX4_allHold_39 : decode cX4_allHold 39 = .ok (.invokevirtual 32, 3) := by decide +kernel
theorem dX4_allHold_42 : decode cX4_allHold 42 = .ok (.ifCond .ne 5, 3) := by decide +kernel
theorem dX4_allHold_45 : decode cX4_allHold 45 = .ok (.iconst 0, 1) := by decide +kernel
theorem dX4_allHold_46 : decode cX4_allHold 46 = .ok (.ireturn, 1) := by decide +kernel
theorem dX4_allHold_47 : decode cX4_allHold 47 = .ok (.aload_n 1, 1) := by decide +kernel
theorem dX4_allHold_48 : decode cX4_allHold 48 = .ok (.iconst 0, 1) := by decide +kernel
theorem dX4_allHold_49 : decode cX4_allHold 49 = .ok (.invokevirtual 36, 3) := by decide +kernel
theorem dX4_allHold_52 : decode cX4_allHold 52 = .ok (.iinc 3 1, 3) := by decide +kernel
theorem dX4_allHold_55 : decode cX4_allHold 55 = .ok (.goto (-24), 3) := by decide +kernel
theorem dX4_allHold_58 : decode cX4_allHold 58 = .ok (.iconst 1, 1) := by decide +kernel
theorem dX4_allHold_59 : decode cX4_allHold 59 = .ok (.ireturn, 1) := by decide +kernel
theorem dX4_holdAfter_0 : decode cX4_holdAfter 0 = .ok (.iconst 0, 1) := by decide +kernel
theorem dX4_holdAfter_1 : decode cX4_holdAfter 1 = .ok (.istore_n 3, 1) := by decide +kernel
theorem dX4_holdAfter_2 : decode cX4_holdAfter 2 = .ok (.iload_n 3, 1) := by decide +kernel
theorem dX4_holdAfter_3 : decode cX4_holdAfter 3 = .ok (.aload_n 0, 1) := by decide +kernel
theorem dX4_holdAfter_4 : decode cX4_holdAfter 4 = .ok (.getfield 22, 3) := by decide +kernel
theorem dX4_holdAfter_7 : decode cX4_holdAfter 7 = .ok (.if_icmp .ge 40, 3) := by decide +kernel
theorem dX4_holdAfter_10 : decode cX4_holdAfter 10 = .ok (.aload_n 0, 1) := by decide +kernel
theorem dX4_holdAfter_11 : decode cX4_holdAfter 11 = .ok (.getfield 9, 3) := by decide +kernel
theorem dX4_holdAfter_14 : decode cX4_holdAfter 14 = .ok (.iload_n 3, 1) := by decide +kernel
theorem dX4_holdAfter_15 : decode cX4_holdAfter 15 = .ok (.iaload, 1) := by decide +kernel
theorem dX4_holdAfter_16 : decode cX4_holdAfter 16 = .ok (.iload_n 1, 1) := by decide +kernel
theorem dX4_holdAfter_17 : decode cX4_holdAfter 17 = .ok (.if_icmp .ne 24, 3) := by decide +kernel
theorem dX4_holdAfter_20 : decode cX4_holdAfter 20 = .ok (.aload_n 2, 1) := by decide +kernel
theorem dX4_holdAfter_21 : decode cX4_holdAfter 21 = .ok (.aload_n 0, 1) := by decide +kernel
theorem dX4_holdAfter_22 : decode cX4_holdAfter 22 = .ok (.getfield 15, 3) := by decide +kernel
theorem dX4_holdAfter_25 : decode cX4_holdAfter 25 = .ok (.iload_n 3, 1) := by decide +kernel
theorem dX4_holdAfter_26 : decode cX4_holdAfter 26 = .ok (.iaload, 1) := by decide +kernel
theorem dX4_holdAfter_27 : decode cX4_holdAfter 27 = .ok (.invokevirtual 42, 3) := by decide +kernel
theorem dX4_holdAfter_30 : decode cX4_holdAfter 30 = .ok (.aload_n 0, 1) := by decide +kernel
theorem dX4_holdAfter_31 : decode cX4_holdAfter 31 = .ok (.getfield 18, 3) := by decide +kernel
theorem dX4_holdAfter_34 : decode cX4_holdAfter 34 = .ok (.iload_n 3, 1) := by decide +kernel
theorem dX4_holdAfter_35 : decode cX4_holdAfter 35 = .ok (.baload, 1) := by decide +kernel
theorem dX4_holdAfter_36 : decode cX4_holdAfter 36 = .ok (.if_icmp .eq 5, 3) := by decide +kernel
theorem dX4_holdAfter_39 : decode cX4_holdAfter 39 = .ok (.iconst 0, 1) := by decide +kernel
theorem dX4_holdAfter_40 : decode cX4_holdAfter 40 = .ok (.ireturn, 1) := by decide +kernel
theorem dX4_holdAfter_41 : decode cX4_holdAfter 41 = .ok (.iinc 3 1, 3) := by decide +kernel
theorem dX4_holdAfter_44 : decode cX4_holdAfter 44 = .ok (.goto (-42), 3) := by decide +kernel
theorem dX4_holdAfter_47 : decode cX4_holdAfter 47 = .ok (.iconst 1, 1) := by decide +kernel
theorem dX4_holdAfter_48 : decode cX4_holdAfter 48 = .ok (.ireturn, 1) := by decide +kernel
theorem dX5_init_0 : decode cX5_init 0 = .ok (.aload_n 0, 1) := by decide +kernel
theorem dX5_init_1 : decode cX5_init 1 = .ok (.invokespecial 3, 3) := by decide +kernel
theorem dX5_init_4 : decode cX5_init 4 = .ok (.aload_n 0, 1) := by decide +kernel
theorem dX5_init_5 : decode cX5_init 5 = .ok (.sipush 200, 3) := by decide +kernel
theorem dX5_init_8 : decode cX5_init 8 = .ok (.newarray .char, 2) := by decide +kernel
theorem dX5_init_10 : decode cX5_init 10 = .ok (.putfield 9, 3) := by decide +kernel
theorem dX5_init_13 : decode cX5_init 13 = .ok (.aload_n 0, 1) := by decide +kernel
theorem dX5_init_14 : decode cX5_init 14 = .ok (.iconst 4, 1) := by decide +kernel
theorem dX5_init_15 : decode cX5_init 15 = .ok (.newarray .int, 2) := by decide +kernel
theorem dX5_init_17 : decode cX5_init 17 = .ok (.putfield 15, 3) := by decide +kernel
theorem dX5_init_20 : decode cX5_init 20 = .ok (.aload_n 0, 1) := by decide +kernel
