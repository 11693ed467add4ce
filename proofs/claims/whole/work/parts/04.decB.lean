theorem dX5_init_21 : decode cX5_init 21 = .ok (.iconst 0, 1) := by decide +kernel
theorem dX5_init_22 : decode cX5_init 22 = .ok (.putfield 19, 3) := by decide +kernel
theorem dX5_init_25 : decode cX5_init 25 = .ok (.return_, 1) := by decide +kernel
theorem dX5_append_0 : decode cX5_append 0 = .ok (.aload_n 0, 1) := by decide +kernel
theorem dX5_append_1 : decode cX5_append 1 = .ok (.getfield 19, 3) := by decide +kernel
theorem dX5_append_4 : decode cX5_append 4 = .ok (.sipush 200, 3) := by decide +kernel
theorem dX5_append_7 : decode cX5_append 7 = .ok (.if_icmp .ge 24, 3) := by decide +kernel
theorem dX5_append_10 : decode cX5_append 10 = .ok (.aload_n 0, 1) := by decide +kernel
theorem dX5_append_11 : decode cX5_append 11 = .ok (.getfield 9, 3) := by decide +kernel
theorem dX5_append_14 : decode cX5_append 14 = .ok (.aload_n 0, 1) := by decide +kernel
theorem dX5_append_15 : decode cX5_append 15 = .ok (.getfield 19, 3) := by decide +kernel
theorem dX5_append_18 : decode cX5_append 18 = .ok (.iload_n 1, 1) := by decide +kernel
theorem dX5_append_19 : decode cX5_append 19 = .ok (.i2c, 1) := by decide +kernel
theorem dX5_append_20 : decode cX5_append 20 = .ok (.castore, 1) := by decide +kernel
theorem dX5_append_21 : decode cX5_append 21 = .ok (.aload_n 0, 1) := by decide +kernel
theorem dX5_append_22 : decode cX5_append 22 = .ok (.dup, 1) := by decide +kernel
theorem dX5_append_23 : decode cX5_append 23 = .ok (.getfield 19, 3) := by decide +kernel
theorem dX5_append_26 : decode cX5_append 26 = .ok (.iconst 1, 1) := by decide +kernel
theorem dX5_append_27 : decode cX5_append 27 = .ok (.iadd, 1) := by decide +kernel
theorem dX5_append_28 : decode cX5_append 28 = .ok (.putfield 19, 3) := by decide +kernel
theorem dX5_append_31 : decode cX5_append 31 = .ok (.aload_n 0, 1) := by decide +kernel
theorem dX5_append_32 : decode cX5_append 32 = .ok (.getfield 19, 3) := by decide +kernel
theorem dX5_append_35 : decode cX5_append 35 = .ok (.ireturn, 1) := by decide +kernel
theorem dX5_empty_0 : decode cX5_empty 0 = .ok (.aload_n 0, 1) := by decide +kernel
theorem dX5_empty_1 : decode cX5_empty 1 = .ok (.getfield 19, 3) := by decide +kernel
theorem dX5_empty_4 : decode cX5_empty 4 = .ok (.istore_n 1, 1) := by decide +kernel
theorem dX5_empty_5 : decode cX5_empty 5 = .ok (.aload_n 0, 1) := by decide +kernel
theorem dX5_empty_6 : decode cX5_empty 6 = .ok (.iconst 0, 1) := by decide +kernel
theorem dX5_empty_7 : decode cX5_empty 7 = .ok (.putfield 19, 3) := by decide +kernel
theorem dX5_empty_10 : decode cX5_empty 10 = .ok (.iload_n 1, 1) := by decide +kernel
theorem dX5_empty_11 : decode cX5_empty 11 = .ok (.ireturn, 1) := by decide +kernel
theorem dX5_readInto_0 : decode cX5_readInto 0 = .ok (.aload_n 1, 1) := by decide +kernel
theorem dX5_readInto_1 : decode cX5_readInto 1 = .ok (.invokevirtual 23, 3) := by decide +kernel
theorem dX5_readInto_4 : decode cX5_readInto 4 = .ok (.iconst 0, 1) := by decide +kernel
theorem dX5_readInto_5 : decode cX5_readInto 5 = .ok (.istore_n 2, 1) := by decide +kernel
theorem dX5_readInto_6 : decode cX5_readInto 6 = .ok (.iconst 0, 1) := by decide +kernel
theorem dX5_readInto_7 : decode cX5_readInto 7 = .ok (.istore_n 3, 1) := by decide +kernel
theorem dX5_readInto_8 : decode cX5_readInto 8 = .ok (.iload_n 3, 1) := by decide +kernel
theorem dX5_readInto_9 : decode cX5_readInto 9 = .ok (.sipush 200, 3) := by decide +kernel
theorem dX5_readInto_12 : decode cX5_readInto 12 = .ok (.if_icmp .ge 35, 3) := by decide +kernel
theorem dX5_readInto_15 : decode cX5_readInto 15 = .ok (.iload_n 2, 1) := by decide +kernel
theorem dX5_readInto_16 : decode cX5_readInto 16 = .ok (.aload_n 0, 1) := by decide +kernel
theorem dX5_readInto_17 : decode cX5_readInto 17 = .ok (.getfield 19, 3) := by decide +kernel
theorem dX5_readInto_20 : decode cX5_readInto 20 = .ok (.if_icmp .ge 27, 3) := by decide +kernel
theorem dX5_readInto_23 : decode cX5_readInto 23 = .ok (.aload_n 0, 1) := by decide +kernel
theorem dX5_readInto_24 : decode cX5_readInto 24 = .ok (.iload_n 2, 1) := by decide +kernel
theorem dX5_readInto_25 : decode cX5_readInto 25 = .ok (.aload_n 1, 1) := by decide +kernel
theorem dX5_readInto_26 : decode cX5_readInto 26 = .ok (.invokevirtual 28, 3) := by decide +kernel
theorem dX5_readInto_29 : decode cX5_readInto 29 = .ok (.istore 4, 2) := by decide +kernel
theorem dX5_readInto_31 : decode cX5_readInto 31 = .ok (.iload 4, 2) := by decide +kernel
theorem dX5_readInto_33 : decode cX5_readInto 33 = .ok (.ifCond .ge 5, 3) := by decide +kernel
theorem dX5_readInto_36 : decode cX5_readInto 36 = .ok (.iload_n 2, 1) := by decide +kernel
theorem dX5_readInto_37 : decode cX5_readInto 37 = .ok (.ireturn, 1) := by decide +kernel
theorem dX5_readInto_38 : decode cX5_readInto 38 = .ok (.iload 4, 2) := by decide +kernel
theorem dX5_readInto_40 : decode cX5_readInto 40 = .ok (.istore_n 2, 1) := by decide +kernel
theorem dX5_readInto_41 : decode cX5_readInto 41 = .ok (.iinc 3 1, 3) := by decide +kernel
theorem dX5_readInto_44 : decode cX5_readInto 44 = .ok (.goto (-36), 3) := by decide +kernel
theorem dX5_readInto_47 : decode cX5_readInto 47 = .ok (.bipush (-4), 2) := by decide +kernel
theorem dX5_readInto_49 : decode cX5_readInto 49 = .ok (.ireturn, 1) := by decide +kernel
theorem dX5_readItem_0 : decode cX5_readItem 0 = .ok (.aload_n 0, 1) := by decide +kernel
theorem dX5_readItem_1 : decode cX5_readItem 1 = .ok (.iload_n 1, 1) := by decide +kernel
theorem dX5_readItem_2 : decode cX5_readItem 2 = .ok (.invokevirtual 32, 3) := by decide +kernel
theorem dX5_readItem_5 : decode cX5_readItem 5 = .ok (.istore_n 3, 1) := by decide +kernel
theorem dX5_readItem_6 : decode cX5_readItem 6 = .ok (.iload_n 3, 1) := by decide +kernel
theorem dX5_readItem_7 : decode cX5_readItem 7 = .ok (.bipush 112, 2) := by decide +kernel
theorem dX5_readItem_9 : decode cX5_readItem 9 = .ok (.if_icmp .eq 12, 3) := by decide +kernel
theorem dX5_readItem_12 : decode cX5_readItem 12 = .ok (.iload_n 3, 1) := by decide +kernel
theorem dX5_readItem_13 : decode cX5_readItem 13 = .ok (.bipush 104, 2) := by decide +kernel
theorem dX5_readItem_15 : decode cX5_readItem 15 = .ok (.if_icmp .eq 6, 3) := by decide +kernel
theorem dX5_readItem_18 : decode cX5_readItem 18 = .ok (.bipush (-4), 2) := by decide +kernel
theorem dX5_readItem_20 : decode cX5_readItem 20 = .ok (.ireturn, 1) := by decide +kernel
theorem dX5_readItem_21 : decode cX5_readItem 21 = .ok (.aload_n 0, 1) := by decide +kernel
theorem dX5_readItem_22 : decode cX5_readItem 22 = .ok (.iload_n 1, 1) := by decide +kernel
theorem dX5_readItem_23 : decode cX5_readItem 23 = .ok (.iconst 1, 1) := by decide +kernel
theorem dX5_readItem_24 : decode cX5_readItem 24 = .ok (.iadd, 1) := by decide +kernel
theorem dX5_readItem_25 : decode cX5_readItem 25 = .ok (.iload_n 3, 1) := by decide +kernel
theorem dX5_readItem_26 : decode cX5_readItem 26 = .ok (.bipush 112, 2) := by decide +kernel
theorem dX5_readItem_28 : decode cX5_readItem 28 = .ok (.if_icmp .ne 7, 3) := by decide +kernel
theorem dX5_readItem_31 : decode cX5_readItem 31 = .ok (.iconst 4, 1) := by decide +kernel
theorem dX5_readItem_32 : decode cX5_readItem 32 = .ok (.goto 4, 3) := by decide +kernel
theorem dX5_readItem_35 : decode cX5_readItem 35 = .ok (.iconst 1, 1) := by decide +kernel
theorem dX5_readItem_36 : decode cX5_readItem 36 = .ok (.invokevirtual 36, 3) := by decide +kernel
theorem dX5_readItem_39 : decode cX5_readItem 39 = .ok (.istore 4, 2) := by decide +kernel
theorem dX5_readItem_41 : decode cX5_readItem 41 = .ok (.iload 4, 2) := by decide +kernel
theorem dX5_readItem_43 : decode cX5_readItem 43 = .ok (.ifCond .ge 6, 3) := by decide +kernel
theorem dX5_readItem_46 : decode cX5_readItem 46 = .ok (.bipush (-4), 2) := by decide +kernel
theorem dX5_readItem_48 : decode cX5_readItem 48 = .ok (.ireturn, 1) := by decide +kernel
theorem dX5_readItem_49 : decode cX5_readItem 49 = .ok (.iload_n 3, 1) := by decide +kernel
theorem dX5_readItem_50 : decode cX5_readItem 50 = .ok (.bipush 112, 2) := by decide +kernel
theorem dX5_readItem_52 : decode cX5_readItem 52 = .ok (.if_icmp .ne 34, 3) := by decide +kernel
theorem dX5_readItem_55 : decode cX5_readItem 55 = .ok (.aload_n 2, 1) := by decide +kernel
theorem dX5_readItem_56 : decode cX5_readItem 56 = .ok (.aload_n 0, 1) := by decide +kernel
theorem dX5_readItem_57 : decode cX5_readItem 57 = .ok (.getfield 15, 3) := by decide +kernel
theorem dX5_readItem_60 : decode cX5_readItem 60 = .ok (.iconst 0, 1) := by decide +kernel
theorem dX5_readItem_61 : decode cX5_readItem 61 = .ok (.iaload, 1) := by decide +kernel
theorem dX5_readItem_62 : decode cX5_readItem 62 = .ok (.aload_n 0, 1) := by decide +kernel
theorem dX5_readItem_63 : decode cX5_readItem 63 = .ok (.getfield 15, 3) := by decide +kernel
theorem dX5_readItem_66 : decode cX5_readItem 66 = .ok (.iconst 1, 1) := by decide +kernel
theorem dX5_readItem_67 : decode cX5_readItem 67 = .ok (.iaload, 1) := by decide +kernel
theorem dX5_readItem_68 : decode cX5_readItem 68 = .ok (.aload_n 0, 1) := by decide +kernel
theorem dX5_readItem_69 : decode cX5_readItem 69 = .ok (.getfield 15, 3) := by decide +kernel
theorem dX5_readItem_72 : decode cX5_readItem 72 = .ok (.iconst 2, 1) := by decide +kernel
theorem dX5_readItem_73 : decode cX5_readItem 73 = .ok (.iaload, 1) := by decide +kernel
theorem dX5_readItem_74 : decode cX5_readItem 74 = .ok (.aload_n 0, 1) := by decide +kernel
theorem dX5_readItem_75 : decode cX5_readItem 75 = .ok (.getfield 15, 3) := by decide +kernel
theorem dX5_readItem_78 : decode cX5_readItem 78 = .ok (.iconst 3, 1) := by decide +kernel
theorem dX5_readItem_79 : decode cX5_readItem 79 = .ok (.iaload, 1) := by decide +kernel
theorem dX5_readItem_80 : decode cX5_readItem 80 = .ok (.invokevirtual 40, 3) := by decide +kernel
theorem dX5_readItem_83 : decode cX5_readItem 83 = .ok (.goto 13, 3) := by decide +kernel
theorem dX5_readItem_86 : decode cX5_readItem 86 = .ok (.aload_n 2, 1) := by decide +kernel
theorem dX5_readItem_87 : decode cX5_readItem 87 = .ok (.aload_n 0, 1) := by decide +kernel
theorem dX5_readItem_88 : decode cX5_readItem 88 = .ok (.getfield 15, 3) := by decide +kernel
theorem dX5_readItem_91 : decode cX5_readItem 91 = .ok (.iconst 0, 1) := by decide +kernel
theorem dX5_readItem_92 : decode cX5_readItem 92 = .ok (.iaload, 1) := by decide +kernel
theorem dX5_readItem_93 : decode cX5_readItem 93 = .ok (.invokevirtual 44, 3) := by decide +kernel
theorem dX5_readItem_96 : decode cX5_readItem 96 = .ok (.istore 5, 2) := by decide +kernel
theorem dX5_readItem_98 : decode cX5_readItem 98 = .ok (.iload 5, 2) := by decide +kernel
theorem dX5_readItem_100 : decode cX5_readItem 100 = .ok (.ifCond .eq 8, 3) := by decide +kernel
theorem dX5_readItem_103 : decode cX5_readItem 103 = .ok (.iload 4, 2) := by decide +kernel
theorem dX5_readItem_105 : decode cX5_readItem 105 = .ok (.goto 5, 3) := by decide +kernel
theorem dX5_readItem_108 : decode cX5_readItem 108 = .ok (.bipush (-4), 2) := by decide +kernel
theorem dX5_readItem_110 : decode cX5_readItem 110 = .ok (.ireturn, 1) := by decide +kernel
theorem dX5_readNumbers_0 : decode cX5_readNumbers 0 = .ok (.iload_n 1, 1) := by decide +kernel
theorem dX5_readNumbers_1 : decode cX5_readNumbers 1 = .ok (.istore_n 3, 1) := by decide +kernel
theorem dX5_readNumbers_2 : decode cX5_readNumbers 2 = .ok (.iconst 0, 1) := by decide +kernel
theorem dX5_readNumbers_3 : decode cX5_readNumbers 3 = .ok (.istore 4, 2) := by decide +kernel
theorem dX5_readNumbers_5 : decode cX5_readNumbers 5 = .ok (.iload 4, 2) := by decide +kernel
theorem dX5_readNumbers_7 : decode cX5_readNumbers 7 = .ok (.iload_n 2, 1) := by decide +kernel
theorem dX5_readNumbers_8 : decode cX5_readNumbers 8 = .ok (.if_icmp .ge 108, 3) := by decide +kernel
theorem dX5_readNumbers_11 : decode cX5_readNumbers 11 = .ok (.iload 4, 2) := by decide +kernel
theorem dX5_readNumbers_13 : decode cX5_readNumbers 13 = .ok (.aload_n 0, 1) := by decide +kernel
theorem dX5_readNumbers_14 : decode cX5_readNumbers 14 = .ok (.getfield 15, 3) := by decide +kernel
theorem dX5_readNumbers_17 : decode cX5_readNumbers 17 = .ok (.arraylength, 1) := by decide +kernel
theorem dX5_readNumbers_18 : decode cX5_readNumbers 18 = .ok (.if_icmp .ge 98, 3) := by decide +kernel
theorem dX5_readNumbers_21 : decode cX5_readNumbers 21 = .ok (.aload_n 0, 1) := by decide +kernel
theorem dX5_readNumbers_22 : decode cX5_readNumbers 22 = .ok (.iload_n 3, 1) := by decide +kernel
theorem dX5_readNumbers_23 : decode cX5_readNumbers 23 = .ok (.invokevirtual 48, 3) := by decide +kernel
theorem dX5_readNumbers_26 : decode cX5_readNumbers 26 = .ok (.ifCond .ne 6, 3) := by decide +kernel
theorem dX5_readNumbers_29 : decode cX5_readNumbers 29 = .ok (.bipush (-4), 2) := by decide +kernel
theorem dX5_readNumbers_31 : decode cX5_readNumbers 31 = .ok (.ireturn, 1) := by decide +kernel
theorem dX5_readNumbers_32 : decode cX5_readNumbers 32 = .ok (.aload_n 0, 1) := by decide +kernel
theorem dX5_readNumbers_33 : decode cX5_readNumbers 33 = .ok (.iload_n 3, 1) := by decide +kernel
theorem dX5_readNumbers_34 : decode cX5_readNumbers 34 = .ok (.invokevirtual 32, 3) := by decide +kernel
theorem dX5_readNumbers_37 : decode cX5_readNumbers 37 = .ok (.bipush 48, 2) := by decide +kernel
theorem dX5_readNumbers_39 : decode cX5_readNumbers 39 = .ok (.isub, 1) := by decide +kernel
theorem dX5_readNumbers_40 : decode cX5_readNumbers 40 = .ok (.istore 5, 2) := by decide +kernel
theorem dX5_readNumbers_42 : decode cX5_readNumbers 42 = .ok (.iinc 3 1, 3) := by decide +kernel
theorem dX5_readNumbers_45 : decode cX5_readNumbers 45 = .ok (.aload_n 0, 1) := by decide +kernel
theorem dX5_readNumbers_46 : decode cX5_readNumbers 46 = .ok (.iload_n 3, 1) := by decide +kernel
theorem dX5_readNumbers_47 : decode cX5_readNumbers 47 = .ok (.invokevirtual 48, 3) := by decide +kernel
theorem dX5_readNumbers_50 : decode cX5_readNumbers 50 = .ok (.ifCond .eq 22, 3) := by decide +kernel
theorem dX5_readNumbers_53 : decode cX5_readNumbers 53 = .ok (.iload 5, 2) := by decide +kernel
theorem dX5_readNumbers_55 : decode cX5_readNumbers 55 = .ok (.bipush 10, 2) := by decide +kernel
theorem dX5_readNumbers_57 : decode cX5_readNumbers 57 = .ok (.imul, 1) := by decide +kernel
theorem dX5_readNumbers_58 : decode cX5_readNumbers 58 = .ok (.aload_n 0, 1) := by decide +kernel
theorem dX5_readNumbers_59 : decode cX5_readNumbers 59 = .ok (.iload_n 3, 1) := by decide +kernel
theorem dX5_readNumbers_60 : decode cX5_readNumbers 60 = .ok (.invokevirtual 32, 3) := by decide +kernel
theorem dX5_readNumbers_63 : decode cX5_readNumbers 63 = .ok (.iadd, 1) := by decide +kernel
theorem dX5_readNumbers_64 : decode cX5_readNumbers 64 = .ok (.bipush 48, 2) := by decide +kernel
theorem dX5_readNumbers_66 : decode cX5_readNumbers 66 = .ok (.isub, 1) := by decide +kernel
theorem dX5_readNumbers_67 : decode cX5_readNumbers 67 = .ok (.istore 5, 2) := by decide +kernel
theorem dX5_readNumbers_69 : decode cX5_readNumbers 69 = .ok (.iinc 3 1, 3) := by decide +kernel
theorem dX5_readNumbers_72 : decode cX5_readNumbers 72 = .ok (.aload_n 0, 1) := by decide +kernel
theorem dX5_readNumbers_73 : decode cX5_readNumbers 73 = .ok (.getfield 15, 3) := by decide +kernel
theorem dX5_readNumbers_76 : decode cX5_readNumbers 76 = .ok (.iload 4, 2) := by decide +kernel
theorem dX5_readNumbers_78 : decode cX5_readNumbers 78 = .ok (.iload 5, 2) := by decide +kernel
theorem dX5_readNumbers_80 : decode cX5_readNumbers 80 = .ok (.iastore, 1) := by decide +kernel
theorem dX5_readNumbers_81 : decode cX5_readNumbers 81 = .ok (.aload_n 0, 1) := by decide +kernel
theorem dX5_readNumbers_82 : decode cX5_readNumbers 82 = .ok (.iload_n 3, 1) := by decide +kernel
theorem dX5_readNumbers_83 : decode cX5_readNumbers 83 = .ok (.invokevirtual 32, 3) := by decide +kernel
theorem dX5_readNumbers_86 : decode cX5_readNumbers 86 = .ok (.iload 4, 2) := by decide +kernel
theorem dX5_readNumbers_88 : decode cX5_readNumbers 88 = .ok (.iload_n 2, 1) := by decide +kernel
theorem dX5_readNumbers_89 : decode cX5_readNumbers 89 = .ok (.iconst 1, 1) := by decide +kernel
theorem dX5_readNumbers_90 : decode cX5_readNumbers 90 = .ok (.isub, 1) := by decide +kernel
theorem dX5_readNumbers_91 : decode cX5_readNumbers 91 = .ok (.if_icmp .ne 8, 3) := by decide +kernel
theorem dX5_readNumbers_94 : decode cX5_readNumbers 94 = .ok (.bipush 59, 2) := by decide +kernel
theorem dX5_readNumbers_96 : decode cX5_readNumbers 96 = .ok (.goto 5, 3) := by decide +kernel
theorem dX5_readNumbers_99 : decode cX5_readNumbers 99 = .ok (.bipush 44, 2) := by decide +kernel
theorem dX5_readNumbers_101 : decode cX5_readNumbers 101 = .ok (.if_icmp .eq 6, 3) := by decide +kernel
theorem dX5_readNumbers_104 : decode cX5_readNumbers 104 = .ok (.bipush (-4), 2) := by decide +kernel
theorem dX5_readNumbers_106 : decode cX5_readNumbers 106 = .ok (.ireturn, 1) := by decide +kernel
theorem dX5_readNumbers_107 : decode cX5_readNumbers 107 = .ok (.iinc 3 1, 3) := by decide +kernel
theorem dX5_readNumbers_110 : decode cX5_readNumbers 110 = .ok (.iinc 4 1, 3) := by decide +kernel
theorem dX5_readNumbers_113 : decode cX5_readNumbers 113 = .ok (.goto (-108), 3) := by decide +kernel
theorem dX5_readNumbers_116 : decode cX5_readNumbers 116 = .ok (.iload_n 3, 1) := by decide +kernel
theorem dX5_readNumbers_117 : decode cX5_readNumbers 117 = .ok (.ireturn, 1) := by decide +kernel
theorem dX5_isFigure_0 : decode cX5_isFigure 0 = .ok (.aload_n 0, 1) := by decide +kernel
theorem dX5_isFigure_1 : decode cX5_isFigure 1 = .ok (.iload_n 1, 1) := by decide +kernel
theorem dX5_isFigure_2 : decode cX5_isFigure 2 = .ok (.invokevirtual 32, 3) := by decide +kernel
theorem dX5_isFigure_5 : decode cX5_isFigure 5 = .ok (.istore_n 2, 1) := by decide +kernel
theorem dX5_isFigure_6 : decode cX5_isFigure 6 = .ok (.iload_n 2, 1) := by decide +kernel
theorem dX5_isFigure_7 : decode cX5_isFigure 7 = .ok (.bipush 48, 2) := by decide +kernel
theorem dX5_isFigure_9 : decode cX5_isFigure 9 = .ok (.if_icmp .lt 13, 3) := by decide +kernel
theorem dX5_isFigure_12 : decode cX5_isFigure 12 = .ok (.iload_n 2, 1) := by decide +kernel
theorem dX5_isFigure_13 : decode cX5_isFigure 13 = .ok (.bipush 57, 2) := by decide +kernel
theorem dX5_isFigure_15 : decode cX5_isFigure 15 = .ok (.if_icmp .gt 7, 3) := by decide +kernel
theorem dX5_isFigure_18 : decode cX5_isFigure 18 = .ok (.iconst 1, 1) := by decide +kernel
theorem dX5_isFigure_19 : decode cX5_isFigure 19 = .ok (.goto 4, 3) := by decide +kernel
theorem dX5_isFigure_22 : decode cX5_isFigure 22 = .ok (.iconst 0, 1) := by decide +kernel
theorem dX5_isFigure_23 : decode cX5_isFigure 23 = .ok (.ireturn, 1) := by decide +kernel
theorem dX5_letterAt_0 : decode cX5_letterAt 0 = .ok (.iload_n 1, 1) := by decide +kernel
theorem dX5_letterAt_1 : decode cX5_letterAt 1 = .ok (.ifCond .lt 27, 3) := by decide +kernel
theorem dX5_letterAt_4 : decode cX5_letterAt 4 = .ok (.iload_n 1, 1) := by decide +kernel
theorem dX5_letterAt_5 : decode cX5_letterAt 5 = .ok (.aload_n 0, 1) := by decide +kernel
theorem dX5_letterAt_6 : decode cX5_letterAt 6 = .ok (.getfield 19, 3) := by decide +kernel
theorem dX5_letterAt_9 : decode cX5_letterAt 9 = .ok (.if_icmp .ge 19, 3) := by decide +kernel
theorem dX5_letterAt_12 : decode cX5_letterAt 12 = .ok (.iload_n 1, 1) := by decide +kernel
theorem dX5_letterAt_13 : decode cX5_letterAt 13 = .ok (.sipush 200, 3) := by decide +kernel
theorem dX5_letterAt_16 : decode cX5_letterAt 16 = .ok (.if_icmp .ge 12, 3) := by decide +kernel
theorem dX5_letterAt_19 : decode cX5_letterAt 19 = .ok (.aload_n 0, 1) := by decide +kernel
theorem dX5_letterAt_20 : decode cX5_letterAt 20 = .ok (.getfield 9, 3) := by decide +kernel
theorem dX5_letterAt_23 : decode cX5_letterAt 23 = .ok (.iload_n 1, 1) := by decide +kernel
theorem dX5_letterAt_24 : decode cX5_letterAt 24 = .ok (.caload, 1) := by decide +kernel
theorem dX5_letterAt_25 : decode cX5_letterAt 25 = .ok (.goto 4, 3) := by decide +kernel
theorem dX5_letterAt_28 : decode cX5_letterAt 28 = .ok (.iconst 0, 1) := by decide +kernel
theorem dX5_letterAt_29 : decode cX5_letterAt 29 = .ok (.ireturn, 1) := by decide +kernel
theorem dX6_init_0 : decode cX6_init 0 = .ok (.aload_n 0, 1) := by decide +kernel
theorem dX6_init_1 : decode cX6_init 1 = .ok (.invokespecial 1, 3) := by decide +kernel
theorem dX6_init_4 : decode cX6_init 4 = .ok (.aload_n 0, 1) := by decide +kernel
theorem dX6_init_5 : decode cX6_init 5 = .ok (.new 7, 3) := by decide +kernel
theorem dX6_init_8 : decode cX6_init 8 = .ok (.dup, 1) := by decide +kernel
theorem dX6_init_9 : decode cX6_init 9 = .ok (.invokespecial 9, 3) := by decide +kernel
theorem dX6_init_12 : decode cX6_init 12 = .ok (.putfield 10, 3) := by decide +kernel
theorem dX6_init_15 : decode cX6_init 15 = .ok (.aload_n 0, 1) := by decide +kernel
theorem dX6_init_16 : decode cX6_init 16 = .ok (.new 16, 3) := by decide +kernel
theorem dX6_init_19 : decode cX6_init 19 = .ok (.dup, 1) := by decide +kernel
theorem dX6_init_20 : decode cX6_init 20 = .ok (.invokespecial 18, 3) := by decide +kernel
theorem dX6_init_23 : decode cX6_init 23 = .ok (.putfield 19, 3) := by decide +kernel
theorem dX6_init_26 : decode cX6_init 26 = .ok (.aload_n 0, 1) := by decide +kernel
theorem dX6_init_27 : decode cX6_init 27 = .ok (.new 16, 3) := by decide +kernel
theorem dX6_init_30 : decode cX6_init 30 = .ok (.dup, 1) := by decide +kernel
theorem dX6_init_31 : decode cX6_init 31 = .ok (.invokespecial 18, 3) := by decide +kernel
theorem dX6_init_34 : decode cX6_init 34 = .ok (.putfield 23, 3) := by decide +kernel
theorem dX6_init_37 : decode cX6_init 37 = .ok (.aload_n 0, 1) := by decide +kernel
theorem dX6_init_38 : decode cX6_init 38 = .ok (.new 16, 3) := by decide +kernel
theorem dX6_init_41 : decode cX6_init 41 = .ok (.dup, 1) := by decide +kernel
theorem dX6_init_42 : decode cX6_init 42 = .ok (.invokespecial 18, 3) := by decide +kernel
theorem dX6_init_45 : decode cX6_init 45 = .ok (.putfield 26, 3) := by decide +kernel
theorem dX6_init_48 : decode cX6_init 48 = .ok (.aload_n 0, 1) := by decide +kernel
theorem dX6_init_49 : decode cX6_init 49 = .ok (.new 29, 3) := by decide +kernel
theorem dX6_init_52 : decode cX6_init 52 = .ok (.dup, 1) := by decide +kernel
theorem dX6_init_53 : decode cX6_init 53 = .ok (.aload_n 0, 1) := by decide +kernel
theorem dX6_init_54 : decode cX6_init 54 = .ok (.getfield 19, 3) := by decide +kernel
theorem dX6_init_57 : decode cX6_init 57 = .ok (.invokespecial 31, 3) := by decide +kernel
theorem dX6_init_60 : decode cX6_init 60 = .ok (.putfield 34, 3) := by decide +kernel
theorem dX6_init_63 : decode cX6_init 63 = .ok (.aload_n 0, 1) := by decide +kernel
theorem dX6_init_64 : decode cX6_init 64 = .ok (.new 29, 3) := by decide +kernel
theorem dX6_init_67 : decode cX6_init 67 = .ok (.dup, 1) := by decide +kernel
theorem dX6_init_68 : decode cX6_init 68 = .ok (.aload_n 0, 1) := by decide +kernel
theorem dX6_init_69 : decode cX6_init 69 = .ok (.getfield 19, 3) := by decide +kernel
theorem dX6_init_72 : decode cX6_init 72 = .ok (.invokespecial 31, 3) := by decide +kernel
theorem dX6_init_75 : decode cX6_init 75 = .ok (.putfield 38, 3) := by decide +kernel
theorem dX6_init_78 : decode cX6_init 78 = .ok (.aload_n 0, 1) := by decide +kernel
theorem dX6_init_79 : decode cX6_init 79 = .ok (.new 29, 3) := by decide +kernel
theorem dX6_init_82 : decode cX6_init 82 = .ok (.dup, 1) := by decide +kernel
theorem dX6_init_83 : decode cX6_init 83 = .ok (.aload_n 0, 1) := by decide +kernel
theorem dX6_init_84 : decode cX6_init 84 = .ok (.getfield 26, 3) := by decide +kernel
theorem dX6_init_87 : decode cX6_init 87 = .ok (.invokespecial 31, 3) := by decide +kernel
theorem dX6_init_90 : decode cX6_init 90 = .ok (.putfield 41, 3) := by decide +kernel
theorem dX6_init_93 : decode cX6_init 93 = .ok (.aload_n 0, 1) := by decide +kernel
theorem dX6_init_94 : decode cX6_init 94 = .ok (.new 44, 3) := by decide +kernel
theorem dX6_init_97 : decode cX6_init 97 = .ok (.dup, 1) := by decide +kernel
theorem dX6_init_98 : decode cX6_init 98 = .ok (.aload_n 0, 1) := by decide +kernel
theorem dX6_init_99 : decode cX6_init 99 = .ok (.getfield 19, 3) := by decide +kernel
theorem dX6_init_102 : decode cX6_init 102 = .ok (.bipush 8, 2) := by decide +kernel
theorem dX6_init_104 : decode cX6_init 104 = .ok (.invokespecial 46, 3) := by decide +kernel
theorem dX6_init_107 : decode cX6_init 107 = .ok (.putfield 49, 3) := by decide +kernel
theorem dX6_init_110 : decode cX6_init 110 = .ok (.aload_n 0, 1) := by decide +kernel
theorem dX6_init_111 : decode cX6_init 111 = .ok (.new 44, 3) := by decide +kernel
theorem dX6_init_114 : decode cX6_init 114 = .ok (.dup, 1) := by decide +kernel
theorem dX6_init_115 : decode cX6_init 115 = .ok (.aload_n 0, 1) := by decide +kernel
theorem dX6_init_116 : decode cX6_init 116 = .ok (.getfield 19, 3) := by decide +kernel
theorem dX6_init_119 : decode cX6_init 119 = .ok (.iconst 2, 1) := by decide +kernel
theorem dX6_init_120 : decode cX6_init 120 = .ok (.invokespecial 46, 3) := by decide +kernel
theorem dX6_init_123 : decode cX6_init 123 = .ok (.putfield 53, 3) := by decide +kernel
theorem dX6_init_126 : decode cX6_init 126 = .ok (.aload_n 0, 1) := by decide +kernel
theorem dX6_init_127 : decode cX6_init 127 = .ok (.new 56, 3) := by decide +kernel
theorem dX6_init_130 : decode cX6_init 130 = .ok (.dup, 1) := by decide +kernel
theorem dX6_init_131 : decode cX6_init 131 = .ok (.invokespecial 58, 3) := by decide +kernel
theorem dX6_init_134 : decode cX6_init 134 = .ok (.putfield 59, 3) := by decide +kernel
theorem dX6_init_137 : decode cX6_init 137 = .ok (.aload_n 0, 1) := by decide +kernel
theorem dX6_init_138 : decode cX6_init 138 = .ok (.new 63, 3) := by decide +kernel
theorem dX6_init_141 : decode cX6_init 141 = .ok (.dup, 1) := by decide +kernel
theorem dX6_init_142 : decode cX6_init 142 = .ok (.aload_n 0, 1) := by decide +kernel
theorem dX6_init_143 : decode cX6_init 143 = .ok (.getfield 19, 3) := by decide +kernel
theorem dX6_init_146 : decode cX6_init 146 = .ok (.invokespecial 65, 3) := by decide +kernel
theorem dX6_init_149 : decode cX6_init 149 = .ok (.putfield 66, 3) := by decide +kernel
theorem dX6_init_152 : decode cX6_init 152 = .ok (.iconst 0, 1) := by decide +kernel
theorem dX6_init_153 : decode cX6_init 153 = .ok (.istore_n 1, 1) := by decide +kernel
theorem dX6_init_154 : decode cX6_init 154 = .ok (.iload_n 1, 1) := by decide +kernel
theorem dX6_init_155 : decode cX6_init 155 = .ok (.ldc 70, 2) := by decide +kernel
theorem dX6_init_157 : decode cX6_init 157 = .ok (.invokevirtual 72, 3) := by decide +kernel
theorem dX6_init_160 : decode cX6_init 160 = .ok (.if_icmp .ge 23, 3) := by decide +kernel
theorem dX6_init_163 : decode cX6_init 163 = .ok (.aload_n 0, 1) := by decide +kernel
theorem dX6_init_164 : decode cX6_init 164 = .ok (.getfield 10, 3) := by decide +kernel
theorem dX6_init_167 : decode cX6_init 167 = .ok (.ldc 70, 2) := by decide +kernel
theorem dX6_init_169 : decode cX6_init 169 = .ok (.iload_n 1, 1) := by decide +kernel
theorem dX6_init_170 : decode cX6_init 170 = .ok (.invokevirtual 78, 3) := by decide +kernel
theorem dX6_init_173 : decode cX6_init 173 = .ok (.invokevirtual 82, 3) := by decide +kernel
theorem dX6_init_176 : decode cX6_init 176 = .ok (.pop, 1) := by decide +kernel
theorem dX6_init_177 : decode cX6_init 177 = .ok (.iinc 1 1, 3) := by decide +kernel
theorem dX6_init_180 : decode cX6_init 180 = .ok (.goto (-26), 3) := by decide +kernel
theorem dX6_init_183 : decode cX6_init 183 = .ok (.aload_n 0, 1) := by decide +kernel
theorem dX6_init_184 : decode cX6_init 184 = .ok (.getfield 10, 3) := by decide +kernel
theorem dX6_init_187 : decode cX6_init 187 = .ok (.aload_n 0, 1) := by decide +kernel
theorem dX6_init_188 : decode cX6_init 188 = .ok (.getfield 23, 3) := by decide +kernel
theorem dX6_init_191 : decode cX6_init 191 = .ok (.invokevirtual 86, 3) := by decide +kernel
theorem dX6_init_194 : decode cX6_init 194 = .ok (.pop, 1) := by decide +kernel
theorem dX6_init_195 : decode cX6_init 195 = .ok (.aload_n 0, 1) := by decide +kernel
theorem dX6_init_196 : decode cX6_init 196 = .ok (.invokevirtual 90, 3) := by decide +kernel
theorem dX6_init_199 : decode cX6_init 199 = .ok (.aload_n 0, 1) := by decide +kernel
theorem dX6_init_200 : decode cX6_init 200 = .ok (.getfield 10, 3) := by decide +kernel
theorem dX6_init_203 : decode cX6_init 203 = .ok (.invokevirtual 93, 3) := by decide +kernel
theorem dX6_init_206 : decode cX6_init 206 = .ok (.pop, 1) := by decide +kernel
theorem dX6_init_207 : decode cX6_init 207 = .ok (.return_, 1) := by decide +kernel
theorem dX6_write_0 : decode cX6_write 0 = .ok (.iload_n 1, 1) := by decide +kernel
theorem dX6_write_1 : decode cX6_write 1 = .ok (.bipush 32, 2) := by decide +kernel
theorem dX6_write_3 : decode cX6_write 3 = .ok (.if_icmp .lt 9, 3) := by decide +kernel
theorem dX6_write_6 : decode cX6_write 6 = .ok (.iload_n 1, 1) := by decide +kernel
theorem dX6_write_7 : decode cX6_write 7 = .ok (.bipush 126, 2) := by decide +kernel
theorem dX6_write_9 : decode cX6_write 9 = .ok (.if_icmp .le 5, 3) := by decide +kernel
theorem dX6_write_12 : decode cX6_write 12 = .ok (.iconst (-1), 1) := by decide +kernel
theorem dX6_write_13 : decode cX6_write 13 = .ok (.ireturn, 1) := by decide +kernel
theorem dX6_write_14 : decode cX6_write 14 = .ok (.aload_n 0, 1) := by decide +kernel
theorem dX6_write_15 : decode cX6_write 15 = .ok (.getfield 10, 3) := by decide +kernel
theorem dX6_write_18 : decode cX6_write 18 = .ok (.getfield 96, 3) := by decide +kernel
theorem dX6_write_21 : decode cX6_write 21 = .ok (.sipush 200, 3) := by decide +kernel
theorem dX6_write_24 : decode cX6_write 24 = .ok (.if_icmp .lt 6, 3) := by decide +kernel
theorem dX6_write_27 : decode cX6_write 27 = .ok (.bipush (-3), 2) := by decide +kernel
theorem dX6_write_29 : decode cX6_write 29 = .ok (.ireturn, 1) := by decide +kernel
theorem dX6_write_30 : decode cX6_write 30 = .ok (.aload_n 0, 1) := by decide +kernel
theorem dX6_write_31 : decode cX6_write 31 = .ok (.getfield 10, 3) := by decide +kernel
theorem dX6_write_34 : decode cX6_write 34 = .ok (.iload_n 1, 1) := by decide +kernel
theorem dX6_write_35 : decode cX6_write 35 = .ok (.invokevirtual 82, 3) := by decide +kernel
theorem dX6_write_38 : decode cX6_write 38 = .ok (.ireturn, 1) := by decide +kernel
theorem dX6_wipe_0 : decode cX6_wipe 0 = .ok (.aload_n 0, 1) := by decide +kernel
theorem dX6_wipe_1 : decode cX6_wipe 1 = .ok (.getfield 10, 3) := by decide +kernel
theorem dX6_wipe_4 : decode cX6_wipe 4 = .ok (.invokevirtual 93, 3) := by decide +kernel
theorem dX6_wipe_7 : decode cX6_wipe 7 = .ok (.ireturn, 1) := by decide +kernel
theorem dX6_fault_0 : decode cX6_fault 0 = .ok (.aload_n 0, 1) := by decide +kernel
theorem dX6_fault_1 : decode cX6_fault 1 = .ok (.getfield 10, 3) := by decide +kernel
theorem dX6_fault_4 : decode cX6_fault 4 = .ok (.aload_n 0, 1) := by decide +kernel
theorem dX6_fault_5 : decode cX6_fault 5 = .ok (.getfield 23, 3) := by decide +kernel
theorem dX6_fault_8 : decode cX6_fault 8 = .ok (.invokevirtual 86, 3) := by decide +kernel
theorem dX6_fault_11 : decode cX6_fault 11 = .ok (.ireturn, 1) := by decide +kernel
theorem dX6_lay_0 : decode cX6_lay 0 = .ok (.aload_n 0, 1) := by decide +kernel
theorem dX6_lay_1 : decode cX6_lay 1 = .ok (.getfield 10, 3) := by decide +kernel
theorem dX6_lay_4 : decode cX6_lay 4 = .ok (.aload_n 0, 1) := by decide +kernel
theorem dX6_lay_5 : decode cX6_lay 5 = .ok (.getfield 23, 3) := by decide +kernel
theorem dX6_lay_8 : decode cX6_lay 8 = .ok (.invokevirtual 86, 3) := by decide +kernel
theorem dX6_lay_11 : decode cX6_lay 11 = .ok (.bipush (-4), 2) := by decide +kernel
theorem dX6_lay_13 : decode cX6_lay 13 = .ok (.if_icmp .ne 13, 3) := by decide +kernel
theorem dX6_lay_16 : decode cX6_lay 16 = .ok (.aload_n 0, 1) := by decide +kernel
theorem dX6_lay_17 : decode cX6_lay 17 = .ok (.getfield 23, 3) := by decide +kernel
theorem dX6_lay_20 : decode cX6_lay 20 = .ok (.getfield 99, 3) := by decide +kernel
theorem dX6_lay_23 : decode cX6_lay 23 = .ok (.ifCond .ne 6, 3) := by decide +kernel
theorem dX6_lay_26 : decode cX6_lay 26 = .ok (.bipush (-2), 2) := by decide +kernel
theorem dX6_lay_28 : decode cX6_lay 28 = .ok (.ireturn, 1) := by decide +kernel
theorem dX6_lay_29 : decode cX6_lay 29 = .ok (.aload_n 0, 1) := by decide +kernel
theorem dX6_lay_30 : decode cX6_lay 30 = .ok (.invokevirtual 90, 3) := by decide +kernel
theorem dX6_lay_33 : decode cX6_lay 33 = .ok (.aload_n 0, 1) := by decide +kernel
theorem dX6_lay_34 : decode cX6_lay 34 = .ok (.getfield 19, 3) := by decide +kernel
theorem dX6_lay_37 : decode cX6_lay 37 = .ok (.getfield 99, 3) := by decide +kernel
theorem dX6_lay_40 : decode cX6_lay 40 = .ok (.ireturn, 1) := by decide +kernel
theorem dX6_person_0 : decode cX6_person 0 = .ok (.aload_n 0, 1) := by decide +kernel
theorem dX6_person_1 : decode cX6_person 1 = .ok (.iload_n 1, 1) := by decide +kernel
theorem dX6_person_2 : decode cX6_person 2 = .ok (.invokevirtual 102, 3) := by decide +kernel
theorem dX6_person_5 : decode cX6_person 5 = .ok (.ifCond .eq 13, 3) := by decide +kernel
theorem dX6_person_8 : decode cX6_person 8 = .ok (.iload_n 2, 1) := by decide +kernel
theorem dX6_person_9 : decode cX6_person 9 = .ok (.ifCond .lt 9, 3) := by decide +kernel
theorem dX6_person_12 : decode cX6_person 12 = .ok (.iload_n 2, 1) := by decide +kernel
theorem dX6_person_13 : decode cX6_person 13 = .ok (.bipush 10, 2) := by decide +kernel
theorem dX6_person_15 : decode cX6_person 15 = .ok (.if_icmp .le 5, 3) := by decide +kernel
theorem dX6_person_18 : decode cX6_person 18 = .ok (.iconst (-1), 1) := by decide +kernel
theorem dX6_person_19 : decode cX6_person 19 = .ok (.ireturn, 1) := by decide +kernel
theorem dX6_person_20 : decode cX6_person 20 = .ok (.iload_n 2, 1) := by decide +kernel
theorem dX6_person_21 : decode cX6_person 21 = .ok (.iconst 4, 1) := by decide +kernel
theorem dX6_person_22 : decode cX6_person 22 = .ok (.if_icmp .ge 15, 3) := by decide +kernel
theorem dX6_person_25 : decode cX6_person 25 = .ok (.aload_n 0, 1) := by decide +kernel
theorem dX6_person_26 : decode cX6_person 26 = .ok (.getfield 19, 3) := by decide +kernel
theorem dX6_person_29 : decode cX6_person 29 = .ok (.iload_n 1, 1) := by decide +kernel
theorem dX6_person_30 : decode cX6_person 30 = .ok (.iload_n 2, 1) := by decide +kernel
theorem dX6_person_31 : decode cX6_person 31 = .ok (.invokevirtual 106, 3) := by decide +kernel
theorem dX6_person_34 : decode cX6_person 34 = .ok (.goto 12, 3) := by decide +kernel
theorem dX6_person_37 : decode cX6_person 37 = .ok (.aload_n 0, 1) := by decide +kernel
theorem dX6_person_38 : decode cX6_person 38 = .ok (.getfield 34, 3) := by decide +kernel
theorem dX6_person_41 : decode cX6_person 41 = .ok (.iload_n 1, 1) := by decide +kernel
theorem dX6_person_42 : decode cX6_person 42 = .ok (.iload_n 2, 1) := by decide +kernel
theorem dX6_person_43 : decode cX6_person 43 = .ok (.invokevirtual 110, 3) := by decide +kernel
theorem dX6_person_46 : decode cX6_person 46 = .ok (.ireturn, 1) := by decide +kernel
theorem dX6_send_0 : decode cX6_send 0 = .ok (.aload_n 0, 1) := by decide +kernel
theorem dX6_send_1 : decode cX6_send 1 = .ok (.iload_n 1, 1) := by decide +kernel
theorem dX6_send_2 : decode cX6_send 2 = .ok (.invokevirtual 102, 3) := by decide +kernel
theorem dX6_send_5 : decode cX6_send 5 = .ok (.ifCond .ne 5, 3) := by decide +kernel
theorem dX6_send_8 : decode cX6_send 8 = .ok (.iconst (-1), 1) := by decide +kernel
theorem dX6_send_9 : decode cX6_send 9 = .ok (.ireturn, 1) := by decide +kernel
theorem dX6_send_10 : decode cX6_send 10 = .ok (.aload_n 0, 1) := by decide +kernel
theorem dX6_send_11 : decode cX6_send 11 = .ok (.getfield 34, 3) := by decide +kernel
theorem dX6_send_14 : decode cX6_send 14 = .ok (.iload_n 1, 1) := by decide +kernel
theorem dX6_send_15 : decode cX6_send 15 = .ok (.invokevirtual 113, 3) := by decide +kernel
theorem dX6_send_18 : decode cX6_send 18 = .ok (.ifCond .ne 6, 3) := by decide +kernel
theorem dX6_send_21 : decode cX6_send 21 = .ok (.bipush (-2), 2) := by decide +kernel
theorem dX6_send_23 : decode cX6_send 23 = .ok (.ireturn, 1) := by decide +kernel
theorem dX6_send_24 : decode cX6_send 24 = .ok (.aload_n 0, 1) := by decide +kernel
theorem dX6_send_25 : decode cX6_send 25 = .ok (.getfield 49, 3) := by decide +kernel
theorem dX6_send_28 : decode cX6_send 28 = .ok (.aload_n 0, 1) := by decide +kernel
theorem dX6_send_29 : decode cX6_send 29 = .ok (.getfield 34, 3) := by decide +kernel
theorem dX6_send_32 : decode cX6_send 32 = .ok (.invokevirtual 116, 3) := by decide +kernel
theorem dX6_send_35 : decode cX6_send 35 = .ok (.aload_n 0, 1) := by decide +kernel
theorem dX6_send_36 : decode cX6_send 36 = .ok (.getfield 34, 3) := by decide +kernel
theorem dX6_send_39 : decode cX6_send 39 = .ok (.iload_n 1, 1) := by decide +kernel
theorem dX6_send_40 : decode cX6_send 40 = .ok (.invokevirtual 120, 3) := by decide +kernel
theorem dX6_send_43 : decode cX6_send 43 = .ok (.aload_n 0, 1) := by decide +kernel
theorem dX6_send_44 : decode cX6_send 44 = .ok (.getfield 34, 3) := by decide +kernel
theorem dX6_send_47 : decode cX6_send 47 = .ok (.getfield 124, 3) := by decide +kernel
theorem dX6_send_50 : decode cX6_send 50 = .ok (.iload_n 1, 1) := by decide +kernel
theorem dX6_send_51 : decode cX6_send 51 = .ok (.iaload, 1) := by decide +kernel
theorem dX6_send_52 : decode cX6_send 52 = .ok (.ireturn, 1) := by decide +kernel
theorem dX6_call_0 : decode cX6_call 0 = .ok (.aload_n 0, 1) := by decide +kernel
theorem dX6_call_1 : decode cX6_call 1 = .ok (.iload_n 1, 1) := by decide +kernel
theorem dX6_call_2 : decode cX6_call 2 = .ok (.invokevirtual 102, 3) := by decide +kernel
theorem dX6_call_5 : decode cX6_call 5 = .ok (.ifCond .ne 5, 3) := by decide +kernel
theorem dX6_call_8 : decode cX6_call 8 = .ok (.iconst (-1), 1) := by decide +kernel
theorem dX6_call_9 : decode cX6_call 9 = .ok (.ireturn, 1) := by decide +kernel
theorem dX6_call_10 : decode cX6_call 10 = .ok (.aload_n 0, 1) := by decide +kernel
theorem dX6_call_11 : decode cX6_call 11 = .ok (.getfield 34, 3) := by decide +kernel
theorem dX6_call_14 : decode cX6_call 14 = .ok (.getfield 128, 3) := by decide +kernel
theorem dX6_call_17 : decode cX6_call 17 = .ok (.iload_n 1, 1) := by decide +kernel
theorem dX6_call_18 : decode cX6_call 18 = .ok (.iaload, 1) := by decide +kernel
theorem dX6_call_19 : decode cX6_call 19 = .ok (.ifCond .ne 6, 3) := by decide +kernel
theorem dX6_call_22 : decode cX6_call 22 = .ok (.bipush (-2), 2) := by decide +kernel
theorem dX6_call_24 : decode cX6_call 24 = .ok (.ireturn, 1) := by decide +kernel
theorem dX6_call_25 : decode cX6_call 25 = .ok (.aload_n 0, 1) := by decide +kernel
theorem dX6_call_26 : decode cX6_call 26 = .ok (.getfield 49, 3) := by decide +kernel
theorem dX6_call_29 : decode cX6_call 29 = .ok (.aload_n 0, 1) := by decide +kernel
theorem dX6_call_30 : decode cX6_call 30 = .ok (.getfield 34, 3) := by decide +kernel
theorem dX6_call_33 : decode cX6_call 33 = .ok (.invokevirtual 116, 3) := by decide +kernel
theorem dX6_call_36 : decode cX6_call 36 = .ok (.aload_n 0, 1) := by decide +kernel
theorem dX6_call_37 : decode cX6_call 37 = .ok (.getfield 34, 3) := by decide +kernel
theorem dX6_call_40 : decode cX6_call 40 = .ok (.iload_n 1, 1) := by decide +kernel
theorem dX6_call_41 : decode cX6_call 41 = .ok (.invokevirtual 131, 3) := by decide +kernel
theorem dX6_call_44 : decode cX6_call 44 = .ok (.aload_n 0, 1) := by decide +kernel
theorem dX6_call_45 : decode cX6_call 45 = .ok (.getfield 34, 3) := by decide +kernel
theorem dX6_call_48 : decode cX6_call 48 = .ok (.getfield 134, 3) := by decide +kernel
theorem dX6_call_51 : decode cX6_call 51 = .ok (.ireturn, 1) := by decide +kernel
theorem dX6_buy_0 : decode cX6_buy 0 = .ok (.aload_n 0, 1) := by decide +kernel
theorem dX6_buy_1 : decode cX6_buy 1 = .ok (.getfield 34, 3) := by decide +kernel
theorem dX6_buy_4 : decode cX6_buy 4 = .ok (.getfield 134, 3) := by decide +kernel
theorem dX6_buy_7 : decode cX6_buy 7 = .ok (.bipush 20, 2) := by decide +kernel
theorem dX6_buy_9 : decode cX6_buy 9 = .ok (.if_icmp .lt 6, 3) := by decide +kernel
theorem dX6_buy_12 : decode cX6_buy 12 = .ok (.bipush (-3), 2) := by decide +kernel
theorem dX6_buy_14 : decode cX6_buy 14 = .ok (.ireturn, 1) := by decide +kernel
theorem dX6_buy_15 : decode cX6_buy 15 = .ok (.aload_n 0, 1) := by decide +kernel
theorem dX6_buy_16 : decode cX6_buy 16 = .ok (.getfield 49, 3) := by decide +kernel
theorem dX6_buy_19 : decode cX6_buy 19 = .ok (.aload_n 0, 1) := by decide +kernel
theorem dX6_buy_20 : decode cX6_buy 20 = .ok (.getfield 34, 3) := by decide +kernel
theorem dX6_buy_23 : decode cX6_buy 23 = .ok (.invokevirtual 116, 3) := by decide +kernel
theorem dX6_buy_26 : decode cX6_buy 26 = .ok (.aload_n 0, 1) := by decide +kernel
theorem dX6_buy_27 : decode cX6_buy 27 = .ok (.getfield 34, 3) := by decide +kernel
theorem dX6_buy_30 : decode cX6_buy 30 = .ok (.dup, 1) := by decide +kernel
theorem dX6_buy_31 : decode cX6_buy 31 = .ok (.getfield 134, 3) := by decide +kernel
theorem dX6_buy_34 : decode cX6_buy 34 = .ok (.iconst 1, 1) := by decide +kernel
theorem dX6_buy_35 : decode cX6_buy 35 = .ok (.iadd, 1) := by decide +kernel
theorem dX6_buy_36 : decode cX6_buy 36 = .ok (.putfield 134, 3) := by decide +kernel
theorem dX6_buy_39 : decode cX6_buy 39 = .ok (.aload_n 0, 1) := by decide +kernel
theorem dX6_buy_40 : decode cX6_buy 40 = .ok (.getfield 34, 3) := by decide +kernel
theorem dX6_buy_43 : decode cX6_buy 43 = .ok (.getfield 134, 3) := by decide +kernel
theorem dX6_buy_46 : decode cX6_buy 46 = .ok (.ireturn, 1) := by decide +kernel
theorem dX6_pass_0 : decode cX6_pass 0 = .ok (.iload_n 1, 1) := by decide +kernel
theorem dX6_pass_1 : decode cX6_pass 1 = .ok (.iconst 1, 1) := by decide +kernel
theorem dX6_pass_2 : decode cX6_pass 2 = .ok (.if_icmp .lt 9, 3) := by decide +kernel
theorem dX6_pass_5 : decode cX6_pass 5 = .ok (.iload_n 1, 1) := by decide +kernel
theorem dX6_pass_6 : decode cX6_pass 6 = .ok (.bipush 20, 2) := by decide +kernel
theorem dX6_pass_8 : decode cX6_pass 8 = .ok (.if_icmp .le 5, 3) := by decide +kernel
theorem dX6_pass_11 : decode cX6_pass 11 = .ok (.iconst (-1), 1) := by decide +kernel
theorem dX6_pass_12 : decode cX6_pass 12 = .ok (.ireturn, 1) := by decide +kernel
theorem dX6_pass_13 : decode cX6_pass 13 = .ok (.aload_n 0, 1) := by decide +kernel
theorem dX6_pass_14 : decode cX6_pass 14 = .ok (.getfield 34, 3) := by decide +kernel
theorem dX6_pass_17 : decode cX6_pass 17 = .ok (.getfield 137, 3) := by decide +kernel
theorem dX6_pass_20 : decode cX6_pass 20 = .ok (.iload_n 1, 1) := by decide +kernel
theorem dX6_pass_21 : decode cX6_pass 21 = .ok (.iadd, 1) := by decide +kernel
theorem dX6_pass_22 : decode cX6_pass 22 = .ok (.sipush 999, 3) := by decide +kernel
theorem dX6_pass_25 : decode cX6_pass 25 = .ok (.if_icmp .le 6, 3) := by decide +kernel
theorem dX6_pass_28 : decode cX6_pass 28 = .ok (.bipush (-2), 2) := by decide +kernel
theorem dX6_pass_30 : decode cX6_pass 30 = .ok (.ireturn, 1) := by decide +kernel
theorem dX6_pass_31 : decode cX6_pass 31 = .ok (.aload_n 0, 1) := by decide +kernel
theorem dX6_pass_32 : decode cX6_pass 32 = .ok (.getfield 49, 3) := by decide +kernel
theorem dX6_pass_35 : decode cX6_pass 35 = .ok (.aload_n 0, 1) := by decide +kernel
theorem dX6_pass_36 : decode cX6_pass 36 = .ok (.getfield 34, 3) := by decide +kernel
theorem dX6_pass_39 : decode cX6_pass 39 = .ok (.invokevirtual 116, 3) := by decide +kernel
theorem dX6_pass_42 : decode cX6_pass 42 = .ok (.aload_n 0, 1) := by decide +kernel
theorem dX6_pass_43 : decode cX6_pass 43 = .ok (.getfield 34, 3) := by decide +kernel
theorem dX6_pass_46 : decode cX6_pass 46 = .ok (.invokevirtual 140, 3) := by decide +kernel
theorem dX6_pass_49 : decode cX6_pass 49 = .ok (.invokestatic 143, 3) := by decide +kernel
theorem dX6_pass_52 : decode cX6_pass 52 = .ok (.istore_n 2, 1) := by decide +kernel
theorem dX6_pass_53 : decode cX6_pass 53 = .ok (.aload_n 0, 1) := by decide +kernel
theorem dX6_pass_54 : decode cX6_pass 54 = .ok (.getfield 34, 3) := by decide +kernel
theorem dX6_pass_57 : decode cX6_pass 57 = .ok (.iload_n 1, 1) := by decide +kernel
theorem dX6_pass_58 : decode cX6_pass 58 = .ok (.invokevirtual 148, 3) := by decide +kernel
theorem dX6_pass_61 : decode cX6_pass 61 = .ok (.aload_n 0, 1) := by decide +kernel
theorem dX6_pass_62 : decode cX6_pass 62 = .ok (.getfield 34, 3) := by decide +kernel
theorem dX6_pass_65 : decode cX6_pass 65 = .ok (.invokevirtual 140, 3) := by decide +kernel
theorem dX6_pass_68 : decode cX6_pass 68 = .ok (.invokestatic 143, 3) := by decide +kernel
theorem dX6_pass_71 : decode cX6_pass 71 = .ok (.iload_n 2, 1) := by decide +kernel
theorem dX6_pass_72 : decode cX6_pass 72 = .ok (.isub, 1) := by decide +kernel
theorem dX6_pass_73 : decode cX6_pass 73 = .ok (.ireturn, 1) := by decide +kernel
theorem dX6_undo_0 : decode cX6_undo 0 = .ok (.aload_n 0, 1) := by decide +kernel
theorem dX6_undo_1 : decode cX6_undo 1 = .ok (.getfield 49, 3) := by decide +kernel
theorem dX6_undo_4 : decode cX6_undo 4 = .ok (.aload_n 0, 1) := by decide +kernel
theorem dX6_undo_5 : decode cX6_undo 5 = .ok (.getfield 34, 3) := by decide +kernel
theorem dX6_undo_8 : decode cX6_undo 8 = .ok (.invokevirtual 151, 3) := by decide +kernel
theorem dX6_undo_11 : decode cX6_undo 11 = .ok (.ifCond .ne 6, 3) := by decide +kernel
theorem dX6_undo_14 : decode cX6_undo 14 = .ok (.bipush (-2), 2) := by decide +kernel
theorem dX6_undo_16 : decode cX6_undo 16 = .ok (.ireturn, 1) := by decide +kernel
theorem dX6_undo_17 : decode cX6_undo 17 = .ok (.aload_n 0, 1) := by decide +kernel
theorem dX6_undo_18 : decode cX6_undo 18 = .ok (.getfield 49, 3) := by decide +kernel
theorem dX6_undo_21 : decode cX6_undo 21 = .ok (.getfield 155, 3) := by decide +kernel
theorem dX6_undo_24 : decode cX6_undo 24 = .ok (.ireturn, 1) := by decide +kernel
theorem dX6_behind_0 : decode cX6_behind 0 = .ok (.iload_n 1, 1) := by decide +kernel
theorem dX6_behind_1 : decode cX6_behind 1 = .ok (.ifCond .lt 18, 3) := by decide +kernel
theorem dX6_behind_4 : decode cX6_behind 4 = .ok (.iload_n 1, 1) := by decide +kernel
theorem dX6_behind_5 : decode cX6_behind 5 = .ok (.bipush 60, 2) := by decide +kernel
theorem dX6_behind_7 : decode cX6_behind 7 = .ok (.if_icmp .gt 12, 3) := by decide +kernel
theorem dX6_behind_10 : decode cX6_behind 10 = .ok (.iload_n 2, 1) := by decide +kernel
theorem dX6_behind_11 : decode cX6_behind 11 = .ok (.ifCond .lt 8, 3) := by decide +kernel
theorem dX6_behind_14 : decode cX6_behind 14 = .ok (.iload_n 2, 1) := by decide +kernel
theorem dX6_behind_15 : decode cX6_behind 15 = .ok (.iconst 2, 1) := by decide +kernel
theorem dX6_behind_16 : decode cX6_behind 16 = .ok (.if_icmp .le 5, 3) := by decide +kernel
theorem dX6_behind_19 : decode cX6_behind 19 = .ok (.iconst (-1), 1) := by decide +kernel
theorem dX6_behind_20 : decode cX6_behind 20 = .ok (.ireturn, 1) := by decide +kernel
theorem dX6_behind_21 : decode cX6_behind 21 = .ok (.aload_n 0, 1) := by decide +kernel
theorem dX6_behind_22 : decode cX6_behind 22 = .ok (.getfield 38, 3) := by decide +kernel
theorem dX6_behind_25 : decode cX6_behind 25 = .ok (.aload_n 0, 1) := by decide +kernel
theorem dX6_behind_26 : decode cX6_behind 26 = .ok (.getfield 34, 3) := by decide +kernel
theorem dX6_behind_29 : decode cX6_behind 29 = .ok (.invokevirtual 156, 3) := by decide +kernel
theorem dX6_behind_32 : decode cX6_behind 32 = .ok (.aload_n 0, 1) := by decide +kernel
theorem dX6_behind_33 : decode cX6_behind 33 = .ok (.getfield 38, 3) := by decide +kernel
theorem dX6_behind_36 : decode cX6_behind 36 = .ok (.iload_n 1, 1) := by decide +kernel
theorem dX6_behind_37 : decode cX6_behind 37 = .ok (.invokevirtual 148, 3) := by decide +kernel
theorem dX6_behind_40 : decode cX6_behind 40 = .ok (.iload_n 2, 1) := by decide +kernel
theorem dX6_behind_41 : decode cX6_behind 41 = .ok (.ifCond .ne 11, 3) := by decide +kernel
theorem dX6_behind_44 : decode cX6_behind 44 = .ok (.aload_n 0, 1) := by decide +kernel
theorem dX6_behind_45 : decode cX6_behind 45 = .ok (.getfield 38, 3) := by decide +kernel
theorem dX6_behind_48 : decode cX6_behind 48 = .ok (.invokevirtual 159, 3) := by decide +kernel
theorem dX6_behind_51 : decode cX6_behind 51 = .ok (.ireturn, 1) := by decide +kernel
theorem dX6_behind_52 : decode cX6_behind 52 = .ok (.iload_n 2, 1) := by decide +kernel
theorem dX6_behind_53 : decode cX6_behind 53 = .ok (.iconst 1, 1) := by decide +kernel
theorem dX6_behind_54 : decode cX6_behind 54 = .ok (.if_icmp .ne 13, 3) := by decide +kernel
theorem dX6_behind_57 : decode cX6_behind 57 = .ok (.aload_n 0, 1) := by decide +kernel
theorem dX6_behind_58 : decode cX6_behind 58 = .ok (.getfield 38, 3) := by decide +kernel
theorem dX6_behind_61 : decode cX6_behind 61 = .ok (.invokevirtual 140, 3) := by decide +kernel
theorem dX6_behind_64 : decode cX6_behind 64 = .ok (.goto 10, 3) := by decide +kernel
theorem dX6_behind_67 : decode cX6_behind 67 = .ok (.aload_n 0, 1) := by decide +kernel
theorem dX6_behind_68 : decode cX6_behind 68 = .ok (.getfield 38, 3) := by decide +kernel
theorem dX6_behind_71 : decode cX6_behind 71 = .ok (.getfield 162, 3) := by decide +kernel
theorem dX6_behind_74 : decode cX6_behind 74 = .ok (.ireturn, 1) := by decide +kernel
theorem dX6_when_0 : decode cX6_when 0 = .ok (.aload_n 0, 1) := by decide +kernel
theorem dX6_when_1 : decode cX6_when 1 = .ok (.iload_n 1, 1) := by decide +kernel
theorem dX6_when_2 : decode cX6_when 2 = .ok (.invokevirtual 102, 3) := by decide +kernel
theorem dX6_when_5 : decode cX6_when 5 = .ok (.ifCond .ne 5, 3) := by decide +kernel
theorem dX6_when_8 : decode cX6_when 8 = .ok (.iconst (-1), 1) := by decide +kernel
theorem dX6_when_9 : decode cX6_when 9 = .ok (.ireturn, 1) := by decide +kernel
theorem dX6_when_10 : decode cX6_when 10 = .ok (.aload_n 0, 1) := by decide +kernel
theorem dX6_when_11 : decode cX6_when 11 = .ok (.getfield 38, 3) := by decide +kernel
theorem dX6_when_14 : decode cX6_when 14 = .ok (.aload_n 0, 1) := by decide +kernel
theorem dX6_when_15 : decode cX6_when 15 = .ok (.getfield 34, 3) := by decide +kernel
theorem dX6_when_18 : decode cX6_when 18 = .ok (.invokevirtual 156, 3) := by decide +kernel
theorem dX6_when_21 : decode cX6_when 21 = .ok (.iconst 0, 1) := by decide +kernel
theorem dX6_when_22 : decode cX6_when 22 = .ok (.istore_n 2, 1) := by decide +kernel
theorem dX6_when_23 : decode cX6_when 23 = .ok (.iload_n 2, 1) := by decide +kernel
theorem dX6_when_24 : decode cX6_when 24 = .ok (.bipush 60, 2) := by decide +kernel
theorem dX6_when_26 : decode cX6_when 26 = .ok (.if_icmp .gt 30, 3) := by decide +kernel
theorem dX6_when_29 : decode cX6_when 29 = .ok (.aload_n 0, 1) := by decide +kernel
theorem dX6_when_30 : decode cX6_when 30 = .ok (.getfield 38, 3) := by decide +kernel
theorem dX6_when_33 : decode cX6_when 33 = .ok (.iload_n 1, 1) := by decide +kernel
theorem dX6_when_34 : decode cX6_when 34 = .ok (.invokevirtual 165, 3) := by decide +kernel
theorem dX6_when_37 : decode cX6_when 37 = .ok (.ifCond .eq 5, 3) := by decide +kernel
theorem dX6_when_40 : decode cX6_when 40 = .ok (.iload_n 2, 1) := by decide +kernel
theorem dX6_when_41 : decode cX6_when 41 = .ok (.ireturn, 1) := by decide +kernel
theorem dX6_when_42 : decode cX6_when 42 = .ok (.aload_n 0, 1) := by decide +kernel
theorem dX6_when_43 : decode cX6_when 43 = .ok (.getfield 38, 3) := by decide +kernel
theorem dX6_when_46 : decode cX6_when 46 = .ok (.iconst 0, 1) := by decide +kernel
theorem dX6_when_47 : decode cX6_when 47 = .ok (.invokevirtual 168, 3) := by decide +kernel
theorem dX6_when_50 : decode cX6_when 50 = .ok (.iinc 2 1, 3) := by decide +kernel
theorem dX6_when_53 : decode cX6_when 53 = .ok (.goto (-30), 3) := by decide +kernel
theorem dX6_when_56 : decode cX6_when 56 = .ok (.bipush (-4), 2) := by decide +kernel
theorem dX6_when_58 : decode cX6_when 58 = .ok (.ireturn, 1) := by decide +kernel
theorem dX6_gentle_0 : decode cX6_gentle 0 = .ok (.aload_n 0, 1) := by decide +kernel
theorem dX6_gentle_1 : decode cX6_gentle 1 = .ok (.getfield 34, 3) := by decide +kernel
theorem dX6_gentle_4 : decode cX6_gentle 4 = .ok (.iconst 0, 1) := by decide +kernel
theorem dX6_gentle_5 : decode cX6_gentle 5 = .ok (.invokevirtual 172, 3) := by decide +kernel
theorem dX6_gentle_8 : decode cX6_gentle 8 = .ok (.ireturn, 1) := by decide +kernel
theorem dX6_latest_0 : decode cX6_latest 0 = .ok (.aload_n 0, 1) := by decide +kernel
theorem dX6_latest_1 : decode cX6_latest 1 = .ok (.iload_n 1, 1) := by decide +kernel
theorem dX6_latest_2 : decode cX6_latest 2 = .ok (.invokevirtual 102, 3) := by decide +kernel
theorem dX6_latest_5 : decode cX6_latest 5 = .ok (.ifCond .ne 5, 3) := by decide +kernel
theorem dX6_latest_8 : decode cX6_latest 8 = .ok (.iconst (-1), 1) := by decide +kernel
theorem dX6_latest_9 : decode cX6_latest 9 = .ok (.ireturn, 1) := by decide +kernel
theorem dX6_latest_10 : decode cX6_latest 10 = .ok (.aload_n 0, 1) := by decide +kernel
theorem dX6_latest_11 : decode cX6_latest 11 = .ok (.getfield 34, 3) := by decide +kernel
theorem dX6_latest_14 : decode cX6_latest 14 = .ok (.iload_n 1, 1) := by decide +kernel
theorem dX6_latest_15 : decode cX6_latest 15 = .ok (.invokevirtual 175, 3) := by decide +kernel
theorem dX6_latest_18 : decode cX6_latest 18 = .ok (.ifCond .ne 6, 3) := by decide +kernel
theorem dX6_latest_21 : decode cX6_latest 21 = .ok (.bipush (-2), 2) := by decide +kernel
theorem dX6_latest_23 : decode cX6_latest 23 = .ok (.ireturn, 1) := by decide +kernel
theorem dX6_latest_24 : decode cX6_latest 24 = .ok (.aload_n 0, 1) := by decide +kernel
theorem dX6_latest_25 : decode cX6_latest 25 = .ok (.getfield 34, 3) := by decide +kernel
theorem dX6_latest_28 : decode cX6_latest 28 = .ok (.iload_n 1, 1) := by decide +kernel
theorem dX6_latest_29 : decode cX6_latest 29 = .ok (.invokevirtual 178, 3) := by decide +kernel
theorem dX6_latest_32 : decode cX6_latest 32 = .ok (.istore_n 2, 1) := by decide +kernel
theorem dX6_latest_33 : decode cX6_latest 33 = .ok (.iload_n 2, 1) := by decide +kernel
theorem dX6_latest_34 : decode cX6_latest 34 = .ok (.ifCond .ge 8, 3) := by decide +kernel
theorem dX6_latest_37 : decode cX6_latest 37 = .ok (.bipush (-4), 2) := by decide +kernel
theorem dX6_latest_39 : decode cX6_latest 39 = .ok (.goto 4, 3) := by decide +kernel
theorem dX6_latest_42 : decode cX6_latest 42 = .ok (.iload_n 2, 1) := by decide +kernel
theorem dX6_latest_43 : decode cX6_latest 43 = .ok (.ireturn, 1) := by decide +kernel
theorem dX6_order_0 : decode cX6_order 0 = .ok (.iload_n 1, 1) := by decide +kernel
theorem dX6_order_1 : decode cX6_order 1 = .ok (.iconst (-1), 1) := by decide +kernel
theorem dX6_order_2 : decode cX6_order 2 = .ok (.if_icmp .lt 9, 3) := by decide +kernel
theorem dX6_order_5 : decode cX6_order 5 = .ok (.iload_n 1, 1) := by decide +kernel
theorem dX6_order_6 : decode cX6_order 6 = .ok (.bipush 6, 2) := by decide +kernel
theorem dX6_order_8 : decode cX6_order 8 = .ok (.if_icmp .lt 5, 3) := by decide +kernel
theorem dX6_order_11 : decode cX6_order 11 = .ok (.iconst (-1), 1) := by decide +kernel
theorem dX6_order_12 : decode cX6_order 12 = .ok (.ireturn, 1) := by decide +kernel
theorem dX6_order_13 : decode cX6_order 13 = .ok (.aload_n 0, 1) := by decide +kernel
theorem dX6_order_14 : decode cX6_order 14 = .ok (.getfield 66, 3) := by decide +kernel
theorem dX6_order_17 : decode cX6_order 17 = .ok (.aload_n 0, 1) := by decide +kernel
theorem dX6_order_18 : decode cX6_order 18 = .ok (.getfield 34, 3) := by decide +kernel
theorem dX6_order_21 : decode cX6_order 21 = .ok (.aload_n 0, 1) := by decide +kernel
theorem dX6_order_22 : decode cX6_order 22 = .ok (.getfield 34, 3) := by decide +kernel
theorem dX6_order_25 : decode cX6_order 25 = .ok (.getfield 134, 3) := by decide +kernel
theorem dX6_order_28 : decode cX6_order 28 = .ok (.invokevirtual 181, 3) := by decide +kernel
theorem dX6_order_31 : decode cX6_order 31 = .ok (.istore_n 2, 1) := by decide +kernel
theorem dX6_order_32 : decode cX6_order 32 = .ok (.iload_n 1, 1) := by decide +kernel
theorem dX6_order_33 : decode cX6_order 33 = .ok (.iconst (-1), 1) := by decide +kernel
theorem dX6_order_34 : decode cX6_order 34 = .ok (.if_icmp .ne 5, 3) := by decide +kernel
theorem dX6_order_37 : decode cX6_order 37 = .ok (.iload_n 2, 1) := by decide +kernel
theorem dX6_order_38 : decode cX6_order 38 = .ok (.ireturn, 1) := by decide +kernel
theorem dX6_order_39 : decode cX6_order 39 = .ok (.iload_n 1, 1) := by decide +kernel
theorem dX6_order_40 : decode cX6_order 40 = .ok (.aload_n 0, 1) := by decide +kernel
theorem dX6_order_41 : decode cX6_order 41 = .ok (.getfield 66, 3) := by decide +kernel
theorem dX6_order_44 : decode cX6_order 44 = .ok (.getfield 185, 3) := by decide +kernel
theorem dX6_order_47 : decode cX6_order 47 = .ok (.if_icmp .ge 15, 3) := by decide +kernel
theorem dX6_order_50 : decode cX6_order 50 = .ok (.aload_n 0, 1) := by decide +kernel
theorem dX6_order_51 : decode cX6_order 51 = .ok (.getfield 66, 3) := by decide +kernel
theorem dX6_order_54 : decode cX6_order 54 = .ok (.getfield 186, 3) := by decide +kernel
theorem dX6_order_57 : decode cX6_order 57 = .ok (.iload_n 1, 1) := by decide +kernel
theorem dX6_order_58 : decode cX6_order 58 = .ok (.iaload, 1) := by decide +kernel
theorem dX6_order_59 : decode cX6_order 59 = .ok (.goto 5, 3) := by decide +kernel
theorem dX6_order_62 : decode cX6_order 62 = .ok (.bipush (-4), 2) := by decide +kernel
theorem dX6_order_64 : decode cX6_order 64 = .ok (.ireturn, 1) := by decide +kernel
theorem dX6_need_0 : decode cX6_need 0 = .ok (.aload_n 0, 1) := by decide +kernel
theorem dX6_need_1 : decode cX6_need 1 = .ok (.getfield 66, 3) := by decide +kernel
theorem dX6_need_4 : decode cX6_need 4 = .ok (.aload_n 0, 1) := by decide +kernel
theorem dX6_need_5 : decode cX6_need 5 = .ok (.getfield 34, 3) := by decide +kernel
theorem dX6_need_8 : decode cX6_need 8 = .ok (.bipush 20, 2) := by decide +kernel
theorem dX6_need_10 : decode cX6_need 10 = .ok (.invokevirtual 181, 3) := by decide +kernel
theorem dX6_need_13 : decode cX6_need 13 = .ok (.istore_n 1, 1) := by decide +kernel
theorem dX6_need_14 : decode cX6_need 14 = .ok (.iconst 0, 1) := by decide +kernel
theorem dX6_need_15 : decode cX6_need 15 = .ok (.istore_n 2, 1) := by decide +kernel
theorem dX6_need_16 : decode cX6_need 16 = .ok (.iload_n 2, 1) := by decide +kernel
theorem dX6_need_17 : decode cX6_need 17 = .ok (.bipush 20, 2) := by decide +kernel
theorem dX6_need_19 : decode cX6_need 19 = .ok (.if_icmp .ge 27, 3) := by decide +kernel
theorem dX6_need_22 : decode cX6_need 22 = .ok (.aload_n 0, 1) := by decide +kernel
theorem dX6_need_23 : decode cX6_need 23 = .ok (.getfield 66, 3) := by decide +kernel
theorem dX6_need_26 : decode cX6_need 26 = .ok (.aload_n 0, 1) := by decide +kernel
theorem dX6_need_27 : decode cX6_need 27 = .ok (.getfield 34, 3) := by decide +kernel
theorem dX6_need_30 : decode cX6_need 30 = .ok (.iload_n 2, 1) := by decide +kernel
theorem dX6_need_31 : decode cX6_need 31 = .ok (.invokevirtual 181, 3) := by decide +kernel
theorem dX6_need_34 : decode cX6_need 34 = .ok (.iload_n 1, 1) := by decide +kernel
theorem dX6_need_35 : decode cX6_need 35 = .ok (.if_icmp .ne 5, 3) := by decide +kernel
theorem dX6_need_38 : decode cX6_need 38 = .ok (.iload_n 2, 1) := by decide +kernel
theorem dX6_need_39 : decode cX6_need 39 = .ok (.ireturn, 1) := by decide +kernel
theorem dX6_need_40 : decode cX6_need 40 = .ok (.iinc 2 1, 3) := by decide +kernel
theorem dX6_need_43 : decode cX6_need 43 = .ok (.goto (-27), 3) := by decide +kernel
theorem dX6_need_46 : decode cX6_need 46 = .ok (.bipush 20, 2) := by decide +kernel
theorem dX6_need_48 : decode cX6_need 48 = .ok (.ireturn, 1) := by decide +kernel
theorem dX6_seen_0 : decode cX6_seen 0 = .ok (.iload_n 1, 1) := by decide +kernel
theorem dX6_seen_1 : decode cX6_seen 1 = .ok (.ifCond .lt 26, 3) := by decide +kernel
theorem dX6_seen_4 : decode cX6_seen 4 = .ok (.iload_n 1, 1) := by decide +kernel
theorem dX6_seen_5 : decode cX6_seen 5 = .ok (.bipush 40, 2) := by decide +kernel
theorem dX6_seen_7 : decode cX6_seen 7 = .ok (.if_icmp .gt 20, 3) := by decide +kernel
theorem dX6_seen_10 : decode cX6_seen 10 = .ok (.aload_n 0, 1) := by decide +kernel
theorem dX6_seen_11 : decode cX6_seen 11 = .ok (.iload_n 2, 1) := by decide +kernel
theorem dX6_seen_12 : decode cX6_seen 12 = .ok (.invokevirtual 102, 3) := by decide +kernel
theorem dX6_seen_15 : decode cX6_seen 15 = .ok (.ifCond .eq 12, 3) := by decide +kernel
theorem dX6_seen_18 : decode cX6_seen 18 = .ok (.iload_n 3, 1) := by decide +kernel
theorem dX6_seen_19 : decode cX6_seen 19 = .ok (.ifCond .lt 8, 3) := by decide +kernel
theorem dX6_seen_22 : decode cX6_seen 22 = .ok (.iload_n 3, 1) := by decide +kernel
theorem dX6_seen_23 : decode cX6_seen 23 = .ok (.iconst 1, 1) := by decide +kernel
theorem dX6_seen_24 : decode cX6_seen 24 = .ok (.if_icmp .le 5, 3) := by decide +kernel
theorem dX6_seen_27 : decode cX6_seen 27 = .ok (.iconst (-1), 1) := by decide +kernel
theorem dX6_seen_28 : decode cX6_seen 28 = .ok (.ireturn, 1) := by decide +kernel
theorem dX6_seen_29 : decode cX6_seen 29 = .ok (.aload_n 0, 1) := by decide +kernel
theorem dX6_seen_30 : decode cX6_seen 30 = .ok (.getfield 59, 3) := by decide +kernel
theorem dX6_seen_33 : decode cX6_seen 33 = .ok (.getfield 189, 3) := by decide +kernel
theorem dX6_seen_36 : decode cX6_seen 36 = .ok (.bipush 6, 2) := by decide +kernel
theorem dX6_seen_38 : decode cX6_seen 38 = .ok (.if_icmp .lt 6, 3) := by decide +kernel
theorem dX6_seen_41 : decode cX6_seen 41 = .ok (.bipush (-3), 2) := by decide +kernel
theorem dX6_seen_43 : decode cX6_seen 43 = .ok (.ireturn, 1) := by decide +kernel
theorem dX6_seen_44 : decode cX6_seen 44 = .ok (.aload_n 0, 1) := by decide +kernel
theorem dX6_seen_45 : decode cX6_seen 45 = .ok (.getfield 59, 3) := by decide +kernel
theorem dX6_seen_48 : decode cX6_seen 48 = .ok (.iload_n 1, 1) := by decide +kernel
theorem dX6_seen_49 : decode cX6_seen 49 = .ok (.iload_n 2, 1) := by decide +kernel
theorem dX6_seen_50 : decode cX6_seen 50 = .ok (.iload_n 3, 1) := by decide +kernel
theorem dX6_seen_51 : decode cX6_seen 51 = .ok (.iconst 1, 1) := by decide +kernel
theorem dX6_seen_52 : decode cX6_seen 52 = .ok (.if_icmp .ne 7, 3) := by decide +kernel
theorem dX6_seen_55 : decode cX6_seen 55 = .ok (.iconst 1, 1) := by decide +kernel
theorem dX6_seen_56 : decode cX6_seen 56 = .ok (.goto 4, 3) := by decide +kernel
theorem dX6_seen_59 : decode cX6_seen 59 = .ok (.iconst 0, 1) := by decide +kernel
theorem dX6_seen_60 : decode cX6_seen 60 = .ok (.invokevirtual 190, 3) := by decide +kernel
theorem dX6_seen_63 : decode cX6_seen 63 = .ok (.aload_n 0, 1) := by decide +kernel
theorem dX6_seen_64 : decode cX6_seen 64 = .ok (.getfield 59, 3) := by decide +kernel
theorem dX6_seen_67 : decode cX6_seen 67 = .ok (.getfield 189, 3) := by decide +kernel
theorem dX6_seen_70 : decode cX6_seen 70 = .ok (.ireturn, 1) := by decide +kernel
theorem dX6_forget_0 : decode cX6_forget 0 = .ok (.aload_n 0, 1) := by decide +kernel
theorem dX6_forget_1 : decode cX6_forget 1 = .ok (.getfield 59, 3) := by decide +kernel
theorem dX6_forget_4 : decode cX6_forget 4 = .ok (.getfield 189, 3) := by decide +kernel
theorem dX6_forget_7 : decode cX6_forget 7 = .ok (.istore_n 1, 1) := by decide +kernel
theorem dX6_forget_8 : decode cX6_forget 8 = .ok (.aload_n 0, 1) := by decide +kernel
theorem dX6_forget_9 : decode cX6_forget 9 = .ok (.getfield 59, 3) := by decide +kernel
theorem dX6_forget_12 : decode cX6_forget 12 = .ok (.iconst 0, 1) := by decide +kernel
theorem dX6_forget_13 : decode cX6_forget 13 = .ok (.putfield 189, 3) := by decide +kernel
theorem dX6_forget_16 : decode cX6_forget 16 = .ok (.iload_n 1, 1) := by decide +kernel
theorem dX6_forget_17 : decode cX6_forget 17 = .ok (.ireturn, 1) := by decide +kernel
theorem dX6_kinds_0 : decode cX6_kinds 0 = .ok (.aload_n 0, 1) := by decide +kernel
theorem dX6_kinds_1 : decode cX6_kinds 1 = .ok (.iload_n 1, 1) := by decide +kernel
theorem dX6_kinds_2 : decode cX6_kinds 2 = .ok (.invokevirtual 102, 3) := by decide +kernel
theorem dX6_kinds_5 : decode cX6_kinds 5 = .ok (.ifCond .ne 5, 3) := by decide +kernel
theorem dX6_kinds_8 : decode cX6_kinds 8 = .ok (.iconst (-1), 1) := by decide +kernel
theorem dX6_kinds_9 : decode cX6_kinds 9 = .ok (.ireturn, 1) := by decide +kernel
theorem dX6_kinds_10 : decode cX6_kinds 10 = .ok (.iconst 0, 1) := by decide +kernel
theorem dX6_kinds_11 : decode cX6_kinds 11 = .ok (.istore_n 2, 1) := by decide +kernel
theorem dX6_kinds_12 : decode cX6_kinds 12 = .ok (.aload_n 0, 1) := by decide +kernel
theorem dX6_kinds_13 : decode cX6_kinds 13 = .ok (.getfield 26, 3) := by decide +kernel
theorem dX6_kinds_16 : decode cX6_kinds 16 = .ok (.aload_n 0, 1) := by decide +kernel
theorem dX6_kinds_17 : decode cX6_kinds 17 = .ok (.getfield 19, 3) := by decide +kernel
theorem dX6_kinds_20 : decode cX6_kinds 20 = .ok (.invokevirtual 194, 3) := by decide +kernel
theorem dX6_kinds_23 : decode cX6_kinds 23 = .ok (.iconst 0, 1) := by decide +kernel
theorem dX6_kinds_24 : decode cX6_kinds 24 = .ok (.istore_n 3, 1) := by decide +kernel
theorem dX6_kinds_25 : decode cX6_kinds 25 = .ok (.iload_n 3, 1) := by decide +kernel
theorem dX6_kinds_26 : decode cX6_kinds 26 = .ok (.iconst 4, 1) := by decide +kernel
theorem dX6_kinds_27 : decode cX6_kinds 27 = .ok (.if_icmp .ge 32, 3) := by decide +kernel
theorem dX6_kinds_30 : decode cX6_kinds 30 = .ok (.aload_n 0, 1) := by decide +kernel
theorem dX6_kinds_31 : decode cX6_kinds 31 = .ok (.getfield 26, 3) := by decide +kernel
theorem dX6_kinds_34 : decode cX6_kinds 34 = .ok (.getfield 196, 3) := by decide +kernel
theorem dX6_kinds_37 : decode cX6_kinds 37 = .ok (.iload_n 1, 1) := by decide +kernel
theorem dX6_kinds_38 : decode cX6_kinds 38 = .ok (.iload_n 3, 1) := by decide +kernel
theorem dX6_kinds_39 : decode cX6_kinds 39 = .ok (.iastore, 1) := by decide +kernel
theorem dX6_kinds_40 : decode cX6_kinds 40 = .ok (.aload_n 0, 1) := by decide +kernel
theorem dX6_kinds_41 : decode cX6_kinds 41 = .ok (.invokevirtual 199, 3) := by decide +kernel
theorem dX6_kinds_44 : decode cX6_kinds 44 = .ok (.ifCond .eq 9, 3) := by decide +kernel
theorem dX6_kinds_47 : decode cX6_kinds 47 = .ok (.iload_n 2, 1) := by decide +kernel
theorem dX6_kinds_48 : decode cX6_kinds 48 = .ok (.iconst 1, 1) := by decide +kernel
theorem dX6_kinds_49 : decode cX6_kinds 49 = .ok (.iload_n 3, 1) := by decide +kernel
theorem dX6_kinds_50 : decode cX6_kinds 50 = .ok (.ishl, 1) := by decide +kernel
theorem dX6_kinds_51 : decode cX6_kinds 51 = .ok (.ior, 1) := by decide +kernel
theorem dX6_kinds_52 : decode cX6_kinds 52 = .ok (.istore_n 2, 1) := by decide +kernel
theorem dX6_kinds_53 : decode cX6_kinds 53 = .ok (.iinc 3 1, 3) := by decide +kernel
theorem dX6_kinds_56 : decode cX6_kinds 56 = .ok (.goto (-31), 3) := by decide +kernel
theorem dX6_kinds_59 : decode cX6_kinds 59 = .ok (.iload_n 2, 1) := by decide +kernel
theorem dX6_kinds_60 : decode cX6_kinds 60 = .ok (.ireturn, 1) := by decide +kernel
theorem dX6_days_0 : decode cX6_days 0 = .ok (.aload_n 0, 1) := by decide +kernel
theorem dX6_days_1 : decode cX6_days 1 = .ok (.iload_n 1, 1) := by decide +kernel
theorem dX6_days_2 : decode cX6_days 2 = .ok (.invokevirtual 102, 3) := by decide +kernel
theorem dX6_days_5 : decode cX6_days 5 = .ok (.ifCond .eq 12, 3) := by decide +kernel
theorem dX6_days_8 : decode cX6_days 8 = .ok (.iload_n 2, 1) := by decide +kernel
theorem dX6_days_9 : decode cX6_days 9 = .ok (.ifCond .lt 8, 3) := by decide +kernel
theorem dX6_days_12 : decode cX6_days 12 = .ok (.iload_n 2, 1) := by decide +kernel
theorem dX6_days_13 : decode cX6_days 13 = .ok (.iconst 1, 1) := by decide +kernel
theorem dX6_days_14 : decode cX6_days 14 = .ok (.if_icmp .le 5, 3) := by decide +kernel
theorem dX6_days_17 : decode cX6_days 17 = .ok (.iconst (-1), 1) := by decide +kernel
theorem dX6_days_18 : decode cX6_days 18 = .ok (.ireturn, 1) := by decide +kernel
theorem dX6_days_19 : decode cX6_days 19 = .ok (.iconst 0, 1) := by decide +kernel
theorem dX6_days_20 : decode cX6_days 20 = .ok (.istore_n 3, 1) := by decide +kernel
theorem dX6_days_21 : decode cX6_days 21 = .ok (.bipush (-4), 2) := by decide +kernel
theorem dX6_days_23 : decode cX6_days 23 = .ok (.istore 4, 2) := by decide +kernel
theorem dX6_days_25 : decode cX6_days 25 = .ok (.aload_n 0, 1) := by decide +kernel
theorem dX6_days_26 : decode cX6_days 26 = .ok (.getfield 26, 3) := by decide +kernel
theorem dX6_days_29 : decode cX6_days 29 = .ok (.aload_n 0, 1) := by decide +kernel
theorem dX6_days_30 : decode cX6_days 30 = .ok (.getfield 19, 3) := by decide +kernel
theorem dX6_days_33 : decode cX6_days 33 = .ok (.invokevirtual 194, 3) := by decide +kernel
theorem dX6_days_36 : decode cX6_days 36 = .ok (.bipush 40, 2) := by decide +kernel
theorem dX6_days_38 : decode cX6_days 38 = .ok (.istore 5, 2) := by decide +kernel
theorem dX6_days_40 : decode cX6_days 40 = .ok (.iload 5, 2) := by decide +kernel
theorem dX6_days_42 : decode cX6_days 42 = .ok (.ifCond .lt 34, 3) := by decide +kernel
theorem dX6_days_45 : decode cX6_days 45 = .ok (.aload_n 0, 1) := by decide +kernel
theorem dX6_days_46 : decode cX6_days 46 = .ok (.getfield 26, 3) := by decide +kernel
theorem dX6_days_49 : decode cX6_days 49 = .ok (.getfield 203, 3) := by decide +kernel
theorem dX6_days_52 : decode cX6_days 52 = .ok (.iload_n 1, 1) := by decide +kernel
theorem dX6_days_53 : decode cX6_days 53 = .ok (.iload 5, 2) := by decide +kernel
theorem dX6_days_55 : decode cX6_days 55 = .ok (.iastore, 1) := by decide +kernel
theorem dX6_days_56 : decode cX6_days 56 = .ok (.aload_n 0, 1) := by decide +kernel
theorem dX6_days_57 : decode cX6_days 57 = .ok (.invokevirtual 199, 3) := by decide +kernel
theorem dX6_days_60 : decode cX6_days 60 = .ok (.ifCond .eq 10, 3) := by decide +kernel
theorem dX6_days_63 : decode cX6_days 63 = .ok (.iinc 3 1, 3) := by decide +kernel
theorem dX6_days_66 : decode cX6_days 66 = .ok (.iload 5, 2) := by decide +kernel
theorem dX6_days_68 : decode cX6_days 68 = .ok (.istore 4, 2) := by decide +kernel
theorem dX6_days_70 : decode cX6_days 70 = .ok (.iinc 5 (-1), 3) := by decide +kernel
theorem dX6_days_73 : decode cX6_days 73 = .ok (.goto (-33), 3) := by decide +kernel
theorem dX6_days_76 : decode cX6_days 76 = .ok (.iload_n 2, 1) := by decide +kernel
theorem dX6_days_77 : decode cX6_days 77 = .ok (.ifCond .ne 7, 3) := by decide +kernel
theorem dX6_days_80 : decode cX6_days 80 = .ok (.iload_n 3, 1) := by decide +kernel
theorem dX6_days_81 : decode cX6_days 81 = .ok (.goto 5, 3) := by decide +kernel
theorem dX6_days_84 : decode cX6_days 84 = .ok (.iload 4, 2) := by decide +kernel
theorem dX6_days_86 : decode cX6_days 86 = .ok (.ireturn, 1) := by decide +kernel
theorem dX6_likely_0 : decode cX6_likely 0 = .ok (.aload_n 0, 1) := by decide +kernel
theorem dX6_likely_1 : decode cX6_likely 1 = .ok (.iload_n 1, 1) := by decide +kernel
theorem dX6_likely_2 : decode cX6_likely 2 = .ok (.invokevirtual 102, 3) := by decide +kernel
theorem dX6_likely_5 : decode cX6_likely 5 = .ok (.ifCond .eq 34, 3) := by decide +kernel
theorem dX6_likely_8 : decode cX6_likely 8 = .ok (.iload_n 2, 1) := by decide +kernel
theorem dX6_likely_9 : decode cX6_likely 9 = .ok (.ifCond .lt 30, 3) := by decide +kernel
theorem dX6_likely_12 : decode cX6_likely 12 = .ok (.iload_n 2, 1) := by decide +kernel
theorem dX6_likely_13 : decode cX6_likely 13 = .ok (.bipush 7, 2) := by decide +kernel
theorem dX6_likely_15 : decode cX6_likely 15 = .ok (.if_icmp .gt 24, 3) := by decide +kernel
theorem dX6_likely_18 : decode cX6_likely 18 = .ok (.iload_n 3, 1) := by decide +kernel
theorem dX6_likely_19 : decode cX6_likely 19 = .ok (.ifCond .lt 20, 3) := by decide +kernel
theorem dX6_likely_22 : decode cX6_likely 22 = .ok (.iload_n 3, 1) := by decide +kernel
theorem dX6_likely_23 : decode cX6_likely 23 = .ok (.bipush 10, 2) := by decide +kernel
theorem dX6_likely_25 : decode cX6_likely 25 = .ok (.if_icmp .gt 14, 3) := by decide +kernel
theorem dX6_likely_28 : decode cX6_likely 28 = .ok (.iload 4, 2) := by decide +kernel
theorem dX6_likely_30 : decode cX6_likely 30 = .ok (.ifCond .lt 9, 3) := by decide +kernel
theorem dX6_likely_33 : decode cX6_likely 33 = .ok (.iload 4, 2) := by decide +kernel
theorem dX6_likely_35 : decode cX6_likely 35 = .ok (.iconst 1, 1) := by decide +kernel
theorem dX6_likely_36 : decode cX6_likely 36 = .ok (.if_icmp .le 5, 3) := by decide +kernel
theorem dX6_likely_39 : decode cX6_likely 39 = .ok (.iconst (-1), 1) := by decide +kernel
theorem dX6_likely_40 : decode cX6_likely 40 = .ok (.ireturn, 1) := by decide +kernel
theorem dX6_likely_41 : decode cX6_likely 41 = .ok (.iconst 0, 1) := by decide +kernel
theorem dX6_likely_42 : decode cX6_likely 42 = .ok (.istore 5, 2) := by decide +kernel
theorem dX6_likely_44 : decode cX6_likely 44 = .ok (.iconst 1, 1) := by decide +kernel
theorem dX6_likely_45 : decode cX6_likely 45 = .ok (.istore 6, 2) := by decide +kernel
theorem dX6_likely_47 : decode cX6_likely 47 = .ok (.iconst 0, 1) := by decide +kernel
theorem dX6_likely_48 : decode cX6_likely 48 = .ok (.istore 7, 2) := by decide +kernel
theorem dX6_likely_50 : decode cX6_likely 50 = .ok (.iload 7, 2) := by decide +kernel
theorem dX6_likely_52 : decode cX6_likely 52 = .ok (.iload_n 2, 1) := by decide +kernel
theorem dX6_likely_53 : decode cX6_likely 53 = .ok (.if_icmp .ge 16, 3) := by decide +kernel
theorem dX6_likely_56 : decode cX6_likely 56 = .ok (.iload 6, 2) := by decide +kernel
theorem dX6_likely_58 : decode cX6_likely 58 = .ok (.bipush 10, 2) := by decide +kernel
theorem dX6_likely_60 : decode cX6_likely 60 = .ok (.imul, 1) := by decide +kernel
theorem dX6_likely_61 : decode cX6_likely 61 = .ok (.istore 6, 2) := by decide +kernel
theorem dX6_likely_63 : decode cX6_likely 63 = .ok (.iinc 7 1, 3) := by decide +kernel
theorem dX6_likely_66 : decode cX6_likely 66 = .ok (.goto (-16), 3) := by decide +kernel
theorem dX6_likely_69 : decode cX6_likely 69 = .ok (.iconst 0, 1) := by decide +kernel
theorem dX6_likely_70 : decode cX6_likely 70 = .ok (.istore 7, 2) := by decide +kernel
theorem dX6_likely_72 : decode cX6_likely 72 = .ok (.iload 7, 2) := by decide +kernel
theorem dX6_likely_74 : decode cX6_likely 74 = .ok (.iconst 1, 1) := by decide +kernel
theorem dX6_likely_75 : decode cX6_likely 75 = .ok (.iload_n 2, 1) := by decide +kernel
theorem dX6_likely_76 : decode cX6_likely 76 = .ok (.ishl, 1) := by decide +kernel
theorem dX6_likely_77 : decode cX6_likely 77 = .ok (.if_icmp .ge 32, 3) := by decide +kernel
theorem dX6_likely_80 : decode cX6_likely 80 = .ok (.aload_n 0, 1) := by decide +kernel
theorem dX6_likely_81 : decode cX6_likely 81 = .ok (.iload_n 1, 1) := by decide +kernel
theorem dX6_likely_82 : decode cX6_likely 82 = .ok (.iload_n 2, 1) := by decide +kernel
theorem dX6_likely_83 : decode cX6_likely 83 = .ok (.iload 7, 2) := by decide +kernel
theorem dX6_likely_85 : decode cX6_likely 85 = .ok (.invokevirtual 206, 3) := by decide +kernel
theorem dX6_likely_88 : decode cX6_likely 88 = .ok (.ifCond .eq 15, 3) := by decide +kernel
theorem dX6_likely_91 : decode cX6_likely 91 = .ok (.iload 5, 2) := by decide +kernel
theorem dX6_likely_93 : decode cX6_likely 93 = .ok (.iload_n 2, 1) := by decide +kernel
theorem dX6_likely_94 : decode cX6_likely 94 = .ok (.iload 7, 2) := by decide +kernel
theorem dX6_likely_96 : decode cX6_likely 96 = .ok (.iload_n 3, 1) := by decide +kernel
theorem dX6_likely_97 : decode cX6_likely 97 = .ok (.invokestatic 210, 3) := by decide +kernel
theorem dX6_likely_100 : decode cX6_likely 100 = .ok (.iadd, 1) := by decide +kernel
theorem dX6_likely_101 : decode cX6_likely 101 = .ok (.istore 5, 2) := by decide +kernel
theorem dX6_likely_103 : decode cX6_likely 103 = .ok (.iinc 7 1, 3) := by decide +kernel
theorem dX6_likely_106 : decode cX6_likely 106 = .ok (.goto (-34), 3) := by decide +kernel
theorem dX6_likely_109 : decode cX6_likely 109 = .ok (.iload 5, 2) := by decide +kernel
theorem dX6_likely_111 : decode cX6_likely 111 = .ok (.iload 6, 2) := by decide +kernel
theorem dX6_likely_113 : decode cX6_likely 113 = .ok (.invokestatic 214, 3) := by decide +kernel
theorem dX6_likely_116 : decode cX6_likely 116 = .ok (.istore 7, 2) := by decide +kernel
theorem dX6_likely_118 : decode cX6_likely 118 = .ok (.iload 7, 2) := by decide +kernel
theorem dX6_likely_120 : decode cX6_likely 120 = .ok (.ifCond .gt 5, 3) := by decide +kernel
theorem dX6_likely_123 : decode cX6_likely 123 = .ok (.iconst (-1), 1) := by decide +kernel
theorem dX6_likely_124 : decode cX6_likely 124 = .ok (.ireturn, 1) := by decide +kernel
theorem dX6_likely_125 : decode cX6_likely 125 = .ok (.iload 4, 2) := by decide +kernel
theorem dX6_likely_127 : decode cX6_likely 127 = .ok (.ifCond .ne 11, 3) := by decide +kernel
theorem dX6_likely_130 : decode cX6_likely 130 = .ok (.iload 5, 2) := by decide +kernel
theorem dX6_likely_132 : decode cX6_likely 132 = .ok (.iload 7, 2) := by decide +kernel
theorem dX6_likely_134 : decode cX6_likely 134 = .ok (.idiv, 1) := by decide +kernel
theorem dX6_likely_135 : decode cX6_likely 135 = .ok (.goto 8, 3) := by decide +kernel
theorem dX6_likely_138 : decode cX6_likely 138 = .ok (.iload 6, 2) := by decide +kernel
theorem dX6_likely_140 : decode cX6_likely 140 = .ok (.iload 7, 2) := by decide +kernel
theorem dX6_likely_142 : decode cX6_likely 142 = .ok (.idiv, 1) := by decide +kernel
theorem dX6_likely_143 : decode cX6_likely 143 = .ok (.ireturn, 1) := by decide +kernel
theorem dX6_year_0 : decode cX6_year 0 = .ok (.iload_n 1, 1) := by decide +kernel
theorem dX6_year_1 : decode cX6_year 1 = .ok (.ifCond .lt 30, 3) := by decide +kernel
theorem dX6_year_4 : decode cX6_year 4 = .ok (.iload_n 1, 1) := by decide +kernel
theorem dX6_year_5 : decode cX6_year 5 = .ok (.sipush 9999, 3) := by decide +kernel
theorem dX6_year_8 : decode cX6_year 8 = .ok (.if_icmp .gt 23, 3) := by decide +kernel
theorem dX6_year_11 : decode cX6_year 11 = .ok (.iload_n 2, 1) := by decide +kernel
theorem dX6_year_12 : decode cX6_year 12 = .ok (.iconst 1, 1) := by decide +kernel
theorem dX6_year_13 : decode cX6_year 13 = .ok (.if_icmp .lt 18, 3) := by decide +kernel
theorem dX6_year_16 : decode cX6_year 16 = .ok (.iload_n 2, 1) := by decide +kernel
theorem dX6_year_17 : decode cX6_year 17 = .ok (.bipush 60, 2) := by decide +kernel
theorem dX6_year_19 : decode cX6_year 19 = .ok (.if_icmp .gt 12, 3) := by decide +kernel
theorem dX6_year_22 : decode cX6_year 22 = .ok (.iload_n 3, 1) := by decide +kernel
theorem dX6_year_23 : decode cX6_year 23 = .ok (.ifCond .lt 8, 3) := by decide +kernel
theorem dX6_year_26 : decode cX6_year 26 = .ok (.iload_n 3, 1) := by decide +kernel
theorem dX6_year_27 : decode cX6_year 27 = .ok (.iconst 2, 1) := by decide +kernel
theorem dX6_year_28 : decode cX6_year 28 = .ok (.if_icmp .le 5, 3) := by decide +kernel
theorem dX6_year_31 : decode cX6_year 31 = .ok (.iconst (-1), 1) := by decide +kernel
theorem dX6_year_32 : decode cX6_year 32 = .ok (.ireturn, 1) := by decide +kernel
theorem dX6_year_33 : decode cX6_year 33 = .ok (.aload_n 0, 1) := by decide +kernel
theorem dX6_year_34 : decode cX6_year 34 = .ok (.getfield 38, 3) := by decide +kernel
theorem dX6_year_37 : decode cX6_year 37 = .ok (.aload_n 0, 1) := by decide +kernel
theorem dX6_year_38 : decode cX6_year 38 = .ok (.getfield 34, 3) := by decide +kernel
theorem dX6_year_41 : decode cX6_year 41 = .ok (.invokevirtual 156, 3) := by decide +kernel
theorem dX6_year_44 : decode cX6_year 44 = .ok (.iconst 0, 1) := by decide +kernel
theorem dX6_year_45 : decode cX6_year 45 = .ok (.istore 4, 2) := by decide +kernel
theorem dX6_year_47 : decode cX6_year 47 = .ok (.iload 4, 2) := by decide +kernel
theorem dX6_year_49 : decode cX6_year 49 = .ok (.iload_n 2, 1) := by decide +kernel
theorem dX6_year_50 : decode cX6_year 50 = .ok (.if_icmp .ge 30, 3) := by decide +kernel
theorem dX6_year_53 : decode cX6_year 53 = .ok (.aload_n 0, 1) := by decide +kernel
theorem dX6_year_54 : decode cX6_year 54 = .ok (.getfield 38, 3) := by decide +kernel
theorem dX6_year_57 : decode cX6_year 57 = .ok (.iload_n 1, 1) := by decide +kernel
theorem dX6_year_58 : decode cX6_year 58 = .ok (.iload 4, 2) := by decide +kernel
theorem dX6_year_60 : decode cX6_year 60 = .ok (.invokestatic 217, 3) := by decide +kernel
theorem dX6_year_63 : decode cX6_year 63 = .ok (.invokevirtual 220, 3) := by decide +kernel
theorem dX6_year_66 : decode cX6_year 66 = .ok (.aload_n 0, 1) := by decide +kernel
theorem dX6_year_67 : decode cX6_year 67 = .ok (.getfield 38, 3) := by decide +kernel
theorem dX6_year_70 : decode cX6_year 70 = .ok (.iconst 0, 1) := by decide +kernel
theorem dX6_year_71 : decode cX6_year 71 = .ok (.invokevirtual 168, 3) := by decide +kernel
theorem dX6_year_74 : decode cX6_year 74 = .ok (.iinc 4 1, 3) := by decide +kernel
theorem dX6_year_77 : decode cX6_year 77 = .ok (.goto (-30), 3) := by decide +kernel
theorem dX6_year_80 : decode cX6_year 80 = .ok (.iload_n 3, 1) := by decide +kernel
theorem dX6_year_81 : decode cX6_year 81 = .ok (.ifCond .ne 11, 3) := by decide +kernel
theorem dX6_year_84 : decode cX6_year 84 = .ok (.aload_n 0, 1) := by decide +kernel
theorem dX6_year_85 : decode cX6_year 85 = .ok (.getfield 38, 3) := by decide +kernel
theorem dX6_year_88 : decode cX6_year 88 = .ok (.invokevirtual 223, 3) := by decide +kernel
theorem dX6_year_91 : decode cX6_year 91 = .ok (.ireturn, 1) := by decide +kernel
theorem dX6_year_92 : decode cX6_year 92 = .ok (.iload_n 3, 1) := by decide +kernel
theorem dX6_year_93 : decode cX6_year 93 = .ok (.iconst 1, 1) := by decide +kernel
theorem dX6_year_94 : decode cX6_year 94 = .ok (.if_icmp .ne 16, 3) := by decide +kernel
theorem dX6_year_97 : decode cX6_year 97 = .ok (.aload_n 0, 1) := by decide +kernel
theorem dX6_year_98 : decode cX6_year 98 = .ok (.getfield 38, 3) := by decide +kernel
theorem dX6_year_101 : decode cX6_year 101 = .ok (.invokevirtual 140, 3) := by decide +kernel
theorem dX6_year_104 : decode cX6_year 104 = .ok (.invokestatic 143, 3) := by decide +kernel
theorem dX6_year_107 : decode cX6_year 107 = .ok (.goto 10, 3) := by decide +kernel
theorem dX6_year_110 : decode cX6_year 110 = .ok (.aload_n 0, 1) := by decide +kernel
theorem dX6_year_111 : decode cX6_year 111 = .ok (.getfield 38, 3) := by decide +kernel
theorem dX6_year_114 : decode cX6_year 114 = .ok (.getfield 134, 3) := by decide +kernel
theorem dX6_year_117 : decode cX6_year 117 = .ok (.ireturn, 1) := by decide +kernel
theorem dX6_keep_0 : decode cX6_keep 0 = .ok (.aload_n 0, 1) := by decide +kernel
theorem dX6_keep_1 : decode cX6_keep 1 = .ok (.getfield 53, 3) := by decide +kernel
theorem dX6_keep_4 : decode cX6_keep 4 = .ok (.getfield 155, 3) := by decide +kernel
theorem dX6_keep_7 : decode cX6_keep 7 = .ok (.iconst 2, 1) := by decide +kernel
theorem dX6_keep_8 : decode cX6_keep 8 = .ok (.if_icmp .lt 6, 3) := by decide +kernel
theorem dX6_keep_11 : decode cX6_keep 11 = .ok (.bipush (-3), 2) := by decide +kernel
theorem dX6_keep_13 : decode cX6_keep 13 = .ok (.ireturn, 1) := by decide +kernel
theorem dX6_keep_14 : decode cX6_keep 14 = .ok (.aload_n 0, 1) := by decide +kernel
theorem dX6_keep_15 : decode cX6_keep 15 = .ok (.getfield 53, 3) := by decide +kernel
theorem dX6_keep_18 : decode cX6_keep 18 = .ok (.aload_n 0, 1) := by decide +kernel
theorem dX6_keep_19 : decode cX6_keep 19 = .ok (.getfield 34, 3) := by decide +kernel
theorem dX6_keep_22 : decode cX6_keep 22 = .ok (.invokevirtual 116, 3) := by decide +kernel
theorem dX6_keep_25 : decode cX6_keep 25 = .ok (.aload_n 0, 1) := by decide +kernel
theorem dX6_keep_26 : decode cX6_keep 26 = .ok (.getfield 53, 3) := by decide +kernel
theorem dX6_keep_29 : decode cX6_keep 29 = .ok (.getfield 155, 3) := by decide +kernel
theorem dX6_keep_32 : decode cX6_keep 32 = .ok (.ireturn, 1) := by decide +kernel
theorem dX6_back_0 : decode cX6_back 0 = .ok (.aload_n 0, 1) := by decide +kernel
theorem dX6_back_1 : decode cX6_back 1 = .ok (.getfield 53, 3) := by decide +kernel
theorem dX6_back_4 : decode cX6_back 4 = .ok (.aload_n 0, 1) := by decide +kernel
theorem dX6_back_5 : decode cX6_back 5 = .ok (.getfield 34, 3) := by decide +kernel
theorem dX6_back_8 : decode cX6_back 8 = .ok (.invokevirtual 151, 3) := by decide +kernel
theorem dX6_back_11 : decode cX6_back 11 = .ok (.ifCond .ne 6, 3) := by decide +kernel
theorem dX6_back_14 : decode cX6_back 14 = .ok (.bipush (-2), 2) := by decide +kernel
theorem dX6_back_16 : decode cX6_back 16 = .ok (.ireturn, 1) := by decide +kernel
theorem dX6_back_17 : decode cX6_back 17 = .ok (.aload_n 0, 1) := by decide +kernel
theorem dX6_back_18 : decode cX6_back 18 = .ok (.getfield 49, 3) := by decide +kernel
theorem dX6_back_21 : decode cX6_back 21 = .ok (.iconst 0, 1) := by decide +kernel
theorem dX6_back_22 : decode cX6_back 22 = .ok (.putfield 155, 3) := by decide +kernel
theorem dX6_back_25 : decode cX6_back 25 = .ok (.aload_n 0, 1) := by decide +kernel
theorem dX6_back_26 : decode cX6_back 26 = .ok (.getfield 53, 3) := by decide +kernel
theorem dX6_back_29 : decode cX6_back 29 = .ok (.getfield 155, 3) := by decide +kernel
theorem dX6_back_32 : decode cX6_back 32 = .ok (.ireturn, 1) := by decide +kernel
theorem dX6_count_0 : decode cX6_count 0 = .ok (.iload_n 1, 1) := by decide +kernel
theorem dX6_count_1 : decode cX6_count 1 = .ok (.tableswitch 168 0 11 #[63, 71, 79, 87, 95, 106, 117, 128, 136, 144, 152, 160], 63) := by decide +kernel
theorem dX6_count_64 : decode cX6_count 64 = .ok (.aload_n 0, 1) := by decide +kernel
theorem dX6_count_65 : decode cX6_count 65 = .ok (.getfield 19, 3) := by decide +kernel
theorem dX6_count_68 : decode cX6_count 68 = .ok (.getfield 99, 3) := by decide +kernel
theorem dX6_count_71 : decode cX6_count 71 = .ok (.ireturn, 1) := by decide +kernel
theorem dX6_count_72 : decode cX6_count 72 = .ok (.aload_n 0, 1) := by decide +kernel
theorem dX6_count_73 : decode cX6_count 73 = .ok (.getfield 34, 3) := by decide +kernel
theorem dX6_count_76 : decode cX6_count 76 = .ok (.getfield 137, 3) := by decide +kernel
theorem dX6_count_79 : decode cX6_count 79 = .ok (.ireturn, 1) := by decide +kernel
theorem dX6_count_80 : decode cX6_count 80 = .ok (.aload_n 0, 1) := by decide +kernel
theorem dX6_count_81 : decode cX6_count 81 = .ok (.getfield 34, 3) := by decide +kernel
theorem dX6_count_84 : decode cX6_count 84 = .ok (.getfield 134, 3) := by decide +kernel
theorem dX6_count_87 : decode cX6_count 87 = .ok (.ireturn, 1) := by decide +kernel
theorem dX6_count_88 : decode cX6_count 88 = .ok (.aload_n 0, 1) := by decide +kernel
theorem dX6_count_89 : decode cX6_count 89 = .ok (.getfield 34, 3) := by decide +kernel
theorem dX6_count_92 : decode cX6_count 92 = .ok (.invokevirtual 226, 3) := by decide +kernel
theorem dX6_count_95 : decode cX6_count 95 = .ok (.ireturn, 1) := by decide +kernel
theorem dX6_count_96 : decode cX6_count 96 = .ok (.aload_n 0, 1) := by decide +kernel
theorem dX6_count_97 : decode cX6_count 97 = .ok (.getfield 34, 3) := by decide +kernel
theorem dX6_count_100 : decode cX6_count 100 = .ok (.invokevirtual 159, 3) := by decide +kernel
theorem dX6_count_103 : decode cX6_count 103 = .ok (.invokestatic 143, 3) := by decide +kernel
theorem dX6_count_106 : decode cX6_count 106 = .ok (.ireturn, 1) := by decide +kernel
theorem dX6_count_107 : decode cX6_count 107 = .ok (.aload_n 0, 1) := by decide +kernel
theorem dX6_count_108 : decode cX6_count 108 = .ok (.getfield 34, 3) := by decide +kernel
theorem dX6_count_111 : decode cX6_count 111 = .ok (.invokevirtual 140, 3) := by decide +kernel
theorem dX6_count_114 : decode cX6_count 114 = .ok (.invokestatic 143, 3) := by decide +kernel
theorem dX6_count_117 : decode cX6_count 117 = .ok (.ireturn, 1) := by decide +kernel
theorem dX6_count_118 : decode cX6_count 118 = .ok (.aload_n 0, 1) := by decide +kernel
theorem dX6_count_119 : decode cX6_count 119 = .ok (.getfield 34, 3) := by decide +kernel
theorem dX6_count_122 : decode cX6_count 122 = .ok (.getfield 162, 3) := by decide +kernel
theorem dX6_count_125 : decode cX6_count 125 = .ok (.invokestatic 143, 3) := by decide +kernel
theorem dX6_count_128 : decode cX6_count 128 = .ok (.ireturn, 1) := by decide +kernel
theorem dX6_count_129 : decode cX6_count 129 = .ok (.aload_n 0, 1) := by decide +kernel
theorem dX6_count_130 : decode cX6_count 130 = .ok (.getfield 34, 3) := by decide +kernel
theorem dX6_count_133 : decode cX6_count 133 = .ok (.getfield 229, 3) := by decide +kernel
theorem dX6_count_136 : decode cX6_count 136 = .ok (.ireturn, 1) := by decide +kernel
theorem dX6_count_137 : decode cX6_count 137 = .ok (.aload_n 0, 1) := by decide +kernel
theorem dX6_count_138 : decode cX6_count 138 = .ok (.getfield 59, 3) := by decide +kernel
theorem dX6_count_141 : decode cX6_count 141 = .ok (.getfield 189, 3) := by decide +kernel
theorem dX6_count_144 : decode cX6_count 144 = .ok (.ireturn, 1) := by decide +kernel
theorem dX6_count_145 : decode cX6_count 145 = .ok (.aload_n 0, 1) := by decide +kernel
theorem dX6_count_146 : decode cX6_count 146 = .ok (.getfield 49, 3) := by decide +kernel
theorem dX6_count_149 : decode cX6_count 149 = .ok (.getfield 155, 3) := by decide +kernel
theorem dX6_count_152 : decode cX6_count 152 = .ok (.ireturn, 1) := by decide +kernel
theorem dX6_count_153 : decode cX6_count 153 = .ok (.aload_n 0, 1) := by decide +kernel
theorem dX6_count_154 : decode cX6_count 154 = .ok (.getfield 53, 3) := by decide +kernel
theorem dX6_count_157 : decode cX6_count 157 = .ok (.getfield 155, 3) := by decide +kernel
theorem dX6_count_160 : decode cX6_count 160 = .ok (.ireturn, 1) := by decide +kernel
theorem dX6_count_161 : decode cX6_count 161 = .ok (.aload_n 0, 1) := by decide +kernel
theorem dX6_count_162 : decode cX6_count 162 = .ok (.getfield 10, 3) := by decide +kernel
theorem dX6_count_165 : decode cX6_count 165 = .ok (.getfield 96, 3) := by decide +kernel
theorem dX6_count_168 : decode cX6_count 168 = .ok (.ireturn, 1) := by decide +kernel
theorem dX6_count_169 : decode cX6_count 169 = .ok (.iconst (-1), 1) := by decide +kernel
theorem dX6_count_170 : decode cX6_count 170 = .ok (.ireturn, 1) := by decide +kernel
theorem dX6_isPerson_0 : decode cX6_isPerson 0 = .ok (.iload_n 1, 1) := by decide +kernel
theorem dX6_isPerson_1 : decode cX6_isPerson 1 = .ok (.ifCond .lt 18, 3) := by decide +kernel
theorem dX6_isPerson_4 : decode cX6_isPerson 4 = .ok (.iload_n 1, 1) := by decide +kernel
theorem dX6_isPerson_5 : decode cX6_isPerson 5 = .ok (.aload_n 0, 1) := by decide +kernel
theorem dX6_isPerson_6 : decode cX6_isPerson 6 = .ok (.getfield 19, 3) := by decide +kernel
theorem dX6_isPerson_9 : decode cX6_isPerson 9 = .ok (.getfield 99, 3) := by decide +kernel
theorem dX6_isPerson_12 : decode cX6_isPerson 12 = .ok (.if_icmp .ge 7, 3) := by decide +kernel
theorem dX6_isPerson_15 : decode cX6_isPerson 15 = .ok (.iconst 1, 1) := by decide +kernel
theorem dX6_isPerson_16 : decode cX6_isPerson 16 = .ok (.goto 4, 3) := by decide +kernel
theorem dX6_isPerson_19 : decode cX6_isPerson 19 = .ok (.iconst 0, 1) := by decide +kernel
theorem dX6_isPerson_20 : decode cX6_isPerson 20 = .ok (.ireturn, 1) := by decide +kernel
theorem dX6_startFromDraft_0 : decode cX6_startFromDraft 0 = .ok (.aload_n 0, 1) := by decide +kernel
theorem dX6_startFromDraft_1 : decode cX6_startFromDraft 1 = .ok (.getfield 19, 3) := by decide +kernel
theorem dX6_startFromDraft_4 : decode cX6_startFromDraft 4 = .ok (.aload_n 0, 1) := by decide +kernel
theorem dX6_startFromDraft_5 : decode cX6_startFromDraft 5 = .ok (.getfield 23, 3) := by decide +kernel
theorem dX6_startFromDraft_8 : decode cX6_startFromDraft 8 = .ok (.invokevirtual 194, 3) := by decide +kernel
theorem dX6_startFromDraft_11 : decode cX6_startFromDraft 11 = .ok (.aload_n 0, 1) := by decide +kernel
theorem dX6_startFromDraft_12 : decode cX6_startFromDraft 12 = .ok (.getfield 34, 3) := by decide +kernel
theorem dX6_startFromDraft_15 : decode cX6_startFromDraft 15 = .ok (.invokevirtual 232, 3) := by decide +kernel
theorem dX6_startFromDraft_18 : decode cX6_startFromDraft 18 = .ok (.aload_n 0, 1) := by decide +kernel
theorem dX6_startFromDraft_19 : decode cX6_startFromDraft 19 = .ok (.getfield 59, 3) := by decide +kernel
theorem dX6_startFromDraft_22 : decode cX6_startFromDraft 22 = .ok (.iconst 0, 1) := by decide +kernel
theorem dX6_startFromDraft_23 : decode cX6_startFromDraft 23 = .ok (.putfield 189, 3) := by decide +kernel
theorem dX6_startFromDraft_26 : decode cX6_startFromDraft 26 = .ok (.aload_n 0, 1) := by decide +kernel
theorem dX6_startFromDraft_27 : decode cX6_startFromDraft 27 = .ok (.getfield 49, 3) := by decide +kernel
theorem dX6_startFromDraft_30 : decode cX6_startFromDraft 30 = .ok (.iconst 0, 1) := by decide +kernel
theorem dX6_startFromDraft_31 : decode cX6_startFromDraft 31 = .ok (.putfield 155, 3) := by decide +kernel
theorem dX6_startFromDraft_34 : decode cX6_startFromDraft 34 = .ok (.aload_n 0, 1) := by decide +kernel
theorem dX6_startFromDraft_35 : decode cX6_startFromDraft 35 = .ok (.getfield 53, 3) := by decide +kernel
theorem dX6_startFromDraft_38 : decode cX6_startFromDraft 38 = .ok (.iconst 0, 1) := by decide +kernel
theorem dX6_startFromDraft_39 : decode cX6_startFromDraft 39 = .ok (.putfield 155, 3) := by decide +kernel
theorem dX6_startFromDraft_42 : decode cX6_startFromDraft 42 = .ok (.return_, 1) := by decide +kernel
theorem dX6_guessFits_0 : decode cX6_guessFits 0 = .ok (.aload_n 0, 1) := by decide +kernel
theorem dX6_guessFits_1 : decode cX6_guessFits 1 = .ok (.getfield 41, 3) := by decide +kernel
theorem dX6_guessFits_4 : decode cX6_guessFits 4 = .ok (.aload_n 0, 1) := by decide +kernel
theorem dX6_guessFits_5 : decode cX6_guessFits 5 = .ok (.getfield 34, 3) := by decide +kernel
theorem dX6_guessFits_8 : decode cX6_guessFits 8 = .ok (.invokevirtual 156, 3) := by decide +kernel
theorem dX6_guessFits_11 : decode cX6_guessFits 11 = .ok (.aload_n 0, 1) := by decide +kernel
theorem dX6_guessFits_12 : decode cX6_guessFits 12 = .ok (.getfield 59, 3) := by decide +kernel
theorem dX6_guessFits_15 : decode cX6_guessFits 15 = .ok (.aload_n 0, 1) := by decide +kernel
theorem dX6_guessFits_16 : decode cX6_guessFits 16 = .ok (.getfield 41, 3) := by decide +kernel
theorem dX6_guessFits_19 : decode cX6_guessFits 19 = .ok (.invokevirtual 235, 3) := by decide +kernel
theorem dX6_guessFits_22 : decode cX6_guessFits 22 = .ok (.ireturn, 1) := by decide +kernel
theorem dX6_softWithFrosts_0 : decode cX6_softWithFrosts 0 = .ok (.aload_n 0, 1) := by decide +kernel
theorem dX6_softWithFrosts_1 : decode cX6_softWithFrosts 1 = .ok (.getfield 38, 3) := by decide +kernel
theorem dX6_softWithFrosts_4 : decode cX6_softWithFrosts 4 = .ok (.aload_n 0, 1) := by decide +kernel
theorem dX6_softWithFrosts_5 : decode cX6_softWithFrosts 5 = .ok (.getfield 34, 3) := by decide +kernel
theorem dX6_softWithFrosts_8 : decode cX6_softWithFrosts 8 = .ok (.invokevirtual 156, 3) := by decide +kernel
theorem dX6_softWithFrosts_11 : decode cX6_softWithFrosts 11 = .ok (.iconst 0, 1) := by decide +kernel
theorem dX6_softWithFrosts_12 : decode cX6_softWithFrosts 12 = .ok (.istore 4, 2) := by decide +kernel
theorem dX6_softWithFrosts_14 : decode cX6_softWithFrosts 14 = .ok (.iload 4, 2) := by decide +kernel
theorem dX6_softWithFrosts_16 : decode cX6_softWithFrosts 16 = .ok (.iload_n 2, 1) := by decide +kernel
theorem dX6_softWithFrosts_17 : decode cX6_softWithFrosts 17 = .ok (.if_icmp .ge 31, 3) := by decide +kernel
theorem dX6_softWithFrosts_20 : decode cX6_softWithFrosts 20 = .ok (.aload_n 0, 1) := by decide +kernel
theorem dX6_softWithFrosts_21 : decode cX6_softWithFrosts 21 = .ok (.getfield 38, 3) := by decide +kernel
theorem dX6_softWithFrosts_24 : decode cX6_softWithFrosts 24 = .ok (.iload_n 3, 1) := by decide +kernel
theorem dX6_softWithFrosts_25 : decode cX6_softWithFrosts 25 = .ok (.iload 4, 2) := by decide +kernel
theorem dX6_softWithFrosts_27 : decode cX6_softWithFrosts 27 = .ok (.ishr, 1) := by decide +kernel
theorem dX6_softWithFrosts_28 : decode cX6_softWithFrosts 28 = .ok (.iconst 1, 1) := by decide +kernel
theorem dX6_softWithFrosts_29 : decode cX6_softWithFrosts 29 = .ok (.iand, 1) := by decide +kernel
theorem dX6_softWithFrosts_30 : decode cX6_softWithFrosts 30 = .ok (.iconst 1, 1) := by decide +kernel
theorem dX6_softWithFrosts_31 : decode cX6_softWithFrosts 31 = .ok (.if_icmp .ne 7, 3) := by decide +kernel
theorem dX6_softWithFrosts_34 : decode cX6_softWithFrosts 34 = .ok (.iconst 1, 1) := by decide +kernel
theorem dX6_softWithFrosts_35 : decode cX6_softWithFrosts 35 = .ok (.goto 4, 3) := by decide +kernel
theorem dX6_softWithFrosts_38 : decode cX6_softWithFrosts 38 = .ok (.iconst 0, 1) := by decide +kernel
theorem dX6_softWithFrosts_39 : decode cX6_softWithFrosts 39 = .ok (.invokevirtual 168, 3) := by decide +kernel
theorem dX6_softWithFrosts_42 : decode cX6_softWithFrosts 42 = .ok (.iinc 4 1, 3) := by decide +kernel
theorem dX6_softWithFrosts_45 : decode cX6_softWithFrosts 45 = .ok (.goto (-31), 3) := by decide +kernel
theorem dX6_softWithFrosts_48 : decode cX6_softWithFrosts 48 = .ok (.aload_n 0, 1) := by decide +kernel
theorem dX6_softWithFrosts_49 : decode cX6_softWithFrosts 49 = .ok (.getfield 38, 3) := by decide +kernel
theorem dX6_softWithFrosts_52 : decode cX6_softWithFrosts 52 = .ok (.iload_n 1, 1) := by decide +kernel
theorem dX6_softWithFrosts_53 : decode cX6_softWithFrosts 53 = .ok (.invokevirtual 238, 3) := by decide +kernel
theorem dX6_softWithFrosts_56 : decode cX6_softWithFrosts 56 = .ok (.ireturn, 1) := by decide +kernel
theorem dX6_weightOfFrosts_0 : decode cX6_weightOfFrosts 0 = .ok (.iconst 1, 1) := by decide +kernel
theorem dX6_weightOfFrosts_1 : decode cX6_weightOfFrosts 1 = .ok (.istore_n 3, 1) := by decide +kernel
theorem dX6_weightOfFrosts_2 : decode cX6_weightOfFrosts 2 = .ok (.iconst 0, 1) := by decide +kernel
theorem dX6_weightOfFrosts_3 : decode cX6_weightOfFrosts 3 = .ok (.istore 4, 2) := by decide +kernel
theorem dX6_weightOfFrosts_5 : decode cX6_weightOfFrosts 5 = .ok (.iload 4, 2) := by decide +kernel
theorem dX6_weightOfFrosts_7 : decode cX6_weightOfFrosts 7 = .ok (.iload_n 0, 1) := by decide +kernel
theorem dX6_weightOfFrosts_8 : decode cX6_weightOfFrosts 8 = .ok (.if_icmp .ge 30, 3) := by decide +kernel
theorem dX6_weightOfFrosts_11 : decode cX6_weightOfFrosts 11 = .ok (.iload_n 3, 1) := by decide +kernel
theorem dX6_weightOfFrosts_12 : decode cX6_weightOfFrosts 12 = .ok (.iload_n 1, 1) := by decide +kernel
theorem dX6_weightOfFrosts_13 : decode cX6_weightOfFrosts 13 = .ok (.iload 4, 2) := by decide +kernel
theorem dX6_weightOfFrosts_15 : decode cX6_weightOfFrosts 15 = .ok (.ishr, 1) := by decide +kernel
theorem dX6_weightOfFrosts_16 : decode cX6_weightOfFrosts 16 = .ok (.iconst 1, 1) := by decide +kernel
theorem dX6_weightOfFrosts_17 : decode cX6_weightOfFrosts 17 = .ok (.iand, 1) := by decide +kernel
theorem dX6_weightOfFrosts_18 : decode cX6_weightOfFrosts 18 = .ok (.iconst 1, 1) := by decide +kernel
theorem dX6_weightOfFrosts_19 : decode cX6_weightOfFrosts 19 = .ok (.if_icmp .ne 7, 3) := by decide +kernel
theorem dX6_weightOfFrosts_22 : decode cX6_weightOfFrosts 22 = .ok (.iload_n 2, 1) := by decide +kernel
theorem dX6_weightOfFrosts_23 : decode cX6_weightOfFrosts 23 = .ok (.goto 7, 3) := by decide +kernel
theorem dX6_weightOfFrosts_26 : decode cX6_weightOfFrosts 26 = .ok (.bipush 10, 2) := by decide +kernel
theorem dX6_weightOfFrosts_28 : decode cX6_weightOfFrosts 28 = .ok (.iload_n 2, 1) := by decide +kernel
theorem dX6_weightOfFrosts_29 : decode cX6_weightOfFrosts 29 = .ok (.isub, 1) := by decide +kernel
theorem dX6_weightOfFrosts_30 : decode cX6_weightOfFrosts 30 = .ok (.imul, 1) := by decide +kernel
theorem dX6_weightOfFrosts_31 : decode cX6_weightOfFrosts 31 = .ok (.istore_n 3, 1) := by decide +kernel
theorem dX6_weightOfFrosts_32 : decode cX6_weightOfFrosts 32 = .ok (.iinc 4 1, 3) := by decide +kernel
theorem dX6_weightOfFrosts_35 : decode cX6_weightOfFrosts 35 = .ok (.goto (-30), 3) := by decide +kernel
theorem dX6_weightOfFrosts_38 : decode cX6_weightOfFrosts 38 = .ok (.iload_n 3, 1) := by decide +kernel
theorem dX6_weightOfFrosts_39 : decode cX6_weightOfFrosts 39 = .ok (.ireturn, 1) := by decide +kernel
theorem dX6_greatestDivisor_0 : decode cX6_greatestDivisor 0 = .ok (.iload_n 0, 1) := by decide +kernel
theorem dX6_greatestDivisor_1 : decode cX6_greatestDivisor 1 = .ok (.istore_n 2, 1) := by decide +kernel
theorem dX6_greatestDivisor_2 : decode cX6_greatestDivisor 2 = .ok (.iload_n 1, 1) := by decide +kernel
theorem dX6_greatestDivisor_3 : decode cX6_greatestDivisor 3 = .ok (.istore_n 3, 1) := by decide +kernel
theorem dX6_greatestDivisor_4 : decode cX6_greatestDivisor 4 = .ok (.iconst 0, 1) := by decide +kernel
theorem dX6_greatestDivisor_5 : decode cX6_greatestDivisor 5 = .ok (.istore 4, 2) := by decide +kernel
theorem dX6_greatestDivisor_7 : decode cX6_greatestDivisor 7 = .ok (.iload 4, 2) := by decide +kernel
theorem dX6_greatestDivisor_9 : decode cX6_greatestDivisor 9 = .ok (.bipush 64, 2) := by decide +kernel
theorem dX6_greatestDivisor_11 : decode cX6_greatestDivisor 11 = .ok (.if_icmp .ge 23, 3) := by decide +kernel
theorem dX6_greatestDivisor_14 : decode cX6_greatestDivisor 14 = .ok (.iload_n 3, 1) := by decide +kernel
theorem dX6_greatestDivisor_15 : decode cX6_greatestDivisor 15 = .ok (.ifCond .eq 19, 3) := by decide +kernel
theorem dX6_greatestDivisor_18 : decode cX6_greatestDivisor 18 = .ok (.iload_n 2, 1) := by decide +kernel
theorem dX6_greatestDivisor_19 : decode cX6_greatestDivisor 19 = .ok (.iload_n 3, 1) := by decide +kernel
theorem dX6_greatestDivisor_20 : decode cX6_greatestDivisor 20 = .ok (.irem, 1) := by decide +kernel
theorem dX6_greatestDivisor_21 : decode cX6_greatestDivisor 21 = .ok (.istore 5, 2) := by decide +kernel
theorem dX6_greatestDivisor_23 : decode cX6_greatestDivisor 23 = .ok (.iload_n 3, 1) := by decide +kernel
theorem dX6_greatestDivisor_24 : decode cX6_greatestDivisor 24 = .ok (.istore_n 2, 1) := by decide +kernel
theorem dX6_greatestDivisor_25 : decode cX6_greatestDivisor 25 = .ok (.iload 5, 2) := by decide +kernel
theorem dX6_greatestDivisor_27 : decode cX6_greatestDivisor 27 = .ok (.istore_n 3, 1) := by decide +kernel
theorem dX6_greatestDivisor_28 : decode cX6_greatestDivisor 28 = .ok (.iinc 4 1, 3) := by decide +kernel
theorem dX6_greatestDivisor_31 : decode cX6_greatestDivisor 31 = .ok (.goto (-24), 3) := by decide +kernel
theorem dX6_greatestDivisor_34 : decode cX6_greatestDivisor 34 = .ok (.iload_n 2, 1) := by decide +kernel
theorem dX6_greatestDivisor_35 : decode cX6_greatestDivisor 35 = .ok (.ireturn, 1) := by decide +kernel
theorem dX6_draw_0 : decode cX6_draw 0 = .ok (.ldc2_w 241, 3) := by decide +kernel
theorem dX6_draw_3 : decode cX6_draw 3 = .ok (.iload_n 0, 1) := by decide +kernel
theorem dX6_draw_4 : decode cX6_draw 4 = .ok (.i2l, 1) := by decide +kernel
theorem dX6_draw_5 : decode cX6_draw 5 = .ok (.lmul, 1) := by decide +kernel
theorem dX6_draw_6 : decode cX6_draw 6 = .ok (.ldc2_w 243, 3) := by decide +kernel
theorem dX6_draw_9 : decode cX6_draw 9 = .ok (.iload_n 1, 1) := by decide +kernel
theorem dX6_draw_10 : decode cX6_draw 10 = .ok (.i2l, 1) := by decide +kernel
theorem dX6_draw_11 : decode cX6_draw 11 = .ok (.lmul, 1) := by decide +kernel
theorem dX6_draw_12 : decode cX6_draw 12 = .ok (.ladd, 1) := by decide +kernel
theorem dX6_draw_13 : decode cX6_draw 13 = .ok (.lconst 1, 1) := by decide +kernel
theorem dX6_draw_14 : decode cX6_draw 14 = .ok (.ladd, 1) := by decide +kernel
theorem dX6_draw_15 : decode cX6_draw 15 = .ok (.lstore_n 2, 1) := by decide +kernel
theorem dX6_draw_16 : decode cX6_draw 16 = .ok (.lload_n 2, 1) := by decide +kernel
theorem dX6_draw_17 : decode cX6_draw 17 = .ok (.lload_n 2, 1) := by decide +kernel
theorem dX6_draw_18 : decode cX6_draw 18 = .ok (.lmul, 1) := by decide +kernel
theorem dX6_draw_19 : decode cX6_draw 19 = .ok (.ldc2_w 245, 3) := by decide +kernel
theorem dX6_draw_22 : decode cX6_draw 22 = .ok (.lrem, 1) := by decide +kernel
theorem dX6_draw_23 : decode cX6_draw 23 = .ok (.ldc2_w 247, 3) := by decide +kernel
theorem dX6_draw_26 : decode cX6_draw 26 = .ok (.ldiv, 1) := by decide +kernel
theorem dX6_draw_27 : decode cX6_draw 27 = .ok (.l2i, 1) := by decide +kernel
theorem dX6_draw_28 : decode cX6_draw 28 = .ok (.ireturn, 1) := by decide +kernel
theorem dJ6_bitCount_0f7a4_0 : decode cJ6_bitCount_0f7a4 0 = .ok (.iload_n 0, 1) := by decide +kernel
theorem dJ6_bitCount_0f7a4_1 : decode cJ6_bitCount_0f7a4 1 = .ok (.iload_n 0, 1) := by decide +kernel
theorem dJ6_bitCount_0f7a4_2 : decode cJ6_bitCount_0f7a4 2 = .ok (.iconst 1, 1) := by decide +kernel
theorem dJ6_bitCount_0f7a4_3 : decode cJ6_bitCount_0f7a4 3 = .ok (.iushr, 1) := by decide +kernel
theorem dJ6_bitCount_0f7a4_4 : decode cJ6_bitCount_0f7a4 4 = .ok (.ldc_w 265, 3) := by decide +kernel
theorem dJ6_bitCount_0f7a4_7 : decode cJ6_bitCount_0f7a4 7 = .ok (.iand, 1) := by decide +kernel
theorem dJ6_bitCount_0f7a4_8 : decode cJ6_bitCount_0f7a4 8 = .ok (.isub, 1) := by decide +kernel
theorem dJ6_bitCount_0f7a4_9 : decode cJ6_bitCount_0f7a4 9 = .ok (.istore_n 0, 1) := by decide +kernel
theorem dJ6_bitCount_0f7a4_10 : decode cJ6_bitCount_0f7a4 10 = .ok (.iload_n 0, 1) := by decide +kernel
theorem dJ6_bitCount_0f7a4_11 : decode cJ6_bitCount_0f7a4 11 = .ok (.ldc_w 266, 3) := by decide +kernel
theorem dJ6_bitCount_0f7a4_14 : decode cJ6_bitCount_0f7a4 14 = .ok (.iand, 1) := by decide +kernel
theorem dJ6_bitCount_0f7a4_15 : decode cJ6_bitCount_0f7a4 15 = .ok (.iload_n 0, 1) := by decide +kernel
theorem dJ6_bitCount_0f7a4_16 : decode cJ6_bitCount_0f7a4 16 = .ok (.iconst 2, 1) := by decide +kernel
theorem dJ6_bitCount_0f7a4_17 : decode cJ6_bitCount_0f7a4 17 = .ok (.iushr, 1) := by decide +kernel
theorem dJ6_bitCount_0f7a4_18 : decode cJ6_bitCount_0f7a4 18 = .ok (.ldc_w 266, 3) := by decide +kernel
theorem dJ6_bitCount_0f7a4_21 : decode cJ6_bitCount_0f7a4 21 = .ok (.iand, 1) := by decide +kernel
theorem dJ6_bitCount_0f7a4_22 : decode cJ6_bitCount_0f7a4 22 = .ok (.iadd, 1) := by decide +kernel
theorem dJ6_bitCount_0f7a4_23 : decode cJ6_bitCount_0f7a4 23 = .ok (.istore_n 0, 1) := by decide +kernel
theorem dJ6_bitCount_0f7a4_24 : decode cJ6_bitCount_0f7a4 24 = .ok (.iload_n 0, 1) := by decide +kernel
theorem dJ6_bitCount_0f7a4_25 : decode cJ6_bitCount_0f7a4 25 = .ok (.iload_n 0, 1) := by decide +kernel
theorem dJ6_bitCount_0f7a4_26 : decode cJ6_bitCount_0f7a4 26 = .ok (.iconst 4, 1) := by decide +kernel
theorem dJ6_bitCount_0f7a4_27 : decode cJ6_bitCount_0f7a4 27 = .ok (.iushr, 1) := by decide +kernel
theorem dJ6_bitCount_0f7a4_28 : decode cJ6_bitCount_0f7a4 28 = .ok (.iadd, 1) := by decide +kernel
theorem dJ6_bitCount_0f7a4_29 : decode cJ6_bitCount_0f7a4 29 = .ok (.ldc_w 267, 3) := by decide +kernel
theorem dJ6_bitCount_0f7a4_32 : decode cJ6_bitCount_0f7a4 32 = .ok (.iand, 1) := by decide +kernel
theorem dJ6_bitCount_0f7a4_33 : decode cJ6_bitCount_0f7a4 33 = .ok (.istore_n 0, 1) := by decide +kernel
theorem dJ6_bitCount_0f7a4_34 : decode cJ6_bitCount_0f7a4 34 = .ok (.iload_n 0, 1) := by decide +kernel
theorem dJ6_bitCount_0f7a4_35 : decode cJ6_bitCount_0f7a4 35 = .ok (.iload_n 0, 1) := by decide +kernel
theorem dJ6_bitCount_0f7a4_36 : decode cJ6_bitCount_0f7a4 36 = .ok (.bipush 8, 2) := by decide +kernel
theorem dJ6_bitCount_0f7a4_38 : decode cJ6_bitCount_0f7a4 38 = .ok (.iushr, 1) := by decide +kernel
theorem dJ6_bitCount_0f7a4_39 : decode cJ6_bitCount_0f7a4 39 = .ok (.iadd, 1) := by decide +kernel
theorem dJ6_bitCount_0f7a4_40 : decode cJ6_bitCount_0f7a4 40 = .ok (.istore_n 0, 1) := by decide +kernel
theorem dJ6_bitCount_0f7a4_41 : decode cJ6_bitCount_0f7a4 41 = .ok (.iload_n 0, 1) := by decide +kernel
theorem dJ6_bitCount_0f7a4_42 : decode cJ6_bitCount_0f7a4 42 = .ok (.iload_n 0, 1) := by decide +kernel
theorem dJ6_bitCount_0f7a4_43 : decode cJ6_bitCount_0f7a4 43 = .ok (.bipush 16, 2) := by decide +kernel
theorem dJ6_bitCount_0f7a4_45 : decode cJ6_bitCount_0f7a4 45 = .ok (.iushr, 1) := by decide +kernel
theorem dJ6_bitCount_0f7a4_46 : decode cJ6_bitCount_0f7a4 46 = .ok (.iadd, 1) := by decide +kernel
theorem dJ6_bitCount_0f7a4_47 : decode cJ6_bitCount_0f7a4 47 = .ok (.istore_n 0, 1) := by decide +kernel
theorem dJ6_bitCount_0f7a4_48 : decode cJ6_bitCount_0f7a4 48 = .ok (.iload_n 0, 1) := by decide +kernel
theorem dJ6_bitCount_0f7a4_49 : decode cJ6_bitCount_0f7a4 49 = .ok (.bipush 63, 2) := by decide +kernel
theorem dJ6_bitCount_0f7a4_51 : decode cJ6_bitCount_0f7a4 51 = .ok (.iand, 1) := by decide +kernel
theorem dJ6_bitCount_0f7a4_52 : decode cJ6_bitCount_0f7a4 52 = .ok (.ireturn, 1) := by decide +kernel
theorem dJ9_max_7cf53_0 : decode cJ9_max_7cf53 0 = .ok (.iload_n 0, 1) := by decide +kernel
theorem dJ9_max_7cf53_1 : decode cJ9_max_7cf53 1 = .ok (.iload_n 1, 1) := by decide +kernel
theorem dJ9_max_7cf53_2 : decode cJ9_max_7cf53 2 = .ok (.if_icmp .lt 7, 3) := by decide +kernel
theorem dJ9_max_7cf53_5 : decode cJ9_max_7cf53 5 = .ok (.iload_n 0, 1) := by decide +kernel
theorem dJ9_max_7cf53_6 : decode cJ9_max_7cf53 6 = .ok (.goto 4, 3) := by decide +kernel
theorem dJ9_max_7cf53_9 : decode cJ9_max_7cf53 9 = .ok (.iload_n 1, 1) := by decide +kernel
theorem dJ9_max_7cf53_10 : decode cJ9_max_7cf53 10 = .ok (.ireturn, 1) := by decide +kernel
theorem dJ9_min_7cf53_0 : decode cJ9_min_7cf53 0 = .ok (.iload_n 0, 1) := by decide +kernel
theorem dJ9_min_7cf53_1 : decode cJ9_min_7cf53 1 = .ok (.iload_n 1, 1) := by decide +kernel
theorem dJ9_min_7cf53_2 : decode cJ9_min_7cf53 2 = .ok (.if_icmp .gt 7, 3) := by decide +kernel
theorem dJ9_min_7cf53_5 : decode cJ9_min_7cf53 5 = .ok (.iload_n 0, 1) := by decide +kernel
theorem dJ9_min_7cf53_6 : decode cJ9_min_7cf53 6 = .ok (.goto 4, 3) := by decide +kernel
theorem dJ9_min_7cf53_9 : decode cJ9_min_7cf53 9 = .ok (.iload_n 1, 1) := by decide +kernel
theorem dJ9_min_7cf53_10 : decode cJ9_min_7cf53 10 = .ok (.ireturn, 1) := by decide +kernel
theorem dJ0_length_8abf5_0 : decode cJ0_length_8abf5 0 = .ok (.aload_n 0, 1) := by decide +kernel
theorem dJ0_length_8abf5_1 : decode cJ0_length_8abf5 1 = .ok (.getfield 9, 3) := by decide +kernel
theorem dJ0_length_8abf5_4 : decode cJ0_length_8abf5 4 = .ok (.arraylength, 1) := by decide +kernel
theorem dJ0_length_8abf5_5 : decode cJ0_length_8abf5 5 = .ok (.aload_n 0, 1) := by decide +kernel
theorem dJ0_length_8abf5_6 : decode cJ0_length_8abf5 6 = .ok (.invokevirtual 335, 3) := by decide +kernel
theorem dJ0_length_8abf5_9 : decode cJ0_length_8abf5 9 = .ok (.ishr, 1) := by decide +kernel
theorem dJ0_length_8abf5_10 : decode cJ0_length_8abf5 10 = .ok (.ireturn, 1) := by decide +kernel
theorem dJ0_charAt_5068e_0 : decode cJ0_charAt_5068e 0 = .ok (.aload_n 0, 1) := by decide +kernel
theorem dJ0_charAt_5068e_1 : decode cJ0_charAt_5068e 1 = .ok (.invokevirtual 492, 3) := by decide +kernel
theorem dJ0_charAt_5068e_4 : decode cJ0_charAt_5068e 4 = .ok (.ifCond .eq 12, 3) := by decide +kernel
theorem dJ0_charAt_5068e_7 : decode cJ0_charAt_5068e 7 = .ok (.aload_n 0, 1) := by decide +kernel
theorem dJ0_charAt_5068e_8 : decode cJ0_charAt_5068e 8 = .ok (.getfield 9, 3) := by decide +kernel
theorem dJ0_charAt_5068e_11 : decode cJ0_charAt_5068e 11 = .ok (.iload_n 1, 1) := by decide +kernel
theorem dJ0_charAt_5068e_12 : decode cJ0_charAt_5068e 12 = .ok (.invokestatic 495, 3) := by decide +kernel
theorem dJ0_charAt_5068e_15 : decode cJ0_charAt_5068e 15 = .ok (.ireturn, 1) := by decide +kernel
theorem dJ0_charAt_5068e_16 : decode cJ0_charAt_5068e 16 = .ok (.aload_n 0, 1) := by decide +kernel
theorem dJ0_charAt_5068e_17 : decode cJ0_charAt_5068e 17 = .ok (.getfield 9, 3) := by decide +kernel
theorem dJ0_charAt_5068e_20 : decode cJ0_charAt_5068e 20 = .ok (.iload_n 1, 1) := by decide +kernel
theorem dJ0_charAt_5068e_21 : decode cJ0_charAt_5068e 21 = .ok (.invokestatic 498, 3) := by decide +kernel
theorem dJ0_charAt_5068e_24 : decode cJ0_charAt_5068e 24 = .ok (.ireturn, 1) := by decide +kernel
theorem dJ0_coder_7d493_0 : decode cJ0_coder_7d493 0 = .ok (.getstatic 38, 3) := by decide +kernel
theorem dJ0_coder_7d493_3 : decode cJ0_coder_7d493 3 = .ok (.ifCond .eq 10, 3) := by decide +kernel
theorem dJ0_coder_7d493_6 : decode cJ0_coder_7d493 6 = .ok (.aload_n 0, 1) := by decide +kernel
theorem dJ0_coder_7d493_7 : decode cJ0_coder_7d493 7 = .ok (.getfield 15, 3) := by decide +kernel
theorem dJ0_coder_7d493_10 : decode cJ0_coder_7d493 10 = .ok (.goto 4, 3) := by decide +kernel
theorem dJ0_coder_7d493_13 : decode cJ0_coder_7d493 13 = .ok (.iconst 1, 1) := by decide +kernel
theorem dJ0_coder_7d493_14 : decode cJ0_coder_7d493 14 = .ok (.ireturn, 1) := by decide +kernel
theorem dJ0_isLatin1_aae02_0 : decode cJ0_isLatin1_aae02 0 = .ok (.getstatic 38, 3) := by decide +kernel
theorem dJ0_isLatin1_aae02_3 : decode cJ0_isLatin1_aae02 3 = .ok (.ifCond .eq 14, 3) := by decide +kernel
theorem dJ0_isLatin1_aae02_6 : decode cJ0_isLatin1_aae02 6 = .ok (.aload_n 0, 1) := by decide +kernel
theorem dJ0_isLatin1_aae02_7 : decode cJ0_isLatin1_aae02 7 = .ok (.getfield 15, 3) := by decide +kernel
theorem dJ0_isLatin1_aae02_10 : decode cJ0_isLatin1_aae02 10 = .ok (.ifCond .ne 7, 3) := by decide +kernel
theorem dJ0_isLatin1_aae02_13 : decode cJ0_isLatin1_aae02 13 = .ok (.iconst 1, 1) := by decide +kernel
theorem dJ0_isLatin1_aae02_14 : decode cJ0_isLatin1_aae02 14 = .ok (.goto 4, 3) := by decide +kernel
theorem dJ0_isLatin1_aae02_17 : decode cJ0_isLatin1_aae02 17 = .ok (.iconst 0, 1) := by decide +kernel
theorem dJ0_isLatin1_aae02_18 : decode cJ0_isLatin1_aae02 18 = .ok (.ireturn, 1) := by decide +kernel
theorem dJ0_checkIndex_df160_0 : decode cJ0_checkIndex_df160 0 = .ok (.iload_n 0, 1) := by decide +kernel
theorem dJ0_checkIndex_df160_1 : decode cJ0_checkIndex_df160 1 = .ok (.iload_n 1, 1) := by decide +kernel
theorem dJ0_checkIndex_df160_2 : decode cJ0_checkIndex_df160 2 = .ok (.getstatic 1053, 3) := by decide +kernel
theorem dJ0_checkIndex_df160_5 : decode cJ0_checkIndex_df160 5 = .ok (.invokestatic 1059, 3) := by decide +kernel
theorem dJ0_checkIndex_df160_8 : decode cJ0_checkIndex_df160 8 = .ok (.pop, 1) := by decide +kernel
theorem dJ0_checkIndex_df160_9 : decode cJ0_checkIndex_df160 9 = .ok (.return_, 1) := by decide +kernel
theorem dJ1_charAt_3b067_0 : decode cJ1_charAt_3b067 0 = .ok (.iload_n 1, 1) := by decide +kernel
theorem dJ1_charAt_3b067_1 : decode cJ1_charAt_3b067 1 = .ok (.aload_n 0, 1) := by decide +kernel
theorem dJ1_charAt_3b067_2 : decode cJ1_charAt_3b067 2 = .ok (.arraylength, 1) := by decide +kernel
theorem dJ1_charAt_3b067_3 : decode cJ1_charAt_3b067 3 = .ok (.invokestatic 9, 3) := by decide +kernel
theorem dJ1_charAt_3b067_6 : decode cJ1_charAt_3b067 6 = .ok (.aload_n 0, 1) := by decide +kernel
theorem dJ1_charAt_3b067_7 : decode cJ1_charAt_3b067 7 = .ok (.iload_n 1, 1) := by decide +kernel
theorem dJ1_charAt_3b067_8 : decode cJ1_charAt_3b067 8 = .ok (.baload, 1) := by decide +kernel
theorem dJ1_charAt_3b067_9 : decode cJ1_charAt_3b067 9 = .ok (.sipush 255, 3) := by decide +kernel
theorem dJ1_charAt_3b067_12 : decode cJ1_charAt_3b067 12 = .ok (.iand, 1) := by decide +kernel
theorem dJ1_charAt_3b067_13 : decode cJ1_charAt_3b067 13 = .ok (.i2c, 1) := by decide +kernel
theorem dJ1_charAt_3b067_14 : decode cJ1_charAt_3b067 14 = .ok (.ireturn, 1) := by decide +kernel
theorem dJ2_getChar_3b067_0 : decode cJ2_getChar_3b067 0 = .ok (.getstatic 44, 3) := by decide +kernel
theorem dJ2_getChar_3b067_3 : decode cJ2_getChar_3b067 3 = .ok (.ifCond .ne 25, 3) := by decide +kernel
theorem dJ2_getChar_3b067_6 : decode cJ2_getChar_3b067 6 = .ok (.iload_n 1, 1) := by decide +kernel
theorem dJ2_getChar_3b067_7 : decode cJ2_getChar_3b067 7 = .ok (.ifCond .lt 11, 3) := by decide +kernel
theorem dJ2_getChar_3b067_10 : decode cJ2_getChar_3b067 10 = .ok (.iload_n 1, 1) := by decide +kernel
theorem dJ2_getChar_3b067_11 : decode cJ2_getChar_3b067 11 = .ok (.aload_n 0, 1) := by decide +kernel
theorem dJ2_getChar_3b067_12 : decode cJ2_getChar_3b067 12 = .ok (.invokestatic 48, 3) := by decide +kernel
theorem dJ2_getChar_3b067_15 : decode cJ2_getChar_3b067 15 = .ok (.if_icmp .lt 13, 3) := by decide +kernel
theorem dJ2_getChar_3b067_18 : decode cJ2_getChar_3b067 18 = .ok (.new 52, 3) := by decide +kernel
theorem dJ2_getChar_3b067_21 : decode cJ2_getChar_3b067 21 = .ok (.dup, 1) := by decide +kernel
theorem dJ2_getChar_3b067_22 : decode cJ2_getChar_3b067 22 = .ok (.ldc 54, 2) := by decide +kernel
theorem dJ2_getChar_3b067_24 : decode cJ2_getChar_3b067 24 = .ok (.invokespecial 56, 3) := by decide +kernel
theorem dJ2_getChar_3b067_27 : decode cJ2_getChar_3b067 27 = .ok (.athrow, 1) := by decide +kernel
theorem dJ2_getChar_3b067_28 : decode cJ2_getChar_3b067 28 = .ok (.iload_n 1, 1) := by decide +kernel
theorem dJ2_getChar_3b067_29 : decode cJ2_getChar_3b067 29 = .ok (.iconst 1, 1) := by decide +kernel
theorem dJ2_getChar_3b067_30 : decode cJ2_getChar_3b067 30 = .ok (.ishl, 1) := by decide +kernel
theorem dJ2_getChar_3b067_31 : decode cJ2_getChar_3b067 31 = .ok (.istore_n 1, 1) := by decide +kernel
theorem dJ2_getChar_3b067_32 : decode cJ2_getChar_3b067 32 = .ok (.aload_n 0, 1) := by decide +kernel
theorem dJ2_getChar_3b067_33 : decode cJ2_getChar_3b067 33 = .ok (.iload_n 1, 1) := by decide +kernel
theorem dJ2_getChar_3b067_34 : decode cJ2_getChar_3b067 34 = .ok (.iinc 1 1, 3) := by decide +kernel
theorem dJ2_getChar_3b067_37 : decode cJ2_getChar_3b067 37 = .ok (.baload, 1) := by decide +kernel
theorem dJ2_getChar_3b067_38 : decode cJ2_getChar_3b067 38 = .ok (.sipush 255, 3) := by decide +kernel
theorem dJ2_getChar_3b067_41 : decode cJ2_getChar_3b067 41 = .ok (.iand, 1) := by decide +kernel
theorem dJ2_getChar_3b067_42 : decode cJ2_getChar_3b067 42 = .ok (.getstatic 59, 3) := by decide +kernel
theorem dJ2_getChar_3b067_45 : decode cJ2_getChar_3b067 45 = .ok (.ishl, 1) := by decide +kernel
theorem dJ2_getChar_3b067_46 : decode cJ2_getChar_3b067 46 = .ok (.aload_n 0, 1) := by decide +kernel
theorem dJ2_getChar_3b067_47 : decode cJ2_getChar_3b067 47 = .ok (.iload_n 1, 1) := by decide +kernel
theorem dJ2_getChar_3b067_48 : decode cJ2_getChar_3b067 48 = .ok (.baload, 1) := by decide +kernel
theorem dJ2_getChar_3b067_49 : decode cJ2_getChar_3b067 49 = .ok (.sipush 255, 3) := by decide +kernel
theorem dJ2_getChar_3b067_52 : decode cJ2_getChar_3b067 52 = .ok (.iand, 1) := by decide +kernel
theorem dJ2_getChar_3b067_53 : decode cJ2_getChar_3b067 53 = .ok (.getstatic 63, 3) := by decide +kernel
theorem dJ2_getChar_3b067_56 : decode cJ2_getChar_3b067 56 = .ok (.ishl, 1) := by decide +kernel
theorem dJ2_getChar_3b067_57 : decode cJ2_getChar_3b067 57 = .ok (.ior, 1) := by decide +kernel
theorem dJ2_getChar_3b067_58 : decode cJ2_getChar_3b067 58 = .ok (.i2c, 1) := by decide +kernel
theorem dJ2_getChar_3b067_59 : decode cJ2_getChar_3b067 59 = .ok (.ireturn, 1) := by decide +kernel
theorem dJ2_length_9d52b_0 : decode cJ2_length_9d52b 0 = .ok (.aload_n 0, 1) := by decide +kernel
theorem dJ2_length_9d52b_1 : decode cJ2_length_9d52b 1 = .ok (.arraylength, 1) := by decide +kernel
theorem dJ2_length_9d52b_2 : decode cJ2_length_9d52b 2 = .ok (.iconst 1, 1) := by decide +kernel
theorem dJ2_length_9d52b_3 : decode cJ2_length_9d52b 3 = .ok (.ishr, 1) := by decide +kernel
theorem dJ2_length_9d52b_4 : decode cJ2_length_9d52b 4 = .ok (.ireturn, 1) := by decide +kernel
theorem dJ2_charAt_3b067_0 : decode cJ2_charAt_3b067 0 = .ok (.iload_n 1, 1) := by decide +kernel
theorem dJ2_charAt_3b067_1 : decode cJ2_charAt_3b067 1 = .ok (.aload_n 0, 1) := by decide +kernel
theorem dJ2_charAt_3b067_2 : decode cJ2_charAt_3b067 2 = .ok (.invokestatic 67, 3) := by decide +kernel
theorem dJ2_charAt_3b067_5 : decode cJ2_charAt_3b067 5 = .ok (.aload_n 0, 1) := by decide +kernel
theorem dJ2_charAt_3b067_6 : decode cJ2_charAt_3b067 6 = .ok (.iload_n 1, 1) := by decide +kernel
theorem dJ2_charAt_3b067_7 : decode cJ2_charAt_3b067 7 = .ok (.invokestatic 71, 3) := by decide +kernel
theorem dJ2_charAt_3b067_10 : decode cJ2_charAt_3b067 10 = .ok (.ireturn, 1) := by decide +kernel
theorem dJ2_checkIndex_2214a_0 : decode cJ2_checkIndex_2214a 0 = .ok (.iload_n 0, 1) := by decide +kernel
theorem dJ2_checkIndex_2214a_1 : decode cJ2_checkIndex_2214a 1 = .ok (.aload_n 1, 1) := by decide +kernel
theorem dJ2_checkIndex_2214a_2 : decode cJ2_checkIndex_2214a 2 = .ok (.invokestatic 48, 3) := by decide +kernel
theorem dJ2_checkIndex_2214a_5 : decode cJ2_checkIndex_2214a 5 = .ok (.invokestatic 414, 3) := by decide +kernel
theorem dJ2_checkIndex_2214a_8 : decode cJ2_checkIndex_2214a 8 = .ok (.return_, 1) := by decide +kernel
theorem dJ3_checkIndex_8e157_0 : decode cJ3_checkIndex_8e157 0 = .ok (.iload_n 0, 1) := by decide +kernel
theorem dJ3_checkIndex_8e157_1 : decode cJ3_checkIndex_8e157 1 = .ok (.ifCond .lt 8, 3) := by decide +kernel
theorem dJ3_checkIndex_8e157_4 : decode cJ3_checkIndex_8e157 4 = .ok (.iload_n 0, 1) := by decide +kernel
theorem dJ3_checkIndex_8e157_5 : decode cJ3_checkIndex_8e157 5 = .ok (.iload_n 1, 1) := by decide +kernel
theorem dJ3_checkIndex_8e157_6 : decode cJ3_checkIndex_8e157 6 = .ok (.if_icmp .lt 10, 3) := by decide +kernel
theorem dJ3_checkIndex_8e157_9 : decode cJ3_checkIndex_8e157 9 = .ok (.aload_n 2, 1) := by decide +kernel
theorem dJ3_checkIndex_8e157_10 : decode cJ3_checkIndex_8e157 10 = .ok (.iload_n 0, 1) := by decide +kernel
theorem dJ3_checkIndex_8e157_11 : decode cJ3_checkIndex_8e157 11 = .ok (.iload_n 1, 1) := by decide +kernel
theorem dJ3_checkIndex_8e157_12 : decode cJ3_checkIndex_8e157 12 = .ok (.invokestatic 95, 3) := by decide +kernel
theorem dJ3_checkIndex_8e157_15 : decode cJ3_checkIndex_8e157 15 = .ok (.athrow, 1) := by decide +kernel
theorem dJ3_checkIndex_8e157_16 : decode cJ3_checkIndex_8e157 16 = .ok (.iload_n 0, 1) := by decide +kernel
theorem dJ3_checkIndex_8e157_17 : decode cJ3_checkIndex_8e157 17 = .ok (.ireturn, 1) := by decide +kernel
