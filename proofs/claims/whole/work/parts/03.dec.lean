theorem dX0_init_0 : decode cX0_init 0 = .ok (.aload_n 0, 1) := by decide +kernel
theorem dX0_init_1 : decode cX0_init 1 = .ok (.invokespecial 3, 3) := by decide +kernel
theorem dX0_init_4 : decode cX0_init 4 = .ok (.aload_n 0, 1) := by decide +kernel
theorem dX0_init_5 : decode cX0_init 5 = .ok (.new 9, 3) := by decide +kernel
theorem dX0_init_8 : decode cX0_init 8 = .ok (.dup, 1) := by decide +kernel
theorem dX0_init_9 : decode cX0_init 9 = .ok (.invokespecial 11, 3) := by decide +kernel
theorem dX0_init_12 : decode cX0_init 12 = .ok (.putfield 12, 3) := by decide +kernel
theorem dX0_init_15 : decode cX0_init 15 = .ok (.aload_n 0, 1) := by decide +kernel
theorem dX0_init_16 : decode cX0_init 16 = .ok (.bipush 7, 2) := by decide +kernel
theorem dX0_init_18 : decode cX0_init 18 = .ok (.newarray .int, 2) := by decide +kernel
theorem dX0_init_20 : decode cX0_init 20 = .ok (.putfield 18, 3) := by decide +kernel
theorem dX0_init_23 : decode cX0_init 23 = .ok (.aload_n 0, 1) := by decide +kernel
theorem dX0_init_24 : decode cX0_init 24 = .ok (.new 22, 3) := by decide +kernel
theorem dX0_init_27 : decode cX0_init 27 = .ok (.dup, 1) := by decide +kernel
theorem dX0_init_28 : decode cX0_init 28 = .ok (.invokespecial 24, 3) := by decide +kernel
theorem dX0_init_31 : decode cX0_init 31 = .ok (.putfield 25, 3) := by decide +kernel
theorem dX0_init_34 : decode cX0_init 34 = .ok (.return_, 1) := by decide +kernel
theorem dX0_seek_0 : decode cX0_seek 0 = .ok (.aload_n 1, 1) := by decide +kernel
theorem dX0_seek_1 : decode cX0_seek 1 = .ok (.getfield 29, 3) := by decide +kernel
theorem dX0_seek_4 : decode cX0_seek 4 = .ok (.getfield 35, 3) := by decide +kernel
theorem dX0_seek_7 : decode cX0_seek 7 = .ok (.istore_n 3, 1) := by decide +kernel
theorem dX0_seek_8 : decode cX0_seek 8 = .ok (.aload_n 0, 1) := by decide +kernel
theorem dX0_seek_9 : decode cX0_seek 9 = .ok (.getfield 25, 3) := by decide +kernel
theorem dX0_seek_12 : decode cX0_seek 12 = .ok (.invokevirtual 41, 3) := by decide +kernel
theorem dX0_seek_15 : decode cX0_seek 15 = .ok (.aload_n 0, 1) := by decide +kernel
theorem dX0_seek_16 : decode cX0_seek 16 = .ok (.getfield 12, 3) := by decide +kernel
theorem dX0_seek_19 : decode cX0_seek 19 = .ok (.invokevirtual 44, 3) := by decide +kernel
theorem dX0_seek_22 : decode cX0_seek 22 = .ok (.iload_n 3, 1) := by decide +kernel
theorem dX0_seek_23 : decode cX0_seek 23 = .ok (.iconst 1, 1) := by decide +kernel
theorem dX0_seek_24 : decode cX0_seek 24 = .ok (.isub, 1) := by decide +kernel
theorem dX0_seek_25 : decode cX0_seek 25 = .ok (.istore 4, 2) := by decide +kernel
theorem dX0_seek_27 : decode cX0_seek 27 = .ok (.iload 4, 2) := by decide +kernel
theorem dX0_seek_29 : decode cX0_seek 29 = .ok (.ifCond .le 18, 3) := by decide +kernel
theorem dX0_seek_32 : decode cX0_seek 32 = .ok (.aload_n 0, 1) := by decide +kernel
theorem dX0_seek_33 : decode cX0_seek 33 = .ok (.getfield 12, 3) := by decide +kernel
theorem dX0_seek_36 : decode cX0_seek 36 = .ok (.iload 4, 2) := by decide +kernel
theorem dX0_seek_38 : decode cX0_seek 38 = .ok (.invokevirtual 45, 3) := by decide +kernel
theorem dX0_seek_41 : decode cX0_seek 41 = .ok (.iinc 4 (-1), 3) := by decide +kernel
theorem dX0_seek_44 : decode cX0_seek 44 = .ok (.goto (-17), 3) := by decide +kernel
theorem dX0_seek_47 : decode cX0_seek 47 = .ok (.iconst 0, 1) := by decide +kernel
theorem dX0_seek_48 : decode cX0_seek 48 = .ok (.istore 4, 2) := by decide +kernel
theorem dX0_seek_50 : decode cX0_seek 50 = .ok (.iload 4, 2) := by decide +kernel
theorem dX0_seek_52 : decode cX0_seek 52 = .ok (.sipush 720, 3) := by decide +kernel
theorem dX0_seek_55 : decode cX0_seek 55 = .ok (.if_icmp .ge 84, 3) := by decide +kernel
theorem dX0_seek_58 : decode cX0_seek 58 = .ok (.aload_n 0, 1) := by decide +kernel
theorem dX0_seek_59 : decode cX0_seek 59 = .ok (.iload_n 3, 1) := by decide +kernel
theorem dX0_seek_60 : decode cX0_seek 60 = .ok (.invokevirtual 49, 3) := by decide +kernel
theorem dX0_seek_63 : decode cX0_seek 63 = .ok (.aload_n 2, 1) := by decide +kernel
theorem dX0_seek_64 : decode cX0_seek 64 = .ok (.aload_n 1, 1) := by decide +kernel
theorem dX0_seek_65 : decode cX0_seek 65 = .ok (.invokevirtual 52, 3) := by decide +kernel
theorem dX0_seek_68 : decode cX0_seek 68 = .ok (.iconst 1, 1) := by decide +kernel
theorem dX0_seek_69 : decode cX0_seek 69 = .ok (.istore 5, 2) := by decide +kernel
theorem dX0_seek_71 : decode cX0_seek 71 = .ok (.iload 5, 2) := by decide +kernel
theorem dX0_seek_73 : decode cX0_seek 73 = .ok (.iload_n 3, 1) := by decide +kernel
theorem dX0_seek_74 : decode cX0_seek 74 = .ok (.if_icmp .ge 33, 3) := by decide +kernel
theorem dX0_seek_77 : decode cX0_seek 77 = .ok (.aload_n 2, 1) := by decide +kernel
theorem dX0_seek_78 : decode cX0_seek 78 = .ok (.aload_n 0, 1) := by decide +kernel
theorem dX0_seek_79 : decode cX0_seek 79 = .ok (.getfield 18, 3) := by decide +kernel
theorem dX0_seek_82 : decode cX0_seek 82 = .ok (.iload 5, 2) := by decide +kernel
theorem dX0_seek_84 : decode cX0_seek 84 = .ok (.iconst 1, 1) := by decide +kernel
theorem dX0_seek_85 : decode cX0_seek 85 = .ok (.isub, 1) := by decide +kernel
theorem dX0_seek_86 : decode cX0_seek 86 = .ok (.invokestatic 56, 3) := by decide +kernel
theorem dX0_seek_89 : decode cX0_seek 89 = .ok (.aload_n 0, 1) := by decide +kernel
theorem dX0_seek_90 : decode cX0_seek 90 = .ok (.getfield 18, 3) := by decide +kernel
theorem dX0_seek_93 : decode cX0_seek 93 = .ok (.iload 5, 2) := by decide +kernel
theorem dX0_seek_95 : decode cX0_seek 95 = .ok (.invokestatic 56, 3) := by decide +kernel
theorem dX0_seek_98 : decode cX0_seek 98 = .ok (.invokevirtual 60, 3) := by decide +kernel
theorem dX0_seek_101 : decode cX0_seek 101 = .ok (.iinc 5 1, 3) := by decide +kernel
theorem dX0_seek_104 : decode cX0_seek 104 = .ok (.goto (-33), 3) := by decide +kernel
theorem dX0_seek_107 : decode cX0_seek 107 = .ok (.aload_n 0, 1) := by decide +kernel
theorem dX0_seek_108 : decode cX0_seek 108 = .ok (.getfield 25, 3) := by decide +kernel
theorem dX0_seek_111 : decode cX0_seek 111 = .ok (.aload_n 2, 1) := by decide +kernel
theorem dX0_seek_112 : decode cX0_seek 112 = .ok (.invokevirtual 64, 3) := by decide +kernel
theorem dX0_seek_115 : decode cX0_seek 115 = .ok (.aload_n 0, 1) := by decide +kernel
theorem dX0_seek_116 : decode cX0_seek 116 = .ok (.getfield 18, 3) := by decide +kernel
theorem dX0_seek_119 : decode cX0_seek 119 = .ok (.invokevirtual 68, 3) := by decide +kernel
theorem dX0_seek_122 : decode cX0_seek 122 = .ok (.aload_n 0, 1) := by decide +kernel
theorem dX0_seek_123 : decode cX0_seek 123 = .ok (.getfield 12, 3) := by decide +kernel
theorem dX0_seek_126 : decode cX0_seek 126 = .ok (.invokevirtual 72, 3) := by decide +kernel
theorem dX0_seek_129 : decode cX0_seek 129 = .ok (.ifCond .ne 4, 3) := by decide +kernel
theorem dX0_seek_132 : decode cX0_seek 132 = .ok (.return_, 1) := by decide +kernel
theorem dX0_seek_133 : decode cX0_seek 133 = .ok (.iinc 4 1, 3) := by decide +kernel
theorem dX0_seek_136 : decode cX0_seek 136 = .ok (.goto (-86), 3) := by decide +kernel
theorem dX0_seek_139 : decode cX0_seek 139 = .ok (.return_, 1) := by decide +kernel
theorem dX0_orderAsChosen_0 : decode cX0_orderAsChosen 0 = .ok (.iconst 1, 1) := by decide +kernel
theorem dX0_orderAsChosen_1 : decode cX0_orderAsChosen 1 = .ok (.istore_n 2, 1) := by decide +kernel
theorem dX0_orderAsChosen_2 : decode cX0_orderAsChosen 2 = .ok (.aload_n 0, 1) := by decide +kernel
theorem dX0_orderAsChosen_3 : decode cX0_orderAsChosen 3 = .ok (.getfield 18, 3) := by decide +kernel
theorem dX0_orderAsChosen_6 : decode cX0_orderAsChosen 6 = .ok (.iconst 0, 1) := by decide +kernel
theorem dX0_orderAsChosen_7 : decode cX0_orderAsChosen 7 = .ok (.iconst 0, 1) := by decide +kernel
theorem dX0_orderAsChosen_8 : decode cX0_orderAsChosen 8 = .ok (.invokestatic 76, 3) := by decide +kernel
theorem dX0_orderAsChosen_11 : decode cX0_orderAsChosen 11 = .ok (.iconst 1, 1) := by decide +kernel
theorem dX0_orderAsChosen_12 : decode cX0_orderAsChosen 12 = .ok (.istore_n 3, 1) := by decide +kernel
theorem dX0_orderAsChosen_13 : decode cX0_orderAsChosen 13 = .ok (.iload_n 3, 1) := by decide +kernel
theorem dX0_orderAsChosen_14 : decode cX0_orderAsChosen 14 = .ok (.iload_n 1, 1) := by decide +kernel
theorem dX0_orderAsChosen_15 : decode cX0_orderAsChosen 15 = .ok (.if_icmp .ge 42, 3) := by decide +kernel
theorem dX0_orderAsChosen_18 : decode cX0_orderAsChosen 18 = .ok (.iload_n 2, 1) := by decide +kernel
theorem dX0_orderAsChosen_19 : decode cX0_orderAsChosen 19 = .ok (.aload_n 0, 1) := by decide +kernel
theorem dX0_orderAsChosen_20 : decode cX0_orderAsChosen 20 = .ok (.getfield 12, 3) := by decide +kernel
theorem dX0_orderAsChosen_23 : decode cX0_orderAsChosen 23 = .ok (.iload_n 3, 1) := by decide +kernel
theorem dX0_orderAsChosen_24 : decode cX0_orderAsChosen 24 = .ok (.iconst 1, 1) := by decide +kernel
theorem dX0_orderAsChosen_25 : decode cX0_orderAsChosen 25 = .ok (.isub, 1) := by decide +kernel
theorem dX0_orderAsChosen_26 : decode cX0_orderAsChosen 26 = .ok (.invokevirtual 80, 3) := by decide +kernel
theorem dX0_orderAsChosen_29 : decode cX0_orderAsChosen 29 = .ok (.invokestatic 84, 3) := by decide +kernel
theorem dX0_orderAsChosen_32 : decode cX0_orderAsChosen 32 = .ok (.istore 4, 2) := by decide +kernel
theorem dX0_orderAsChosen_34 : decode cX0_orderAsChosen 34 = .ok (.aload_n 0, 1) := by decide +kernel
theorem dX0_orderAsChosen_35 : decode cX0_orderAsChosen 35 = .ok (.getfield 18, 3) := by decide +kernel
theorem dX0_orderAsChosen_38 : decode cX0_orderAsChosen 38 = .ok (.iload_n 3, 1) := by decide +kernel
theorem dX0_orderAsChosen_39 : decode cX0_orderAsChosen 39 = .ok (.iload 4, 2) := by decide +kernel
theorem dX0_orderAsChosen_41 : decode cX0_orderAsChosen 41 = .ok (.invokestatic 76, 3) := by decide +kernel
theorem dX0_orderAsChosen_44 : decode cX0_orderAsChosen 44 = .ok (.iload_n 2, 1) := by decide +kernel
theorem dX0_orderAsChosen_45 : decode cX0_orderAsChosen 45 = .ok (.iconst 1, 1) := by decide +kernel
theorem dX0_orderAsChosen_46 : decode cX0_orderAsChosen 46 = .ok (.iload 4, 2) := by decide +kernel
theorem dX0_orderAsChosen_48 : decode cX0_orderAsChosen 48 = .ok (.ishl, 1) := by decide +kernel
theorem dX0_orderAsChosen_49 : decode cX0_orderAsChosen 49 = .ok (.ior, 1) := by decide +kernel
theorem dX0_orderAsChosen_50 : decode cX0_orderAsChosen 50 = .ok (.istore_n 2, 1) := by decide +kernel
theorem dX0_orderAsChosen_51 : decode cX0_orderAsChosen 51 = .ok (.iinc 3 1, 3) := by decide +kernel
theorem dX0_orderAsChosen_54 : decode cX0_orderAsChosen 54 = .ok (.goto (-41), 3) := by decide +kernel
theorem dX0_orderAsChosen_57 : decode cX0_orderAsChosen 57 = .ok (.return_, 1) := by decide +kernel
theorem dX0_comesAt_0 : decode cX0_comesAt 0 = .ok (.aload_n 0, 1) := by decide +kernel
theorem dX0_comesAt_1 : decode cX0_comesAt 1 = .ok (.getfield 25, 3) := by decide +kernel
theorem dX0_comesAt_4 : decode cX0_comesAt 4 = .ok (.getfield 88, 3) := by decide +kernel
theorem dX0_comesAt_7 : decode cX0_comesAt 7 = .ok (.iload_n 1, 1) := by decide +kernel
theorem dX0_comesAt_8 : decode cX0_comesAt 8 = .ok (.invokestatic 56, 3) := by decide +kernel
theorem dX0_comesAt_11 : decode cX0_comesAt 11 = .ok (.ireturn, 1) := by decide +kernel
theorem dX1_init_0 : decode cX1_init 0 = .ok (.aload_n 0, 1) := by decide +kernel
theorem dX1_init_1 : decode cX1_init 1 = .ok (.invokespecial 3, 3) := by decide +kernel
theorem dX1_init_4 : decode cX1_init 4 = .ok (.aload_n 0, 1) := by decide +kernel
theorem dX1_init_5 : decode cX1_init 5 = .ok (.new 9, 3) := by decide +kernel
theorem dX1_init_8 : decode cX1_init 8 = .ok (.dup, 1) := by decide +kernel
theorem dX1_init_9 : decode cX1_init 9 = .ok (.invokespecial 11, 3) := by decide +kernel
theorem dX1_init_12 : decode cX1_init 12 = .ok (.putfield 12, 3) := by decide +kernel
theorem dX1_init_15 : decode cX1_init 15 = .ok (.aload_n 0, 1) := by decide +kernel
theorem dX1_init_16 : decode cX1_init 16 = .ok (.bipush 7, 2) := by decide +kernel
theorem dX1_init_18 : decode cX1_init 18 = .ok (.newarray .int, 2) := by decide +kernel
theorem dX1_init_20 : decode cX1_init 20 = .ok (.putfield 18, 3) := by decide +kernel
theorem dX1_init_23 : decode cX1_init 23 = .ok (.aload_n 0, 1) := by decide +kernel
theorem dX1_init_24 : decode cX1_init 24 = .ok (.new 22, 3) := by decide +kernel
theorem dX1_init_27 : decode cX1_init 27 = .ok (.dup, 1) := by decide +kernel
theorem dX1_init_28 : decode cX1_init 28 = .ok (.invokespecial 24, 3) := by decide +kernel
theorem dX1_init_31 : decode cX1_init 31 = .ok (.putfield 25, 3) := by decide +kernel
theorem dX1_init_34 : decode cX1_init 34 = .ok (.return_, 1) := by decide +kernel
theorem dX1_seek_0 : decode cX1_seek 0 = .ok (.aload_n 1, 1) := by decide +kernel
theorem dX1_seek_1 : decode cX1_seek 1 = .ok (.getfield 29, 3) := by decide +kernel
theorem dX1_seek_4 : decode cX1_seek 4 = .ok (.getfield 35, 3) := by decide +kernel
theorem dX1_seek_7 : decode cX1_seek 7 = .ok (.istore_n 2, 1) := by decide +kernel
theorem dX1_seek_8 : decode cX1_seek 8 = .ok (.iload_n 2, 1) := by decide +kernel
theorem dX1_seek_9 : decode cX1_seek 9 = .ok (.iload_n 2, 1) := by decide +kernel
theorem dX1_seek_10 : decode cX1_seek 10 = .ok (.iconst 2, 1) := by decide +kernel
theorem dX1_seek_11 : decode cX1_seek 11 = .ok (.irem, 1) := by decide +kernel
theorem dX1_seek_12 : decode cX1_seek 12 = .ok (.iadd, 1) := by decide +kernel
theorem dX1_seek_13 : decode cX1_seek 13 = .ok (.istore_n 3, 1) := by decide +kernel
theorem dX1_seek_14 : decode cX1_seek 14 = .ok (.aload_n 0, 1) := by decide +kernel
theorem dX1_seek_15 : decode cX1_seek 15 = .ok (.getfield 25, 3) := by decide +kernel
theorem dX1_seek_18 : decode cX1_seek 18 = .ok (.invokevirtual 41, 3) := by decide +kernel
theorem dX1_seek_21 : decode cX1_seek 21 = .ok (.aload_n 0, 1) := by decide +kernel
theorem dX1_seek_22 : decode cX1_seek 22 = .ok (.getfield 12, 3) := by decide +kernel
theorem dX1_seek_25 : decode cX1_seek 25 = .ok (.invokevirtual 44, 3) := by decide +kernel
theorem dX1_seek_28 : decode cX1_seek 28 = .ok (.iload_n 3, 1) := by decide +kernel
theorem dX1_seek_29 : decode cX1_seek 29 = .ok (.iconst 1, 1) := by decide +kernel
theorem dX1_seek_30 : decode cX1_seek 30 = .ok (.isub, 1) := by decide +kernel
theorem dX1_seek_31 : decode cX1_seek 31 = .ok (.istore 4, 2) := by decide +kernel
theorem dX1_seek_33 : decode cX1_seek 33 = .ok (.iload 4, 2) := by decide +kernel
theorem dX1_seek_35 : decode cX1_seek 35 = .ok (.ifCond .le 18, 3) := by decide +kernel
theorem dX1_seek_38 : decode cX1_seek 38 = .ok (.aload_n 0, 1) := by decide +kernel
theorem dX1_seek_39 : decode cX1_seek 39 = .ok (.getfield 12, 3) := by decide +kernel
theorem dX1_seek_42 : decode cX1_seek 42 = .ok (.iload 4, 2) := by decide +kernel
theorem dX1_seek_44 : decode cX1_seek 44 = .ok (.invokevirtual 45, 3) := by decide +kernel
theorem dX1_seek_47 : decode cX1_seek 47 = .ok (.iinc 4 (-2), 3) := by decide +kernel
theorem dX1_seek_50 : decode cX1_seek 50 = .ok (.goto (-17), 3) := by decide +kernel
theorem dX1_seek_53 : decode cX1_seek 53 = .ok (.iconst 0, 1) := by decide +kernel
theorem dX1_seek_54 : decode cX1_seek 54 = .ok (.istore 4, 2) := by decide +kernel
theorem dX1_seek_56 : decode cX1_seek 56 = .ok (.iload 4, 2) := by decide +kernel
theorem dX1_seek_58 : decode cX1_seek 58 = .ok (.sipush 720, 3) := by decide +kernel
theorem dX1_seek_61 : decode cX1_seek 61 = .ok (.if_icmp .ge 38, 3) := by decide +kernel
theorem dX1_seek_64 : decode cX1_seek 64 = .ok (.aload_n 0, 1) := by decide +kernel
theorem dX1_seek_65 : decode cX1_seek 65 = .ok (.getfield 25, 3) := by decide +kernel
theorem dX1_seek_68 : decode cX1_seek 68 = .ok (.aload_n 0, 1) := by decide +kernel
theorem dX1_seek_69 : decode cX1_seek 69 = .ok (.aload_n 1, 1) := by decide +kernel
theorem dX1_seek_70 : decode cX1_seek 70 = .ok (.iload_n 2, 1) := by decide +kernel
theorem dX1_seek_71 : decode cX1_seek 71 = .ok (.iload_n 3, 1) := by decide +kernel
theorem dX1_seek_72 : decode cX1_seek 72 = .ok (.invokevirtual 49, 3) := by decide +kernel
theorem dX1_seek_75 : decode cX1_seek 75 = .ok (.aload_n 0, 1) := by decide +kernel
theorem dX1_seek_76 : decode cX1_seek 76 = .ok (.getfield 18, 3) := by decide +kernel
theorem dX1_seek_79 : decode cX1_seek 79 = .ok (.invokevirtual 53, 3) := by decide +kernel
theorem dX1_seek_82 : decode cX1_seek 82 = .ok (.aload_n 0, 1) := by decide +kernel
theorem dX1_seek_83 : decode cX1_seek 83 = .ok (.getfield 12, 3) := by decide +kernel
theorem dX1_seek_86 : decode cX1_seek 86 = .ok (.invokevirtual 57, 3) := by decide +kernel
theorem dX1_seek_89 : decode cX1_seek 89 = .ok (.ifCond .ne 4, 3) := by decide +kernel
theorem dX1_seek_92 : decode cX1_seek 92 = .ok (.return_, 1) := by decide +kernel
theorem dX1_seek_93 : decode cX1_seek 93 = .ok (.iinc 4 1, 3) := by decide +kernel
theorem dX1_seek_96 : decode cX1_seek 96 = .ok (.goto (-40), 3) := by decide +kernel
theorem dX1_seek_99 : decode cX1_seek 99 = .ok (.return_, 1) := by decide +kernel
theorem dX1_pairAsChosen_0 : decode cX1_pairAsChosen 0 = .ok (.iconst 0, 1) := by decide +kernel
theorem dX1_pairAsChosen_1 : decode cX1_pairAsChosen 1 = .ok (.istore 4, 2) := by decide +kernel
theorem dX1_pairAsChosen_3 : decode cX1_pairAsChosen 3 = .ok (.iconst 0, 1) := by decide +kernel
theorem dX1_pairAsChosen_4 : decode cX1_pairAsChosen 4 = .ok (.istore 5, 2) := by decide +kernel
theorem dX1_pairAsChosen_6 : decode cX1_pairAsChosen 6 = .ok (.iconst 0, 1) := by decide +kernel
theorem dX1_pairAsChosen_7 : decode cX1_pairAsChosen 7 = .ok (.istore 6, 2) := by decide +kernel
theorem dX1_pairAsChosen_9 : decode cX1_pairAsChosen 9 = .ok (.iconst 2, 1) := by decide +kernel
theorem dX1_pairAsChosen_10 : decode cX1_pairAsChosen 10 = .ok (.iload 6, 2) := by decide +kernel
theorem dX1_pairAsChosen_12 : decode cX1_pairAsChosen 12 = .ok (.imul, 1) := by decide +kernel
theorem dX1_pairAsChosen_13 : decode cX1_pairAsChosen 13 = .ok (.iload_n 3, 1) := by decide +kernel
theorem dX1_pairAsChosen_14 : decode cX1_pairAsChosen 14 = .ok (.if_icmp .ge 106, 3) := by decide +kernel
theorem dX1_pairAsChosen_17 : decode cX1_pairAsChosen 17 = .ok (.iload 4, 2) := by decide +kernel
theorem dX1_pairAsChosen_19 : decode cX1_pairAsChosen 19 = .ok (.iconst 0, 1) := by decide +kernel
theorem dX1_pairAsChosen_20 : decode cX1_pairAsChosen 20 = .ok (.invokestatic 61, 3) := by decide +kernel
theorem dX1_pairAsChosen_23 : decode cX1_pairAsChosen 23 = .ok (.istore 7, 2) := by decide +kernel
theorem dX1_pairAsChosen_25 : decode cX1_pairAsChosen 25 = .ok (.iload 4, 2) := by decide +kernel
theorem dX1_pairAsChosen_27 : decode cX1_pairAsChosen 27 = .ok (.iconst 1, 1) := by decide +kernel
theorem dX1_pairAsChosen_28 : decode cX1_pairAsChosen 28 = .ok (.iload 7, 2) := by decide +kernel
theorem dX1_pairAsChosen_30 : decode cX1_pairAsChosen 30 = .ok (.ishl, 1) := by decide +kernel
theorem dX1_pairAsChosen_31 : decode cX1_pairAsChosen 31 = .ok (.ior, 1) := by decide +kernel
theorem dX1_pairAsChosen_32 : decode cX1_pairAsChosen 32 = .ok (.istore 4, 2) := by decide +kernel
theorem dX1_pairAsChosen_34 : decode cX1_pairAsChosen 34 = .ok (.iload 4, 2) := by decide +kernel
theorem dX1_pairAsChosen_36 : decode cX1_pairAsChosen 36 = .ok (.aload_n 0, 1) := by decide +kernel
theorem dX1_pairAsChosen_37 : decode cX1_pairAsChosen 37 = .ok (.getfield 12, 3) := by decide +kernel
theorem dX1_pairAsChosen_40 : decode cX1_pairAsChosen 40 = .ok (.iload 6, 2) := by decide +kernel
theorem dX1_pairAsChosen_42 : decode cX1_pairAsChosen 42 = .ok (.invokevirtual 65, 3) := by decide +kernel
theorem dX1_pairAsChosen_45 : decode cX1_pairAsChosen 45 = .ok (.invokestatic 61, 3) := by decide +kernel
theorem dX1_pairAsChosen_48 : decode cX1_pairAsChosen 48 = .ok (.istore 8, 2) := by decide +kernel
theorem dX1_pairAsChosen_50 : decode cX1_pairAsChosen 50 = .ok (.iload 4, 2) := by decide +kernel
theorem dX1_pairAsChosen_52 : decode cX1_pairAsChosen 52 = .ok (.iconst 1, 1) := by decide +kernel
theorem dX1_pairAsChosen_53 : decode cX1_pairAsChosen 53 = .ok (.iload 8, 2) := by decide +kernel
theorem dX1_pairAsChosen_55 : decode cX1_pairAsChosen 55 = .ok (.ishl, 1) := by decide +kernel
theorem dX1_pairAsChosen_56 : decode cX1_pairAsChosen 56 = .ok (.ior, 1) := by decide +kernel
theorem dX1_pairAsChosen_57 : decode cX1_pairAsChosen 57 = .ok (.istore 4, 2) := by decide +kernel
theorem dX1_pairAsChosen_59 : decode cX1_pairAsChosen 59 = .ok (.iload 8, 2) := by decide +kernel
theorem dX1_pairAsChosen_61 : decode cX1_pairAsChosen 61 = .ok (.iload_n 2, 1) := by decide +kernel
theorem dX1_pairAsChosen_62 : decode cX1_pairAsChosen 62 = .ok (.if_icmp .ge 41, 3) := by decide +kernel
theorem dX1_pairAsChosen_65 : decode cX1_pairAsChosen 65 = .ok (.aload_n 0, 1) := by decide +kernel
theorem dX1_pairAsChosen_66 : decode cX1_pairAsChosen 66 = .ok (.getfield 18, 3) := by decide +kernel
theorem dX1_pairAsChosen_69 : decode cX1_pairAsChosen 69 = .ok (.iload 7, 2) := by decide +kernel
theorem dX1_pairAsChosen_71 : decode cX1_pairAsChosen 71 = .ok (.iload 8, 2) := by decide +kernel
theorem dX1_pairAsChosen_73 : decode cX1_pairAsChosen 73 = .ok (.invokestatic 69, 3) := by decide +kernel
theorem dX1_pairAsChosen_76 : decode cX1_pairAsChosen 76 = .ok (.aload_n 0, 1) := by decide +kernel
theorem dX1_pairAsChosen_77 : decode cX1_pairAsChosen 77 = .ok (.getfield 18, 3) := by decide +kernel
theorem dX1_pairAsChosen_80 : decode cX1_pairAsChosen 80 = .ok (.iload 8, 2) := by decide +kernel
theorem dX1_pairAsChosen_82 : decode cX1_pairAsChosen 82 = .ok (.iload 7, 2) := by decide +kernel
theorem dX1_pairAsChosen_84 : decode cX1_pairAsChosen 84 = .ok (.invokestatic 69, 3) := by decide +kernel
theorem dX1_pairAsChosen_87 : decode cX1_pairAsChosen 87 = .ok (.iload 5, 2) := by decide +kernel
theorem dX1_pairAsChosen_89 : decode cX1_pairAsChosen 89 = .ok (.aload_n 1, 1) := by decide +kernel
theorem dX1_pairAsChosen_90 : decode cX1_pairAsChosen 90 = .ok (.iload 7, 2) := by decide +kernel
theorem dX1_pairAsChosen_92 : decode cX1_pairAsChosen 92 = .ok (.iload 8, 2) := by decide +kernel
theorem dX1_pairAsChosen_94 : decode cX1_pairAsChosen 94 = .ok (.invokevirtual 73, 3) := by decide +kernel
theorem dX1_pairAsChosen_97 : decode cX1_pairAsChosen 97 = .ok (.iadd, 1) := by decide +kernel
theorem dX1_pairAsChosen_98 : decode cX1_pairAsChosen 98 = .ok (.istore 5, 2) := by decide +kernel
theorem dX1_pairAsChosen_100 : decode cX1_pairAsChosen 100 = .ok (.goto 14, 3) := by decide +kernel
theorem dX1_pairAsChosen_103 : decode cX1_pairAsChosen 103 = .ok (.aload_n 0, 1) := by decide +kernel
theorem dX1_pairAsChosen_104 : decode cX1_pairAsChosen 104 = .ok (.getfield 18, 3) := by decide +kernel
theorem dX1_pairAsChosen_107 : decode cX1_pairAsChosen 107 = .ok (.iload 7, 2) := by decide +kernel
theorem dX1_pairAsChosen_109 : decode cX1_pairAsChosen 109 = .ok (.bipush (-4), 2) := by decide +kernel
theorem dX1_pairAsChosen_111 : decode cX1_pairAsChosen 111 = .ok (.invokestatic 69, 3) := by decide +kernel
theorem dX1_pairAsChosen_114 : decode cX1_pairAsChosen 114 = .ok (.iinc 6 1, 3) := by decide +kernel
theorem dX1_pairAsChosen_117 : decode cX1_pairAsChosen 117 = .ok (.goto (-108), 3) := by decide +kernel
theorem dX1_pairAsChosen_120 : decode cX1_pairAsChosen 120 = .ok (.iload 5, 2) := by decide +kernel
theorem dX1_pairAsChosen_122 : decode cX1_pairAsChosen 122 = .ok (.ireturn, 1) := by decide +kernel
theorem dX1_mateOf_0 : decode cX1_mateOf 0 = .ok (.aload_n 0, 1) := by decide +kernel
theorem dX1_mateOf_1 : decode cX1_mateOf 1 = .ok (.getfield 25, 3) := by decide +kernel
theorem dX1_mateOf_4 : decode cX1_mateOf 4 = .ok (.getfield 76, 3) := by decide +kernel
theorem dX1_mateOf_7 : decode cX1_mateOf 7 = .ok (.iload_n 1, 1) := by decide +kernel
theorem dX1_mateOf_8 : decode cX1_mateOf 8 = .ok (.invokestatic 79, 3) := by decide +kernel
theorem dX1_mateOf_11 : decode cX1_mateOf 11 = .ok (.ireturn, 1) := by decide +kernel
theorem dX2_init_0 : decode cX2_init 0 = .ok (.aload_n 0, 1) := by decide +kernel
theorem dX2_init_1 : decode cX2_init 1 = .ok (.invokespecial 3, 3) := by decide +kernel
theorem dX2_init_4 : decode cX2_init 4 = .ok (.aload_n 0, 1) := by decide +kernel
theorem dX2_init_5 : decode cX2_init 5 = .ok (.bipush 7, 2) := by decide +kernel
theorem dX2_init_7 : decode cX2_init 7 = .ok (.newarray .int, 2) := by decide +kernel
theorem dX2_init_9 : decode cX2_init 9 = .ok (.putfield 9, 3) := by decide +kernel
theorem dX2_init_12 : decode cX2_init 12 = .ok (.aload_n 0, 1) := by decide +kernel
theorem dX2_init_13 : decode cX2_init 13 = .ok (.bipush 7, 2) := by decide +kernel
theorem dX2_init_15 : decode cX2_init 15 = .ok (.newarray .int, 2) := by decide +kernel
theorem dX2_init_17 : decode cX2_init 17 = .ok (.putfield 15, 3) := by decide +kernel
theorem dX2_init_20 : decode cX2_init 20 = .ok (.aload_n 0, 1) := by decide +kernel
theorem dX2_init_21 : decode cX2_init 21 = .ok (.iconst 0, 1) := by decide +kernel
theorem dX2_init_22 : decode cX2_init 22 = .ok (.putfield 18, 3) := by decide +kernel
theorem dX2_init_25 : decode cX2_init 25 = .ok (.return_, 1) := by decide +kernel
theorem dX2_clear_0 : decode cX2_clear 0 = .ok (.aload_n 0, 1) := by decide +kernel
theorem dX2_clear_1 : decode cX2_clear 1 = .ok (.iconst 0, 1) := by decide +kernel
theorem dX2_clear_2 : decode cX2_clear 2 = .ok (.putfield 18, 3) := by decide +kernel
theorem dX2_clear_5 : decode cX2_clear 5 = .ok (.return_, 1) := by decide +kernel
theorem dX2_addBound_0 : decode cX2_addBound 0 = .ok (.aload_n 0, 1) := by decide +kernel
theorem dX2_addBound_1 : decode cX2_addBound 1 = .ok (.getfield 9, 3) := by decide +kernel
theorem dX2_addBound_4 : decode cX2_addBound 4 = .ok (.aload_n 0, 1) := by decide +kernel
theorem dX2_addBound_5 : decode cX2_addBound 5 = .ok (.getfield 18, 3) := by decide +kernel
theorem dX2_addBound_8 : decode cX2_addBound 8 = .ok (.iconst 0, 1) := by decide +kernel
theorem dX2_addBound_9 : decode cX2_addBound 9 = .ok (.invokestatic 22, 3) := by decide +kernel
theorem dX2_addBound_12 : decode cX2_addBound 12 = .ok (.aload_n 0, 1) := by decide +kernel
theorem dX2_addBound_13 : decode cX2_addBound 13 = .ok (.getfield 15, 3) := by decide +kernel
theorem dX2_addBound_16 : decode cX2_addBound 16 = .ok (.aload_n 0, 1) := by decide +kernel
theorem dX2_addBound_17 : decode cX2_addBound 17 = .ok (.getfield 18, 3) := by decide +kernel
theorem dX2_addBound_20 : decode cX2_addBound 20 = .ok (.iload_n 1, 1) := by decide +kernel
theorem dX2_addBound_21 : decode cX2_addBound 21 = .ok (.invokestatic 22, 3) := by decide +kernel
theorem dX2_addBound_24 : decode cX2_addBound 24 = .ok (.aload_n 0, 1) := by decide +kernel
theorem dX2_addBound_25 : decode cX2_addBound 25 = .ok (.dup, 1) := by decide +kernel
theorem dX2_addBound_26 : decode cX2_addBound 26 = .ok (.getfield 18, 3) := by decide +kernel
theorem dX2_addBound_29 : decode cX2_addBound 29 = .ok (.iconst 1, 1) := by decide +kernel
theorem dX2_addBound_30 : decode cX2_addBound 30 = .ok (.iadd, 1) := by decide +kernel
theorem dX2_addBound_31 : decode cX2_addBound 31 = .ok (.putfield 18, 3) := by decide +kernel
theorem dX2_addBound_34 : decode cX2_addBound 34 = .ok (.return_, 1) := by decide +kernel
theorem dX2_choice_0 : decode cX2_choice 0 = .ok (.aload_n 0, 1) := by decide +kernel
theorem dX2_choice_1 : decode cX2_choice 1 = .ok (.getfield 9, 3) := by decide +kernel
theorem dX2_choice_4 : decode cX2_choice 4 = .ok (.iload_n 1, 1) := by decide +kernel
theorem dX2_choice_5 : decode cX2_choice 5 = .ok (.invokestatic 26, 3) := by decide +kernel
theorem dX2_choice_8 : decode cX2_choice 8 = .ok (.ireturn, 1) := by decide +kernel
theorem dX2_advance_0 : decode cX2_advance 0 = .ok (.aload_n 0, 1) := by decide +kernel
theorem dX2_advance_1 : decode cX2_advance 1 = .ok (.getfield 18, 3) := by decide +kernel
theorem dX2_advance_4 : decode cX2_advance 4 = .ok (.iconst 1, 1) := by decide +kernel
theorem dX2_advance_5 : decode cX2_advance 5 = .ok (.isub, 1) := by decide +kernel
theorem dX2_advance_6 : decode cX2_advance 6 = .ok (.istore_n 1, 1) := by decide +kernel
theorem dX2_advance_7 : decode cX2_advance 7 = .ok (.iload_n 1, 1) := by decide +kernel
theorem dX2_advance_8 : decode cX2_advance 8 = .ok (.ifCond .lt 53, 3) := by decide +kernel
theorem dX2_advance_11 : decode cX2_advance 11 = .ok (.aload_n 0, 1) := by decide +kernel
theorem dX2_advance_12 : decode cX2_advance 12 = .ok (.iload_n 1, 1) := by decide +kernel
theorem dX2_advance_13 : decode cX2_advance 13 = .ok (.invokevirtual 30, 3) := by decide +kernel
theorem dX2_advance_16 : decode cX2_advance 16 = .ok (.iconst 1, 1) := by decide +kernel
theorem dX2_advance_17 : decode cX2_advance 17 = .ok (.iadd, 1) := by decide +kernel
theorem dX2_advance_18 : decode cX2_advance 18 = .ok (.aload_n 0, 1) := by decide +kernel
theorem dX2_advance_19 : decode cX2_advance 19 = .ok (.getfield 15, 3) := by decide +kernel
theorem dX2_advance_22 : decode cX2_advance 22 = .ok (.iload_n 1, 1) := by decide +kernel
theorem dX2_advance_23 : decode cX2_advance 23 = .ok (.invokestatic 26, 3) := by decide +kernel
theorem dX2_advance_26 : decode cX2_advance 26 = .ok (.if_icmp .ge 20, 3) := by decide +kernel
theorem dX2_advance_29 : decode cX2_advance 29 = .ok (.aload_n 0, 1) := by decide +kernel
theorem dX2_advance_30 : decode cX2_advance 30 = .ok (.getfield 9, 3) := by decide +kernel
theorem dX2_advance_33 : decode cX2_advance 33 = .ok (.iload_n 1, 1) := by decide +kernel
theorem dX2_advance_34 : decode cX2_advance 34 = .ok (.aload_n 0, 1) := by decide +kernel
theorem dX2_advance_35 : decode cX2_advance 35 = .ok (.iload_n 1, 1) := by decide +kernel
theorem dX2_advance_36 : decode cX2_advance 36 = .ok (.invokevirtual 30, 3) := by decide +kernel
theorem dX2_advance_39 : decode cX2_advance 39 = .ok (.iconst 1, 1) := by decide +kernel
theorem dX2_advance_40 : decode cX2_advance 40 = .ok (.iadd, 1) := by decide +kernel
theorem dX2_advance_41 : decode cX2_advance 41 = .ok (.invokestatic 22, 3) := by decide +kernel
theorem dX2_advance_44 : decode cX2_advance 44 = .ok (.iconst 1, 1) := by decide +kernel
theorem dX2_advance_45 : decode cX2_advance 45 = .ok (.ireturn, 1) := by decide +kernel
theorem dX2_advance_46 : decode cX2_advance 46 = .ok (.aload_n 0, 1) := by decide +kernel
theorem dX2_advance_47 : decode cX2_advance 47 = .ok (.getfield 9, 3) := by decide +kernel
theorem dX2_advance_50 : decode cX2_advance 50 = .ok (.iload_n 1, 1) := by decide +kernel
theorem dX2_advance_51 : decode cX2_advance 51 = .ok (.iconst 0, 1) := by decide +kernel
theorem dX2_advance_52 : decode cX2_advance 52 = .ok (.invokestatic 22, 3) := by decide +kernel
theorem dX2_advance_55 : decode cX2_advance 55 = .ok (.iinc 1 (-1), 3) := by decide +kernel
theorem dX2_advance_58 : decode cX2_advance 58 = .ok (.goto (-51), 3) := by decide +kernel
theorem dX2_advance_61 : decode cX2_advance 61 = .ok (.iconst 0, 1) := by decide +kernel
theorem dX2_advance_62 : decode cX2_advance 62 = .ok (.ireturn, 1) := by decide +kernel
theorem dX2_free_0 : decode cX2_free 0 = .ok (.iconst 0, 1) := by decide +kernel
theorem dX2_free_1 : decode cX2_free 1 = .ok (.istore_n 2, 1) := by decide +kernel
theorem dX2_free_2 : decode cX2_free 2 = .ok (.iconst 0, 1) := by decide +kernel
theorem dX2_free_3 : decode cX2_free 3 = .ok (.istore_n 3, 1) := by decide +kernel
theorem dX2_free_4 : decode cX2_free 4 = .ok (.iload_n 3, 1) := by decide +kernel
theorem dX2_free_5 : decode cX2_free 5 = .ok (.bipush 7, 2) := by decide +kernel
theorem dX2_free_7 : decode cX2_free 7 = .ok (.if_icmp .gt 27, 3) := by decide +kernel
theorem dX2_free_10 : decode cX2_free 10 = .ok (.iload_n 0, 1) := by decide +kernel
theorem dX2_free_11 : decode cX2_free 11 = .ok (.iload_n 3, 1) := by decide +kernel
theorem dX2_free_12 : decode cX2_free 12 = .ok (.ishr, 1) := by decide +kernel
theorem dX2_free_13 : decode cX2_free 13 = .ok (.iconst 1, 1) := by decide +kernel
theorem dX2_free_14 : decode cX2_free 14 = .ok (.iand, 1) := by decide +kernel
theorem dX2_free_15 : decode cX2_free 15 = .ok (.ifCond .ne 13, 3) := by decide +kernel
theorem dX2_free_18 : decode cX2_free 18 = .ok (.iload_n 2, 1) := by decide +kernel
theorem dX2_free_19 : decode cX2_free 19 = .ok (.iload_n 1, 1) := by decide +kernel
theorem dX2_free_20 : decode cX2_free 20 = .ok (.if_icmp .ne 5, 3) := by decide +kernel
theorem dX2_free_23 : decode cX2_free 23 = .ok (.iload_n 3, 1) := by decide +kernel
theorem dX2_free_24 : decode cX2_free 24 = .ok (.ireturn, 1) := by decide +kernel
theorem dX2_free_25 : decode cX2_free 25 = .ok (.iinc 2 1, 3) := by decide +kernel
theorem dX2_free_28 : decode cX2_free 28 = .ok (.iinc 3 1, 3) := by decide +kernel
theorem dX2_free_31 : decode cX2_free 31 = .ok (.goto (-27), 3) := by decide +kernel
theorem dX2_free_34 : decode cX2_free 34 = .ok (.bipush (-4), 2) := by decide +kernel
theorem dX2_free_36 : decode cX2_free 36 = .ok (.ireturn, 1) := by decide +kernel
theorem dX3_init_0 : decode cX3_init 0 = .ok (.aload_n 0, 1) := by decide +kernel
theorem dX3_init_1 : decode cX3_init 1 = .ok (.invokespecial 3, 3) := by decide +kernel
theorem dX3_init_4 : decode cX3_init 4 = .ok (.aload_n 0, 1) := by decide +kernel
theorem dX3_init_5 : decode cX3_init 5 = .ok (.bipush (-4), 2) := by decide +kernel
theorem dX3_init_7 : decode cX3_init 7 = .ok (.putfield 9, 3) := by decide +kernel
theorem dX3_init_10 : decode cX3_init 10 = .ok (.aload_n 0, 1) := by decide +kernel
theorem dX3_init_11 : decode cX3_init 11 = .ok (.bipush (-4), 2) := by decide +kernel
theorem dX3_init_13 : decode cX3_init 13 = .ok (.putfield 15, 3) := by decide +kernel
theorem dX3_init_16 : decode cX3_init 16 = .ok (.aload_n 0, 1) := by decide +kernel
theorem dX3_init_17 : decode cX3_init 17 = .ok (.bipush (-4), 2) := by decide +kernel
theorem dX3_init_19 : decode cX3_init 19 = .ok (.putfield 18, 3) := by decide +kernel
theorem dX3_init_22 : decode cX3_init 22 = .ok (.return_, 1) := by decide +kernel
theorem dX3_seek_0 : decode cX3_seek 0 = .ok (.aload_n 0, 1) := by decide +kernel
theorem dX3_seek_1 : decode cX3_seek 1 = .ok (.bipush (-4), 2) := by decide +kernel
theorem dX3_seek_3 : decode cX3_seek 3 = .ok (.putfield 9, 3) := by decide +kernel
theorem dX3_seek_6 : decode cX3_seek 6 = .ok (.aload_n 0, 1) := by decide +kernel
theorem dX3_seek_7 : decode cX3_seek 7 = .ok (.bipush (-4), 2) := by decide +kernel
theorem dX3_seek_9 : decode cX3_seek 9 = .ok (.putfield 15, 3) := by decide +kernel
theorem dX3_seek_12 : decode cX3_seek 12 = .ok (.aload_n 0, 1) := by decide +kernel
theorem dX3_seek_13 : decode cX3_seek 13 = .ok (.bipush (-4), 2) := by decide +kernel
theorem dX3_seek_15 : decode cX3_seek 15 = .ok (.putfield 18, 3) := by decide +kernel
theorem dX3_seek_18 : decode cX3_seek 18 = .ok (.aload_n 1, 1) := by decide +kernel
theorem dX3_seek_19 : decode cX3_seek 19 = .ok (.iload_n 2, 1) := by decide +kernel
theorem dX3_seek_20 : decode cX3_seek 20 = .ok (.invokevirtual 21, 3) := by decide +kernel
theorem dX3_seek_23 : decode cX3_seek 23 = .ok (.ifCond .eq 9, 3) := by decide +kernel
theorem dX3_seek_26 : decode cX3_seek 26 = .ok (.aload_n 0, 1) := by decide +kernel
theorem dX3_seek_27 : decode cX3_seek 27 = .ok (.iconst 0, 1) := by decide +kernel
theorem dX3_seek_28 : decode cX3_seek 28 = .ok (.putfield 9, 3) := by decide +kernel
theorem dX3_seek_31 : decode cX3_seek 31 = .ok (.return_, 1) := by decide +kernel
theorem dX3_seek_32 : decode cX3_seek 32 = .ok (.aload_n 0, 1) := by decide +kernel
theorem dX3_seek_33 : decode cX3_seek 33 = .ok (.aload_n 1, 1) := by decide +kernel
theorem dX3_seek_34 : decode cX3_seek 34 = .ok (.iload_n 2, 1) := by decide +kernel
theorem dX3_seek_35 : decode cX3_seek 35 = .ok (.invokestatic 27, 3) := by decide +kernel
theorem dX3_seek_38 : decode cX3_seek 38 = .ok (.putfield 15, 3) := by decide +kernel
theorem dX3_seek_41 : decode cX3_seek 41 = .ok (.aload_n 0, 1) := by decide +kernel
theorem dX3_seek_42 : decode cX3_seek 42 = .ok (.getfield 15, 3) := by decide +kernel
theorem dX3_seek_45 : decode cX3_seek 45 = .ok (.bipush (-4), 2) := by decide +kernel
theorem dX3_seek_47 : decode cX3_seek 47 = .ok (.if_icmp .eq 9, 3) := by decide +kernel
theorem dX3_seek_50 : decode cX3_seek 50 = .ok (.aload_n 0, 1) := by decide +kernel
theorem dX3_seek_51 : decode cX3_seek 51 = .ok (.iconst 1, 1) := by decide +kernel
theorem dX3_seek_52 : decode cX3_seek 52 = .ok (.putfield 9, 3) := by decide +kernel
theorem dX3_seek_55 : decode cX3_seek 55 = .ok (.return_, 1) := by decide +kernel
theorem dX3_seek_56 : decode cX3_seek 56 = .ok (.aload_n 0, 1) := by decide +kernel
theorem dX3_seek_57 : decode cX3_seek 57 = .ok (.aload_n 1, 1) := by decide +kernel
theorem dX3_seek_58 : decode cX3_seek 58 = .ok (.iload_n 2, 1) := by decide +kernel
theorem dX3_seek_59 : decode cX3_seek 59 = .ok (.invokevirtual 31, 3) := by decide +kernel
theorem dX3_seek_62 : decode cX3_seek 62 = .ok (.return_, 1) := by decide +kernel
theorem dX3_seekTwo_0 : decode cX3_seekTwo 0 = .ok (.aload_n 1, 1) := by decide +kernel
theorem dX3_seekTwo_1 : decode cX3_seekTwo 1 = .ok (.getfield 35, 3) := by decide +kernel
theorem dX3_seekTwo_4 : decode cX3_seekTwo 4 = .ok (.getfield 39, 3) := by decide +kernel
theorem dX3_seekTwo_7 : decode cX3_seekTwo 7 = .ok (.istore_n 3, 1) := by decide +kernel
theorem dX3_seekTwo_8 : decode cX3_seekTwo 8 = .ok (.iconst 0, 1) := by decide +kernel
theorem dX3_seekTwo_9 : decode cX3_seekTwo 9 = .ok (.istore 4, 2) := by decide +kernel
theorem dX3_seekTwo_11 : decode cX3_seekTwo 11 = .ok (.iload 4, 2) := by decide +kernel
theorem dX3_seekTwo_13 : decode cX3_seekTwo 13 = .ok (.iload_n 3, 1) := by decide +kernel
theorem dX3_seekTwo_14 : decode cX3_seekTwo 14 = .ok (.if_icmp .ge 84, 3) := by decide +kernel
theorem dX3_seekTwo_17 : decode cX3_seekTwo 17 = .ok (.iconst 0, 1) := by decide +kernel
theorem dX3_seekTwo_18 : decode cX3_seekTwo 18 = .ok (.istore 5, 2) := by decide +kernel
theorem dX3_seekTwo_20 : decode cX3_seekTwo 20 = .ok (.iload 5, 2) := by decide +kernel
theorem dX3_seekTwo_22 : decode cX3_seekTwo 22 = .ok (.iload_n 3, 1) := by decide +kernel
theorem dX3_seekTwo_23 : decode cX3_seekTwo 23 = .ok (.if_icmp .ge 69, 3) := by decide +kernel
theorem dX3_seekTwo_26 : decode cX3_seekTwo 26 = .ok (.iload 4, 2) := by decide +kernel
theorem dX3_seekTwo_28 : decode cX3_seekTwo 28 = .ok (.iload 5, 2) := by decide +kernel
theorem dX3_seekTwo_30 : decode cX3_seekTwo 30 = .ok (.if_icmp .eq 56, 3) := by decide +kernel
theorem dX3_seekTwo_33 : decode cX3_seekTwo 33 = .ok (.aload_n 0, 1) := by decide +kernel
theorem dX3_seekTwo_34 : decode cX3_seekTwo 34 = .ok (.getfield 18, 3) := by decide +kernel
theorem dX3_seekTwo_37 : decode cX3_seekTwo 37 = .ok (.bipush (-4), 2) := by decide +kernel
theorem dX3_seekTwo_39 : decode cX3_seekTwo 39 = .ok (.if_icmp .ne 47, 3) := by decide +kernel
theorem dX3_seekTwo_42 : decode cX3_seekTwo 42 = .ok (.aload_n 1, 1) := by decide +kernel
theorem dX3_seekTwo_43 : decode cX3_seekTwo 43 = .ok (.iload 5, 2) := by decide +kernel
theorem dX3_seekTwo_45 : decode cX3_seekTwo 45 = .ok (.invokevirtual 44, 3) := by decide +kernel
theorem dX3_seekTwo_48 : decode cX3_seekTwo 48 = .ok (.istore 6, 2) := by decide +kernel
theorem dX3_seekTwo_50 : decode cX3_seekTwo 50 = .ok (.aload_n 1, 1) := by decide +kernel
theorem dX3_seekTwo_51 : decode cX3_seekTwo 51 = .ok (.iload 4, 2) := by decide +kernel
theorem dX3_seekTwo_53 : decode cX3_seekTwo 53 = .ok (.iload 5, 2) := by decide +kernel
theorem dX3_seekTwo_55 : decode cX3_seekTwo 55 = .ok (.invokevirtual 48, 3) := by decide +kernel
theorem dX3_seekTwo_58 : decode cX3_seekTwo 58 = .ok (.aload_n 0, 1) := by decide +kernel
theorem dX3_seekTwo_59 : decode cX3_seekTwo 59 = .ok (.aload_n 1, 1) := by decide +kernel
theorem dX3_seekTwo_60 : decode cX3_seekTwo 60 = .ok (.iload_n 2, 1) := by decide +kernel
theorem dX3_seekTwo_61 : decode cX3_seekTwo 61 = .ok (.invokestatic 27, 3) := by decide +kernel
theorem dX3_seekTwo_64 : decode cX3_seekTwo 64 = .ok (.putfield 18, 3) := by decide +kernel
theorem dX3_seekTwo_67 : decode cX3_seekTwo 67 = .ok (.aload_n 1, 1) := by decide +kernel
theorem dX3_seekTwo_68 : decode cX3_seekTwo 68 = .ok (.iload 5, 2) := by decide +kernel
theorem dX3_seekTwo_70 : decode cX3_seekTwo 70 = .ok (.iload 6, 2) := by decide +kernel
theorem dX3_seekTwo_72 : decode cX3_seekTwo 72 = .ok (.invokevirtual 52, 3) := by decide +kernel
theorem dX3_seekTwo_75 : decode cX3_seekTwo 75 = .ok (.aload_n 0, 1) := by decide +kernel
theorem dX3_seekTwo_76 : decode cX3_seekTwo 76 = .ok (.iload 4, 2) := by decide +kernel
theorem dX3_seekTwo_78 : decode cX3_seekTwo 78 = .ok (.iload 5, 2) := by decide +kernel
theorem dX3_seekTwo_80 : decode cX3_seekTwo 80 = .ok (.invokestatic 55, 3) := by decide +kernel
theorem dX3_seekTwo_83 : decode cX3_seekTwo 83 = .ok (.putfield 15, 3) := by decide +kernel
theorem dX3_seekTwo_86 : decode cX3_seekTwo 86 = .ok (.iinc 5 1, 3) := by decide +kernel
theorem dX3_seekTwo_89 : decode cX3_seekTwo 89 = .ok (.goto (-69), 3) := by decide +kernel
theorem dX3_seekTwo_92 : decode cX3_seekTwo 92 = .ok (.iinc 4 1, 3) := by decide +kernel
theorem dX3_seekTwo_95 : decode cX3_seekTwo 95 = .ok (.goto (-84), 3) := by decide +kernel
theorem dX3_seekTwo_98 : decode cX3_seekTwo 98 = .ok (.aload_n 0, 1) := by decide +kernel
theorem dX3_seekTwo_99 : decode cX3_seekTwo 99 = .ok (.aload_n 0, 1) := by decide +kernel
theorem dX3_seekTwo_100 : decode cX3_seekTwo 100 = .ok (.getfield 18, 3) := by decide +kernel
theorem dX3_seekTwo_103 : decode cX3_seekTwo 103 = .ok (.bipush (-4), 2) := by decide +kernel
theorem dX3_seekTwo_105 : decode cX3_seekTwo 105 = .ok (.if_icmp .ne 8, 3) := by decide +kernel
theorem dX3_seekTwo_108 : decode cX3_seekTwo 108 = .ok (.bipush (-4), 2) := by decide +kernel
theorem dX3_seekTwo_110 : decode cX3_seekTwo 110 = .ok (.goto 4, 3) := by decide +kernel
theorem dX3_seekTwo_113 : decode cX3_seekTwo 113 = .ok (.iconst 2, 1) := by decide +kernel
theorem dX3_seekTwo_114 : decode cX3_seekTwo 114 = .ok (.putfield 9, 3) := by decide +kernel
theorem dX3_seekTwo_117 : decode cX3_seekTwo 117 = .ok (.return_, 1) := by decide +kernel
theorem dX3_oneLesson_0 : decode cX3_oneLesson 0 = .ok (.aload_n 0, 1) := by decide +kernel
theorem dX3_oneLesson_1 : decode cX3_oneLesson 1 = .ok (.getfield 35, 3) := by decide +kernel
theorem dX3_oneLesson_4 : decode cX3_oneLesson 4 = .ok (.getfield 39, 3) := by decide +kernel
theorem dX3_oneLesson_7 : decode cX3_oneLesson 7 = .ok (.istore_n 2, 1) := by decide +kernel
theorem dX3_oneLesson_8 : decode cX3_oneLesson 8 = .ok (.iconst 0, 1) := by decide +kernel
theorem dX3_oneLesson_9 : decode cX3_oneLesson 9 = .ok (.istore_n 3, 1) := by decide +kernel
theorem dX3_oneLesson_10 : decode cX3_oneLesson 10 = .ok (.iload_n 3, 1) := by decide +kernel
theorem dX3_oneLesson_11 : decode cX3_oneLesson 11 = .ok (.iload_n 2, 1) := by decide +kernel
theorem dX3_oneLesson_12 : decode cX3_oneLesson 12 = .ok (.if_icmp .ge 78, 3) := by decide +kernel
theorem dX3_oneLesson_15 : decode cX3_oneLesson 15 = .ok (.iconst 0, 1) := by decide +kernel
theorem dX3_oneLesson_16 : decode cX3_oneLesson 16 = .ok (.istore 4, 2) := by decide +kernel
theorem dX3_oneLesson_18 : decode cX3_oneLesson 18 = .ok (.iload 4, 2) := by decide +kernel
theorem dX3_oneLesson_20 : decode cX3_oneLesson 20 = .ok (.iload_n 2, 1) := by decide +kernel
theorem dX3_oneLesson_21 : decode cX3_oneLesson 21 = .ok (.if_icmp .ge 63, 3) := by decide +kernel
theorem dX3_oneLesson_24 : decode cX3_oneLesson 24 = .ok (.aload_n 0, 1) := by decide +kernel
theorem dX3_oneLesson_25 : decode cX3_oneLesson 25 = .ok (.iload 4, 2) := by decide +kernel
theorem dX3_oneLesson_27 : decode cX3_oneLesson 27 = .ok (.invokevirtual 44, 3) := by decide +kernel
theorem dX3_oneLesson_30 : decode cX3_oneLesson 30 = .ok (.istore 5, 2) := by decide +kernel
theorem dX3_oneLesson_32 : decode cX3_oneLesson 32 = .ok (.iload_n 3, 1) := by decide +kernel
theorem dX3_oneLesson_33 : decode cX3_oneLesson 33 = .ok (.iload 4, 2) := by decide +kernel
theorem dX3_oneLesson_35 : decode cX3_oneLesson 35 = .ok (.if_icmp .eq 10, 3) := by decide +kernel
theorem dX3_oneLesson_38 : decode cX3_oneLesson 38 = .ok (.aload_n 0, 1) := by decide +kernel
theorem dX3_oneLesson_39 : decode cX3_oneLesson 39 = .ok (.iload_n 3, 1) := by decide +kernel
theorem dX3_oneLesson_40 : decode cX3_oneLesson 40 = .ok (.iload 4, 2) := by decide +kernel
theorem dX3_oneLesson_42 : decode cX3_oneLesson 42 = .ok (.invokevirtual 48, 3) := by decide +kernel
theorem dX3_oneLesson_45 : decode cX3_oneLesson 45 = .ok (.aload_n 0, 1) := by decide +kernel
theorem dX3_oneLesson_46 : decode cX3_oneLesson 46 = .ok (.iload_n 1, 1) := by decide +kernel
theorem dX3_oneLesson_47 : decode cX3_oneLesson 47 = .ok (.invokevirtual 21, 3) := by decide +kernel
theorem dX3_oneLesson_50 : decode cX3_oneLesson 50 = .ok (.istore 6, 2) := by decide +kernel
theorem dX3_oneLesson_52 : decode cX3_oneLesson 52 = .ok (.aload_n 0, 1) := by decide +kernel
theorem dX3_oneLesson_53 : decode cX3_oneLesson 53 = .ok (.iload 4, 2) := by decide +kernel
theorem dX3_oneLesson_55 : decode cX3_oneLesson 55 = .ok (.iload 5, 2) := by decide +kernel
theorem dX3_oneLesson_57 : decode cX3_oneLesson 57 = .ok (.invokevirtual 52, 3) := by decide +kernel
theorem dX3_oneLesson_60 : decode cX3_oneLesson 60 = .ok (.iload_n 3, 1) := by decide +kernel
theorem dX3_oneLesson_61 : decode cX3_oneLesson 61 = .ok (.iload 4, 2) := by decide +kernel
theorem dX3_oneLesson_63 : decode cX3_oneLesson 63 = .ok (.if_icmp .eq 15, 3) := by decide +kernel
theorem dX3_oneLesson_66 : decode cX3_oneLesson 66 = .ok (.iload 6, 2) := by decide +kernel
theorem dX3_oneLesson_68 : decode cX3_oneLesson 68 = .ok (.ifCond .eq 10, 3) := by decide +kernel
theorem dX3_oneLesson_71 : decode cX3_oneLesson 71 = .ok (.iload_n 3, 1) := by decide +kernel
theorem dX3_oneLesson_72 : decode cX3_oneLesson 72 = .ok (.iload 4, 2) := by decide +kernel
theorem dX3_oneLesson_74 : decode cX3_oneLesson 74 = .ok (.invokestatic 55, 3) := by decide +kernel
theorem dX3_oneLesson_77 : decode cX3_oneLesson 77 = .ok (.ireturn, 1) := by decide +kernel
theorem dX3_oneLesson_78 : decode cX3_oneLesson 78 = .ok (.iinc 4 1, 3) := by decide +kernel
theorem dX3_oneLesson_81 : decode cX3_oneLesson 81 = .ok (.goto (-63), 3) := by decide +kernel
theorem dX3_oneLesson_84 : decode cX3_oneLesson 84 = .ok (.iinc 3 1, 3) := by decide +kernel
theorem dX3_oneLesson_87 : decode cX3_oneLesson 87 = .ok (.goto (-77), 3) := by decide +kernel
theorem dX3_oneLesson_90 : decode cX3_oneLesson 90 = .ok (.bipush (-4), 2) := by decide +kernel
theorem dX3_oneLesson_92 : decode cX3_oneLesson 92 = .ok (.ireturn, 1) := by decide +kernel
theorem dX4_init_0 : decode cX4_init 0 = .ok (.aload_n 0, 1) := by decide +kernel
theorem dX4_init_1 : decode cX4_init 1 = .ok (.invokespecial 3, 3) := by decide +kernel
theorem dX4_init_4 : decode cX4_init 4 = .ok (.aload_n 0, 1) := by decide +kernel
theorem dX4_init_5 : decode cX4_init 5 = .ok (.bipush 7, 2) := by decide +kernel
theorem dX4_init_7 : decode cX4_init 7 = .ok (.newarray .int, 2) := by decide +kernel
theorem dX4_init_9 : decode cX4_init 9 = .ok (.putfield 9, 3) := by decide +kernel
theorem dX4_init_12 : decode cX4_init 12 = .ok (.aload_n 0, 1) := by decide +kernel
theorem dX4_init_13 : decode cX4_init 13 = .ok (.bipush 7, 2) := by decide +kernel
theorem dX4_init_15 : decode cX4_init 15 = .ok (.newarray .int, 2) := by decide +kernel
theorem dX4_init_17 : decode cX4_init 17 = .ok (.putfield 15, 3) := by decide +kernel
theorem dX4_init_20 : decode cX4_init 20 = .ok (.aload_n 0, 1) := by decide +kernel
theorem dX4_init_21 : decode cX4_init 21 = .ok (.bipush 7, 2) := by decide +kernel
theorem dX4_init_23 : decode cX4_init 23 = .ok (.newarray .int, 2) := by decide +kernel
theorem dX4_init_25 : decode cX4_init 25 = .ok (.putfield 18, 3) := by decide +kernel
theorem dX4_init_28 : decode cX4_init 28 = .ok (.aload_n 0, 1) := by decide +kernel
theorem dX4_init_29 : decode cX4_init 29 = .ok (.bipush 7, 2) := by decide +kernel
theorem dX4_init_31 : decode cX4_init 31 = .ok (.newarray .int, 2) := by decide +kernel
theorem dX4_init_33 : decode cX4_init 33 = .ok (.putfield 21, 3) := by decide +kernel
theorem dX4_init_36 : decode cX4_init 36 = .ok (.aload_n 0, 1) := by decide +kernel
theorem dX4_init_37 : decode cX4_init 37 = .ok (.bipush 9, 2) := by decide +kernel
theorem dX4_init_39 : decode cX4_init 39 = .ok (.newarray .int, 2) := by decide +kernel
theorem dX4_init_41 : decode cX4_init 41 = .ok (.putfield 24, 3) := by decide +kernel
theorem dX4_init_44 : decode cX4_init 44 = .ok (.aload_n 0, 1) := by decide +kernel
theorem dX4_init_45 : decode cX4_init 45 = .ok (.bipush 9, 2) := by decide +kernel
theorem dX4_init_47 : decode cX4_init 47 = .ok (.newarray .int, 2) := by decide +kernel
theorem dX4_init_49 : decode cX4_init 49 = .ok (.putfield 27, 3) := by decide +kernel
theorem dX4_init_52 : decode cX4_init 52 = .ok (.aload_n 0, 1) := by decide +kernel
theorem dX4_init_53 : decode cX4_init 53 = .ok (.bipush 9, 2) := by decide +kernel
theorem dX4_init_55 : decode cX4_init 55 = .ok (.newarray .int, 2) := by decide +kernel
theorem dX4_init_57 : decode cX4_init 57 = .ok (.putfield 30, 3) := by decide +kernel
theorem dX4_init_60 : decode cX4_init 60 = .ok (.aload_n 0, 1) := by decide +kernel
theorem dX4_init_61 : decode cX4_init 61 = .ok (.iconst 0, 1) := by decide +kernel
theorem dX4_init_62 : decode cX4_init 62 = .ok (.putfield 33, 3) := by decide +kernel
theorem dX4_init_65 : decode cX4_init 65 = .ok (.aload_n 0, 1) := by decide +kernel
theorem dX4_init_66 : decode cX4_init 66 = .ok (.iconst 0, 1) := by decide +kernel
theorem dX4_init_67 : decode cX4_init 67 = .ok (.putfield 37, 3) := by decide +kernel
theorem dX4_init_70 : decode cX4_init 70 = .ok (.aload_n 0, 1) := by decide +kernel
theorem dX4_init_71 : decode cX4_init 71 = .ok (.iconst 0, 1) := by decide +kernel
theorem dX4_init_72 : decode cX4_init 72 = .ok (.putfield 40, 3) := by decide +kernel
theorem dX4_init_75 : decode cX4_init 75 = .ok (.aload_n 0, 1) := by decide +kernel
theorem dX4_init_76 : decode cX4_init 76 = .ok (.iconst 3, 1) := by decide +kernel
theorem dX4_init_77 : decode cX4_init 77 = .ok (.newarray .int, 2) := by decide +kernel
theorem dX4_init_79 : decode cX4_init 79 = .ok (.putfield 43, 3) := by decide +kernel
theorem dX4_init_82 : decode cX4_init 82 = .ok (.aload_n 0, 1) := by decide +kernel
theorem dX4_init_83 : decode cX4_init 83 = .ok (.iconst 0, 1) := by decide +kernel
theorem dX4_init_84 : decode cX4_init 84 = .ok (.putfield 46, 3) := by decide +kernel
theorem dX4_init_87 : decode cX4_init 87 = .ok (.return_, 1) := by decide +kernel
theorem dX4_readFrom_0 : decode cX4_readFrom 0 = .ok (.aload_n 0, 1) := by decide +kernel
theorem dX4_readFrom_1 : decode cX4_readFrom 1 = .ok (.iconst 0, 1) := by decide +kernel
theorem dX4_readFrom_2 : decode cX4_readFrom 2 = .ok (.putfield 33, 3) := by decide +kernel
theorem dX4_readFrom_5 : decode cX4_readFrom 5 = .ok (.aload_n 0, 1) := by decide +kernel
theorem dX4_readFrom_6 : decode cX4_readFrom 6 = .ok (.iconst 0, 1) := by decide +kernel
theorem dX4_readFrom_7 : decode cX4_readFrom 7 = .ok (.putfield 37, 3) := by decide +kernel
theorem dX4_readFrom_10 : decode cX4_readFrom 10 = .ok (.aload_n 0, 1) := by decide +kernel
theorem dX4_readFrom_11 : decode cX4_readFrom 11 = .ok (.iconst 0, 1) := by decide +kernel
theorem dX4_readFrom_12 : decode cX4_readFrom 12 = .ok (.putfield 40, 3) := by decide +kernel
theorem dX4_readFrom_15 : decode cX4_readFrom 15 = .ok (.iconst 0, 1) := by decide +kernel
theorem dX4_readFrom_16 : decode cX4_readFrom 16 = .ok (.istore_n 2, 1) := by decide +kernel
theorem dX4_readFrom_17 : decode cX4_readFrom 17 = .ok (.iconst 0, 1) := by decide +kernel
theorem dX4_readFrom_18 : decode cX4_readFrom 18 = .ok (.istore_n 3, 1) := by decide +kernel
theorem dX4_readFrom_19 : decode cX4_readFrom 19 = .ok (.iload_n 3, 1) := by decide +kernel
theorem dX4_readFrom_20 : decode cX4_readFrom 20 = .ok (.sipush 200, 3) := by decide +kernel
theorem dX4_readFrom_23 : decode cX4_readFrom 23 = .ok (.if_icmp .ge 51, 3) := by decide +kernel
theorem dX4_readFrom_26 : decode cX4_readFrom 26 = .ok (.iload_n 2, 1) := by decide +kernel
theorem dX4_readFrom_27 : decode cX4_readFrom 27 = .ok (.aload_n 1, 1) := by decide +kernel
theorem dX4_readFrom_28 : decode cX4_readFrom 28 = .ok (.getfield 49, 3) := by decide +kernel
theorem dX4_readFrom_31 : decode cX4_readFrom 31 = .ok (.if_icmp .ge 43, 3) := by decide +kernel
theorem dX4_readFrom_34 : decode cX4_readFrom 34 = .ok (.aload_n 0, 1) := by decide +kernel
theorem dX4_readFrom_35 : decode cX4_readFrom 35 = .ok (.aload_n 1, 1) := by decide +kernel
theorem dX4_readFrom_36 : decode cX4_readFrom 36 = .ok (.iload_n 2, 1) := by decide +kernel
theorem dX4_readFrom_37 : decode cX4_readFrom 37 = .ok (.iconst 1, 1) := by decide +kernel
theorem dX4_readFrom_38 : decode cX4_readFrom 38 = .ok (.iadd, 1) := by decide +kernel
theorem dX4_readFrom_39 : decode cX4_readFrom 39 = .ok (.invokevirtual 54, 3) := by decide +kernel
theorem dX4_readFrom_42 : decode cX4_readFrom 42 = .ok (.istore 4, 2) := by decide +kernel
theorem dX4_readFrom_44 : decode cX4_readFrom 44 = .ok (.iload 4, 2) := by decide +kernel
theorem dX4_readFrom_46 : decode cX4_readFrom 46 = .ok (.bipush (-4), 2) := by decide +kernel
theorem dX4_readFrom_48 : decode cX4_readFrom 48 = .ok (.if_icmp .eq 15, 3) := by decide +kernel
theorem dX4_readFrom_51 : decode cX4_readFrom 51 = .ok (.aload_n 0, 1) := by decide +kernel
theorem dX4_readFrom_52 : decode cX4_readFrom 52 = .ok (.aload_n 1, 1) := by decide +kernel
theorem dX4_readFrom_53 : decode cX4_readFrom 53 = .ok (.iload_n 2, 1) := by decide +kernel
theorem dX4_readFrom_54 : decode cX4_readFrom 54 = .ok (.invokevirtual 58, 3) := by decide +kernel
theorem dX4_readFrom_57 : decode cX4_readFrom 57 = .ok (.invokevirtual 62, 3) := by decide +kernel
theorem dX4_readFrom_60 : decode cX4_readFrom 60 = .ok (.ifCond .ne 5, 3) := by decide +kernel
theorem dX4_readFrom_63 : decode cX4_readFrom 63 = .ok (.iload_n 2, 1) := by decide +kernel
theorem dX4_readFrom_64 : decode cX4_readFrom 64 = .ok (.ireturn, 1) := by decide +kernel
theorem dX4_readFrom_65 : decode cX4_readFrom 65 = .ok (.iload 4, 2) := by decide +kernel
theorem dX4_readFrom_67 : decode cX4_readFrom 67 = .ok (.istore_n 2, 1) := by decide +kernel
theorem dX4_readFrom_68 : decode cX4_readFrom 68 = .ok (.iinc 3 1, 3) := by decide +kernel
theorem dX4_readFrom_71 : decode cX4_readFrom 71 = .ok (.goto (-52), 3) := by decide +kernel
theorem dX4_readFrom_74 : decode cX4_readFrom 74 = .ok (.bipush (-4), 2) := by decide +kernel
theorem dX4_readFrom_76 : decode cX4_readFrom 76 = .ok (.ireturn, 1) := by decide +kernel
theorem dX4_readNumbers_0 : decode cX4_readNumbers 0 = .ok (.aload_n 0, 1) := by decide +kernel
theorem dX4_readNumbers_1 : decode cX4_readNumbers 1 = .ok (.iconst 0, 1) := by decide +kernel
theorem dX4_readNumbers_2 : decode cX4_readNumbers 2 = .ok (.putfield 46, 3) := by decide +kernel
theorem dX4_readNumbers_5 : decode cX4_readNumbers 5 = .ok (.iconst 0, 1) := by decide +kernel
theorem dX4_readNumbers_6 : decode cX4_readNumbers 6 = .ok (.istore_n 3, 1) := by decide +kernel
theorem dX4_readNumbers_7 : decode cX4_readNumbers 7 = .ok (.iconst 0, 1) := by decide +kernel
theorem dX4_readNumbers_8 : decode cX4_readNumbers 8 = .ok (.istore 4, 2) := by decide +kernel
theorem dX4_readNumbers_10 : decode cX4_readNumbers 10 = .ok (.iload_n 2, 1) := by decide +kernel
theorem dX4_readNumbers_11 : decode cX4_readNumbers 11 = .ok (.istore 5, 2) := by decide +kernel
theorem dX4_readNumbers_13 : decode cX4_readNumbers 13 = .ok (.iload 5, 2) := by decide +kernel
theorem dX4_readNumbers_15 : decode cX4_readNumbers 15 = .ok (.aload_n 1, 1) := by decide +kernel
theorem dX4_readNumbers_16 : decode cX4_readNumbers 16 = .ok (.getfield 49, 3) := by decide +kernel
theorem dX4_readNumbers_19 : decode cX4_readNumbers 19 = .ok (.if_icmp .ge 134, 3) := by decide +kernel
theorem dX4_readNumbers_22 : decode cX4_readNumbers 22 = .ok (.aload_n 1, 1) := by decide +kernel
theorem dX4_readNumbers_23 : decode cX4_readNumbers 23 = .ok (.iload 5, 2) := by decide +kernel
theorem dX4_readNumbers_25 : decode cX4_readNumbers 25 = .ok (.invokevirtual 58, 3) := by decide +kernel
theorem dX4_readNumbers_28 : decode cX4_readNumbers 28 = .ok (.istore 6, 2) := by decide +kernel
theorem dX4_readNumbers_30 : decode cX4_readNumbers 30 = .ok (.iload 6, 2) := by decide +kernel
theorem dX4_readNumbers_32 : decode cX4_readNumbers 32 = .ok (.bipush 48, 2) := by decide +kernel
theorem dX4_readNumbers_34 : decode cX4_readNumbers 34 = .ok (.if_icmp .lt 29, 3) := by decide +kernel
theorem dX4_readNumbers_37 : decode cX4_readNumbers 37 = .ok (.iload 6, 2) := by decide +kernel
theorem dX4_readNumbers_39 : decode cX4_readNumbers 39 = .ok (.bipush 57, 2) := by decide +kernel
theorem dX4_readNumbers_41 : decode cX4_readNumbers 41 = .ok (.if_icmp .gt 22, 3) := by decide +kernel
theorem dX4_readNumbers_44 : decode cX4_readNumbers 44 = .ok (.bipush 10, 2) := by decide +kernel
theorem dX4_readNumbers_46 : decode cX4_readNumbers 46 = .ok (.iload 4, 2) := by decide +kernel
theorem dX4_readNumbers_48 : decode cX4_readNumbers 48 = .ok (.imul, 1) := by decide +kernel
theorem dX4_readNumbers_49 : decode cX4_readNumbers 49 = .ok (.iload 6, 2) := by decide +kernel
theorem dX4_readNumbers_51 : decode cX4_readNumbers 51 = .ok (.iadd, 1) := by decide +kernel
theorem dX4_readNumbers_52 : decode cX4_readNumbers 52 = .ok (.bipush 48, 2) := by decide +kernel
theorem dX4_readNumbers_54 : decode cX4_readNumbers 54 = .ok (.isub, 1) := by decide +kernel
theorem dX4_readNumbers_55 : decode cX4_readNumbers 55 = .ok (.istore 4, 2) := by decide +kernel
theorem dX4_readNumbers_57 : decode cX4_readNumbers 57 = .ok (.iinc 3 1, 3) := by decide +kernel
theorem dX4_readNumbers_60 : decode cX4_readNumbers 60 = .ok (.goto 67, 3) := by decide +kernel
theorem dX4_readNumbers_63 : decode cX4_readNumbers 63 = .ok (.iload 6, 2) := by decide +kernel
theorem dX4_readNumbers_65 : decode cX4_readNumbers 65 = .ok (.bipush 44, 2) := by decide +kernel
theorem dX4_readNumbers_67 : decode cX4_readNumbers 67 = .ok (.if_icmp .eq 10, 3) := by decide +kernel
theorem dX4_readNumbers_70 : decode cX4_readNumbers 70 = .ok (.iload 6, 2) := by decide +kernel
theorem dX4_readNumbers_72 : decode cX4_readNumbers 72 = .ok (.bipush 59, 2) := by decide +kernel
theorem dX4_readNumbers_74 : decode cX4_readNumbers 74 = .ok (.if_icmp .ne 50, 3) := by decide +kernel
theorem dX4_readNumbers_77 : decode cX4_readNumbers 77 = .ok (.iload_n 3, 1) := by decide +kernel
theorem dX4_readNumbers_78 : decode cX4_readNumbers 78 = .ok (.iconst 1, 1) := by decide +kernel
theorem dX4_readNumbers_79 : decode cX4_readNumbers 79 = .ok (.if_icmp .lt 11, 3) := by decide +kernel
theorem dX4_readNumbers_82 : decode cX4_readNumbers 82 = .ok (.aload_n 0, 1) := by decide +kernel
theorem dX4_readNumbers_83 : decode cX4_readNumbers 83 = .ok (.getfield 46, 3) := by decide +kernel
theorem dX4_readNumbers_86 : decode cX4_readNumbers 86 = .ok (.iconst 3, 1) := by decide +kernel
theorem dX4_readNumbers_87 : decode cX4_readNumbers 87 = .ok (.if_icmp .lt 6, 3) := by decide +kernel
theorem dX4_readNumbers_90 : decode cX4_readNumbers 90 = .ok (.bipush (-4), 2) := by decide +kernel
theorem dX4_readNumbers_92 : decode cX4_readNumbers 92 = .ok (.ireturn, 1) := by decide +kernel
theorem dX4_readNumbers_93 : decode cX4_readNumbers 93 = .ok (.aload_n 0, 1) := by decide +kernel
theorem dX4_readNumbers_94 : decode cX4_readNumbers 94 = .ok (.getfield 43, 3) := by decide +kernel
theorem dX4_readNumbers_97 : decode cX4_readNumbers 97 = .ok (.aload_n 0, 1) := by decide +kernel
theorem dX4_readNumbers_98 : decode cX4_readNumbers 98 = .ok (.getfield 46, 3) := by decide +kernel
theorem dX4_readNumbers_101 : decode cX4_readNumbers 101 = .ok (.iload 4, 2) := by decide +kernel
theorem dX4_readNumbers_103 : decode cX4_readNumbers 103 = .ok (.invokestatic 66, 3) := by decide +kernel
theorem dX4_readNumbers_106 : decode cX4_readNumbers 106 = .ok (.aload_n 0, 1) := by decide +kernel
theorem dX4_readNumbers_107 : decode cX4_readNumbers 107 = .ok (.dup, 1) := by decide +kernel
theorem dX4_readNumbers_108 : decode cX4_readNumbers 108 = .ok (.getfield 46, 3) := by decide +kernel
theorem dX4_readNumbers_111 : decode cX4_readNumbers 111 = .ok (.iconst 1, 1) := by decide +kernel
theorem dX4_readNumbers_112 : decode cX4_readNumbers 112 = .ok (.iadd, 1) := by decide +kernel
theorem dX4_readNumbers_113 : decode cX4_readNumbers 113 = .ok (.putfield 46, 3) := by decide +kernel
theorem dX4_readNumbers_116 : decode cX4_readNumbers 116 = .ok (.iconst 0, 1) := by decide +kernel
theorem dX4_readNumbers_117 : decode cX4_readNumbers 117 = .ok (.istore_n 3, 1) := by decide +kernel
theorem dX4_readNumbers_118 : decode cX4_readNumbers 118 = .ok (.iconst 0, 1) := by decide +kernel
theorem dX4_readNumbers_119 : decode cX4_readNumbers 119 = .ok (.istore 4, 2) := by decide +kernel
theorem dX4_readNumbers_121 : decode cX4_readNumbers 121 = .ok (.goto 6, 3) := by decide +kernel
theorem dX4_readNumbers_124 : decode cX4_readNumbers 124 = .ok (.bipush (-4), 2) := by decide +kernel
theorem dX4_readNumbers_126 : decode cX4_readNumbers 126 = .ok (.ireturn, 1) := by decide +kernel
theorem dX4_readNumbers_127 : decode cX4_readNumbers 127 = .ok (.iload_n 3, 1) := by decide +kernel
theorem dX4_readNumbers_128 : decode cX4_readNumbers 128 = .ok (.iconst 3, 1) := by decide +kernel
theorem dX4_readNumbers_129 : decode cX4_readNumbers 129 = .ok (.if_icmp .le 6, 3) := by decide +kernel
theorem dX4_readNumbers_132 : decode cX4_readNumbers 132 = .ok (.bipush (-4), 2) := by decide +kernel
theorem dX4_readNumbers_134 : decode cX4_readNumbers 134 = .ok (.ireturn, 1) := by decide +kernel
theorem dX4_readNumbers_135 : decode cX4_readNumbers 135 = .ok (.iload 6, 2) := by decide +kernel
theorem dX4_readNumbers_137 : decode cX4_readNumbers 137 = .ok (.bipush 59, 2) := by decide +kernel
theorem dX4_readNumbers_139 : decode cX4_readNumbers 139 = .ok (.if_icmp .ne 8, 3) := by decide +kernel
theorem dX4_readNumbers_142 : decode cX4_readNumbers 142 = .ok (.iload 5, 2) := by decide +kernel
theorem dX4_readNumbers_144 : decode cX4_readNumbers 144 = .ok (.iconst 1, 1) := by decide +kernel
theorem dX4_readNumbers_145 : decode cX4_readNumbers 145 = .ok (.iadd, 1) := by decide +kernel
theorem dX4_readNumbers_146 : decode cX4_readNumbers 146 = .ok (.ireturn, 1) := by decide +kernel
theorem dX4_readNumbers_147 : decode cX4_readNumbers 147 = .ok (.iinc 5 1, 3) := by decide +kernel
theorem dX4_readNumbers_150 : decode cX4_readNumbers 150 = .ok (.goto (-137), 3) := by decide +kernel
theorem dX4_readNumbers_153 : decode cX4_readNumbers 153 = .ok (.bipush (-4), 2) := by decide +kernel
theorem dX4_readNumbers_155 : decode cX4_readNumbers 155 = .ok (.ireturn, 1) := by decide +kernel
theorem dX4_takeItem_0 : decode cX4_takeItem 0 = .ok (.aload_n 0, 1) := by decide +kernel
theorem dX4_takeItem_1 : decode cX4_takeItem 1 = .ok (.getfield 43, 3) := by decide +kernel
theorem dX4_takeItem_4 : decode cX4_takeItem 4 = .ok (.iconst 0, 1) := by decide +kernel
theorem dX4_takeItem_5 : decode cX4_takeItem 5 = .ok (.invokestatic 70, 3) := by decide +kernel
theorem dX4_takeItem_8 : decode cX4_takeItem 8 = .ok (.istore_n 2, 1) := by decide +kernel
theorem dX4_takeItem_9 : decode cX4_takeItem 9 = .ok (.aload_n 0, 1) := by decide +kernel
theorem dX4_takeItem_10 : decode cX4_takeItem 10 = .ok (.getfield 43, 3) := by decide +kernel
theorem dX4_takeItem_13 : decode cX4_takeItem 13 = .ok (.iconst 1, 1) := by decide +kernel
theorem dX4_takeItem_14 : decode cX4_takeItem 14 = .ok (.invokestatic 70, 3) := by decide +kernel
theorem dX4_takeItem_17 : decode cX4_takeItem 17 = .ok (.istore_n 3, 1) := by decide +kernel
theorem dX4_takeItem_18 : decode cX4_takeItem 18 = .ok (.aload_n 0, 1) := by decide +kernel
theorem dX4_takeItem_19 : decode cX4_takeItem 19 = .ok (.getfield 43, 3) := by decide +kernel
theorem dX4_takeItem_22 : decode cX4_takeItem 22 = .ok (.iconst 2, 1) := by decide +kernel
theorem dX4_takeItem_23 : decode cX4_takeItem 23 = .ok (.invokestatic 70, 3) := by decide +kernel
theorem dX4_takeItem_26 : decode cX4_takeItem 26 = .ok (.istore 4, 2) := by decide +kernel
theorem dX4_takeItem_28 : decode cX4_takeItem 28 = .ok (.iload_n 1, 1) := by decide +kernel
theorem dX4_takeItem_29 : decode cX4_takeItem 29 = .ok (.lookupswitch 108 #[(99, 35), (108, 83), (119, 60)], 35) := by decide +kernel
theorem dX4_takeItem_64 : decode cX4_takeItem 64 = .ok (.aload_n 0, 1) := by decide +kernel
theorem dX4_takeItem_65 : decode cX4_takeItem 65 = .ok (.getfield 46, 3) := by decide +kernel
theorem dX4_takeItem_68 : decode cX4_takeItem 68 = .ok (.iconst 3, 1) := by decide +kernel
theorem dX4_takeItem_69 : decode cX4_takeItem 69 = .ok (.if_icmp .ne 18, 3) := by decide +kernel
theorem dX4_takeItem_72 : decode cX4_takeItem 72 = .ok (.aload_n 0, 1) := by decide +kernel
theorem dX4_takeItem_73 : decode cX4_takeItem 73 = .ok (.iload_n 2, 1) := by decide +kernel
theorem dX4_takeItem_74 : decode cX4_takeItem 74 = .ok (.iload_n 3, 1) := by decide +kernel
theorem dX4_takeItem_75 : decode cX4_takeItem 75 = .ok (.iload 4, 2) := by decide +kernel
theorem dX4_takeItem_77 : decode cX4_takeItem 77 = .ok (.invokevirtual 74, 3) := by decide +kernel
theorem dX4_takeItem_80 : decode cX4_takeItem 80 = .ok (.ifCond .eq 7, 3) := by decide +kernel
theorem dX4_takeItem_83 : decode cX4_takeItem 83 = .ok (.iconst 1, 1) := by decide +kernel
theorem dX4_takeItem_84 : decode cX4_takeItem 84 = .ok (.goto 4, 3) := by decide +kernel
theorem dX4_takeItem_87 : decode cX4_takeItem 87 = .ok (.iconst 0, 1) := by decide +kernel
theorem dX4_takeItem_88 : decode cX4_takeItem 88 = .ok (.ireturn, 1) := by decide +kernel
theorem dX4_takeItem_89 : decode cX4_takeItem 89 = .ok (.aload_n 0, 1) := by decide +kernel
theorem dX4_takeItem_90 : decode cX4_takeItem 90 = .ok (.getfield 46, 3) := by decide +kernel
theorem dX4_takeItem_93 : decode cX4_takeItem 93 = .ok (.iconst 2, 1) := by decide +kernel
theorem dX4_takeItem_94 : decode cX4_takeItem 94 = .ok (.if_icmp .ne 16, 3) := by decide +kernel
theorem dX4_takeItem_97 : decode cX4_takeItem 97 = .ok (.aload_n 0, 1) := by decide +kernel
theorem dX4_takeItem_98 : decode cX4_takeItem 98 = .ok (.iload_n 2, 1) := by decide +kernel
theorem dX4_takeItem_99 : decode cX4_takeItem 99 = .ok (.iload_n 3, 1) := by decide +kernel
theorem dX4_takeItem_100 : decode cX4_takeItem 100 = .ok (.invokevirtual 78, 3) := by decide +kernel
theorem dX4_takeItem_103 : decode cX4_takeItem 103 = .ok (.ifCond .eq 7, 3) := by decide +kernel
theorem dX4_takeItem_106 : decode cX4_takeItem 106 = .ok (.iconst 1, 1) := by decide +kernel
theorem dX4_takeItem_107 : decode cX4_takeItem 107 = .ok (.goto 4, 3) := by decide +kernel
theorem dX4_takeItem_110 : decode cX4_takeItem 110 = .ok (.iconst 0, 1) := by decide +kernel
theorem dX4_takeItem_111 : decode cX4_takeItem 111 = .ok (.ireturn, 1) := by decide +kernel
theorem dX4_takeItem_112 : decode cX4_takeItem 112 = .ok (.aload_n 0, 1) := by decide +kernel
theorem dX4_takeItem_113 : decode cX4_takeItem 113 = .ok (.getfield 46, 3) := by decide +kernel
theorem dX4_takeItem_116 : decode cX4_takeItem 116 = .ok (.iconst 3, 1) := by decide +kernel
theorem dX4_takeItem_117 : decode cX4_takeItem 117 = .ok (.if_icmp .ne 18, 3) := by decide +kernel
theorem dX4_takeItem_120 : decode cX4_takeItem 120 = .ok (.aload_n 0, 1) := by decide +kernel
theorem dX4_takeItem_121 : decode cX4_takeItem 121 = .ok (.iload_n 2, 1) := by decide +kernel
theorem dX4_takeItem_122 : decode cX4_takeItem 122 = .ok (.iload_n 3, 1) := by decide +kernel
theorem dX4_takeItem_123 : decode cX4_takeItem 123 = .ok (.iload 4, 2) := by decide +kernel
theorem dX4_takeItem_125 : decode cX4_takeItem 125 = .ok (.invokevirtual 82, 3) := by decide +kernel
theorem dX4_takeItem_128 : decode cX4_takeItem 128 = .ok (.ifCond .eq 7, 3) := by decide +kernel
theorem dX4_takeItem_131 : decode cX4_takeItem 131 = .ok (.iconst 1, 1) := by decide +kernel
theorem dX4_takeItem_132 : decode cX4_takeItem 132 = .ok (.goto 4, 3) := by decide +kernel
theorem dX4_takeItem_135 : decode cX4_takeItem 135 = .ok (.iconst 0, 1) := by decide +kernel
theorem dX4_takeItem_136 : decode cX4_takeItem 136 = .ok (.ireturn, 1) := by decide +kernel
theorem dX4_takeItem_137 : decode cX4_takeItem 137 = .ok (.iconst 0, 1) := by decide +kernel
theorem dX4_takeItem_138 : decode cX4_takeItem 138 = .ok (.ireturn, 1) := by decide +kernel
theorem dX4_takeClock_0 : decode cX4_takeClock 0 = .ok (.aload_n 0, 1) := by decide +kernel
theorem dX4_takeClock_1 : decode cX4_takeClock 1 = .ok (.getfield 33, 3) := by decide +kernel
theorem dX4_takeClock_4 : decode cX4_takeClock 4 = .ok (.bipush 7, 2) := by decide +kernel
theorem dX4_takeClock_6 : decode cX4_takeClock 6 = .ok (.if_icmp .ge 21, 3) := by decide +kernel
theorem dX4_takeClock_9 : decode cX4_takeClock 9 = .ok (.iload_n 1, 1) := by decide +kernel
theorem dX4_takeClock_10 : decode cX4_takeClock 10 = .ok (.iconst 4, 1) := by decide +kernel
theorem dX4_takeClock_11 : decode cX4_takeClock 11 = .ok (.if_icmp .gt 16, 3) := by decide +kernel
theorem dX4_takeClock_14 : decode cX4_takeClock 14 = .ok (.iload_n 2, 1) := by decide +kernel
theorem dX4_takeClock_15 : decode cX4_takeClock 15 = .ok (.sipush 200, 3) := by decide +kernel
theorem dX4_takeClock_18 : decode cX4_takeClock 18 = .ok (.if_icmp .gt 9, 3) := by decide +kernel
theorem dX4_takeClock_21 : decode cX4_takeClock 21 = .ok (.iload_n 3, 1) := by decide +kernel
theorem dX4_takeClock_22 : decode cX4_takeClock 22 = .ok (.bipush 20, 2) := by decide +kernel
theorem dX4_takeClock_24 : decode cX4_takeClock 24 = .ok (.if_icmp .le 5, 3) := by decide +kernel
theorem dX4_takeClock_27 : decode cX4_takeClock 27 = .ok (.iconst 0, 1) := by decide +kernel
theorem dX4_takeClock_28 : decode cX4_takeClock 28 = .ok (.ireturn, 1) := by decide +kernel
theorem dX4_takeClock_29 : decode cX4_takeClock 29 = .ok (.aload_n 0, 1) := by decide +kernel
theorem dX4_takeClock_30 : decode cX4_takeClock 30 = .ok (.getfield 9, 3) := by decide +kernel
theorem dX4_takeClock_33 : decode cX4_takeClock 33 = .ok (.aload_n 0, 1) := by decide +kernel
theorem dX4_takeClock_34 : decode cX4_takeClock 34 = .ok (.getfield 33, 3) := by decide +kernel
theorem dX4_takeClock_37 : decode cX4_takeClock 37 = .ok (.iload_n 1, 1) := by decide +kernel
theorem dX4_takeClock_38 : decode cX4_takeClock 38 = .ok (.invokestatic 66, 3) := by decide +kernel
theorem dX4_takeClock_41 : decode cX4_takeClock 41 = .ok (.aload_n 0, 1) := by decide +kernel
theorem dX4_takeClock_42 : decode cX4_takeClock 42 = .ok (.getfield 15, 3) := by decide +kernel
theorem dX4_takeClock_45 : decode cX4_takeClock 45 = .ok (.aload_n 0, 1) := by decide +kernel
theorem dX4_takeClock_46 : decode cX4_takeClock 46 = .ok (.getfield 33, 3) := by decide +kernel
theorem dX4_takeClock_49 : decode cX4_takeClock 49 = .ok (.iload_n 2, 1) := by decide +kernel
theorem dX4_takeClock_50 : decode cX4_takeClock 50 = .ok (.bipush 100, 2) := by decide +kernel
theorem dX4_takeClock_52 : decode cX4_takeClock 52 = .ok (.isub, 1) := by decide +kernel
theorem dX4_takeClock_53 : decode cX4_takeClock 53 = .ok (.invokestatic 66, 3) := by decide +kernel
theorem dX4_takeClock_56 : decode cX4_takeClock 56 = .ok (.aload_n 0, 1) := by decide +kernel
theorem dX4_takeClock_57 : decode cX4_takeClock 57 = .ok (.getfield 18, 3) := by decide +kernel
theorem dX4_takeClock_60 : decode cX4_takeClock 60 = .ok (.aload_n 0, 1) := by decide +kernel
theorem dX4_takeClock_61 : decode cX4_takeClock 61 = .ok (.getfield 33, 3) := by decide +kernel
theorem dX4_takeClock_64 : decode cX4_takeClock 64 = .ok (.iload_n 3, 1) := by decide +kernel
theorem dX4_takeClock_65 : decode cX4_takeClock 65 = .ok (.bipush 10, 2) := by decide +kernel
theorem dX4_takeClock_67 : decode cX4_takeClock 67 = .ok (.isub, 1) := by decide +kernel
theorem dX4_takeClock_68 : decode cX4_takeClock 68 = .ok (.invokestatic 66, 3) := by decide +kernel
theorem dX4_takeClock_71 : decode cX4_takeClock 71 = .ok (.aload_n 0, 1) := by decide +kernel
theorem dX4_takeClock_72 : decode cX4_takeClock 72 = .ok (.getfield 21, 3) := by decide +kernel
theorem dX4_takeClock_75 : decode cX4_takeClock 75 = .ok (.aload_n 0, 1) := by decide +kernel
theorem dX4_takeClock_76 : decode cX4_takeClock 76 = .ok (.getfield 33, 3) := by decide +kernel
theorem dX4_takeClock_79 : decode cX4_takeClock 79 = .ok (.iconst 0, 1) := by decide +kernel
theorem dX4_takeClock_80 : decode cX4_takeClock 80 = .ok (.invokestatic 66, 3) := by decide +kernel
theorem dX4_takeClock_83 : decode cX4_takeClock 83 = .ok (.aload_n 0, 1) := by decide +kernel
theorem dX4_takeClock_84 : decode cX4_takeClock 84 = .ok (.dup, 1) := by decide +kernel
theorem dX4_takeClock_85 : decode cX4_takeClock 85 = .ok (.getfield 33, 3) := by decide +kernel
theorem dX4_takeClock_88 : decode cX4_takeClock 88 = .ok (.iconst 1, 1) := by decide +kernel
theorem dX4_takeClock_89 : decode cX4_takeClock 89 = .ok (.iadd, 1) := by decide +kernel
theorem dX4_takeClock_90 : decode cX4_takeClock 90 = .ok (.putfield 33, 3) := by decide +kernel
theorem dX4_takeClock_93 : decode cX4_takeClock 93 = .ok (.iconst 1, 1) := by decide +kernel
theorem dX4_takeClock_94 : decode cX4_takeClock 94 = .ok (.ireturn, 1) := by decide +kernel
theorem dX4_takeWall_0 : decode cX4_takeWall 0 = .ok (.aload_n 0, 1) := by decide +kernel
theorem dX4_takeWall_1 : decode cX4_takeWall 1 = .ok (.iload_n 1, 1) := by decide +kernel
theorem dX4_takeWall_2 : decode cX4_takeWall 2 = .ok (.iload_n 2, 1) := by decide +kernel
theorem dX4_takeWall_3 : decode cX4_takeWall 3 = .ok (.invokevirtual 85, 3) := by decide +kernel
theorem dX4_takeWall_6 : decode cX4_takeWall 6 = .ok (.ifCond .ne 5, 3) := by decide +kernel
theorem dX4_takeWall_9 : decode cX4_takeWall 9 = .ok (.iconst 0, 1) := by decide +kernel
theorem dX4_takeWall_10 : decode cX4_takeWall 10 = .ok (.ireturn, 1) := by decide +kernel
theorem dX4_takeWall_11 : decode cX4_takeWall 11 = .ok (.aload_n 0, 1) := by decide +kernel
theorem dX4_takeWall_12 : decode cX4_takeWall 12 = .ok (.iload_n 1, 1) := by decide +kernel
theorem dX4_takeWall_13 : decode cX4_takeWall 13 = .ok (.iload_n 2, 1) := by decide +kernel
theorem dX4_takeWall_14 : decode cX4_takeWall 14 = .ok (.invokevirtual 88, 3) := by decide +kernel
theorem dX4_takeWall_17 : decode cX4_takeWall 17 = .ok (.ifCond .ne 53, 3) := by decide +kernel
theorem dX4_takeWall_20 : decode cX4_takeWall 20 = .ok (.aload_n 0, 1) := by decide +kernel
theorem dX4_takeWall_21 : decode cX4_takeWall 21 = .ok (.getfield 21, 3) := by decide +kernel
theorem dX4_takeWall_24 : decode cX4_takeWall 24 = .ok (.iload_n 1, 1) := by decide +kernel
theorem dX4_takeWall_25 : decode cX4_takeWall 25 = .ok (.aload_n 0, 1) := by decide +kernel
theorem dX4_takeWall_26 : decode cX4_takeWall 26 = .ok (.getfield 21, 3) := by decide +kernel
theorem dX4_takeWall_29 : decode cX4_takeWall 29 = .ok (.iload_n 1, 1) := by decide +kernel
theorem dX4_takeWall_30 : decode cX4_takeWall 30 = .ok (.invokestatic 70, 3) := by decide +kernel
theorem dX4_takeWall_33 : decode cX4_takeWall 33 = .ok (.iconst 1, 1) := by decide +kernel
theorem dX4_takeWall_34 : decode cX4_takeWall 34 = .ok (.iload_n 2, 1) := by decide +kernel
theorem dX4_takeWall_35 : decode cX4_takeWall 35 = .ok (.ishl, 1) := by decide +kernel
theorem dX4_takeWall_36 : decode cX4_takeWall 36 = .ok (.ior, 1) := by decide +kernel
theorem dX4_takeWall_37 : decode cX4_takeWall 37 = .ok (.invokestatic 66, 3) := by decide +kernel
theorem dX4_takeWall_40 : decode cX4_takeWall 40 = .ok (.aload_n 0, 1) := by decide +kernel
theorem dX4_takeWall_41 : decode cX4_takeWall 41 = .ok (.getfield 21, 3) := by decide +kernel
theorem dX4_takeWall_44 : decode cX4_takeWall 44 = .ok (.iload_n 2, 1) := by decide +kernel
theorem dX4_takeWall_45 : decode cX4_takeWall 45 = .ok (.aload_n 0, 1) := by decide +kernel
theorem dX4_takeWall_46 : decode cX4_takeWall 46 = .ok (.getfield 21, 3) := by decide +kernel
theorem dX4_takeWall_49 : decode cX4_takeWall 49 = .ok (.iload_n 2, 1) := by decide +kernel
theorem dX4_takeWall_50 : decode cX4_takeWall 50 = .ok (.invokestatic 70, 3) := by decide +kernel
theorem dX4_takeWall_53 : decode cX4_takeWall 53 = .ok (.iconst 1, 1) := by decide +kernel
theorem dX4_takeWall_54 : decode cX4_takeWall 54 = .ok (.iload_n 1, 1) := by decide +kernel
theorem dX4_takeWall_55 : decode cX4_takeWall 55 = .ok (.ishl, 1) := by decide +kernel
theorem dX4_takeWall_56 : decode cX4_takeWall 56 = .ok (.ior, 1) := by decide +kernel
theorem dX4_takeWall_57 : decode cX4_takeWall 57 = .ok (.invokestatic 66, 3) := by decide +kernel
theorem dX4_takeWall_60 : decode cX4_takeWall 60 = .ok (.aload_n 0, 1) := by decide +kernel
theorem dX4_takeWall_61 : decode cX4_takeWall 61 = .ok (.dup, 1) := by decide +kernel
theorem dX4_takeWall_62 : decode cX4_takeWall 62 = .ok (.getfield 37, 3) := by decide +kernel
theorem dX4_takeWall_65 : decode cX4_takeWall 65 = .ok (.iconst 1, 1) := by decide +kernel
theorem dX4_takeWall_66 : decode cX4_takeWall 66 = .ok (.iadd, 1) := by decide +kernel
theorem dX4_takeWall_67 : decode cX4_takeWall 67 = .ok (.putfield 37, 3) := by decide +kernel
theorem dX4_takeWall_70 : decode cX4_takeWall 70 = .ok (.iconst 1, 1) := by decide +kernel
theorem dX4_takeWall_71 : decode cX4_takeWall 71 = .ok (.ireturn, 1) := by decide +kernel
theorem dX4_takeLesson_0 : decode cX4_takeLesson 0 = .ok (.aload_n 0, 1) := by decide +kernel
theorem dX4_takeLesson_1 : decode cX4_takeLesson 1 = .ok (.getfield 40, 3) := by decide +kernel
theorem dX4_takeLesson_4 : decode cX4_takeLesson 4 = .ok (.bipush 9, 2) := by decide +kernel
theorem dX4_takeLesson_6 : decode cX4_takeLesson 6 = .ok (.if_icmp .ge 18, 3) := by decide +kernel
theorem dX4_takeLesson_9 : decode cX4_takeLesson 9 = .ok (.iload_n 1, 1) := by decide +kernel
theorem dX4_takeLesson_10 : decode cX4_takeLesson 10 = .ok (.bipush 14, 2) := by decide +kernel
theorem dX4_takeLesson_12 : decode cX4_takeLesson 12 = .ok (.if_icmp .ge 12, 3) := by decide +kernel
theorem dX4_takeLesson_15 : decode cX4_takeLesson 15 = .ok (.aload_n 0, 1) := by decide +kernel
theorem dX4_takeLesson_16 : decode cX4_takeLesson 16 = .ok (.iload_n 2, 1) := by decide +kernel
theorem dX4_takeLesson_17 : decode cX4_takeLesson 17 = .ok (.iload_n 3, 1) := by decide +kernel
theorem dX4_takeLesson_18 : decode cX4_takeLesson 18 = .ok (.invokevirtual 85, 3) := by decide +kernel
theorem dX4_takeLesson_21 : decode cX4_takeLesson 21 = .ok (.ifCond .ne 5, 3) := by decide +kernel
theorem dX4_takeLesson_24 : decode cX4_takeLesson 24 = .ok (.iconst 0, 1) := by decide +kernel
theorem dX4_takeLesson_25 : decode cX4_takeLesson 25 = .ok (.ireturn, 1) := by decide +kernel
theorem dX4_takeLesson_26 : decode cX4_takeLesson 26 = .ok (.aload_n 0, 1) := by decide +kernel
theorem dX4_takeLesson_27 : decode cX4_takeLesson 27 = .ok (.getfield 24, 3) := by decide +kernel
theorem dX4_takeLesson_30 : decode cX4_takeLesson 30 = .ok (.aload_n 0, 1) := by decide +kernel
theorem dX4_takeLesson_31 : decode cX4_takeLesson 31 = .ok (.getfield 40, 3) := by decide +kernel
theorem dX4_takeLesson_34 : decode cX4_takeLesson 34 = .ok (.iload_n 1, 1) := by decide +kernel
theorem dX4_takeLesson_35 : decode cX4_takeLesson 35 = .ok (.invokestatic 66, 3) := by decide +kernel
theorem dX4_takeLesson_38 : decode cX4_takeLesson 38 = .ok (.aload_n 0, 1) := by decide +kernel
theorem dX4_takeLesson_39 : decode cX4_takeLesson 39 = .ok (.getfield 27, 3) := by decide +kernel
theorem dX4_takeLesson_42 : decode cX4_takeLesson 42 = .ok (.aload_n 0, 1) := by decide +kernel
theorem dX4_takeLesson_43 : decode cX4_takeLesson 43 = .ok (.getfield 40, 3) := by decide +kernel
theorem dX4_takeLesson_46 : decode cX4_takeLesson 46 = .ok (.iload_n 2, 1) := by decide +kernel
theorem dX4_takeLesson_47 : decode cX4_takeLesson 47 = .ok (.invokestatic 66, 3) := by decide +kernel
theorem dX4_takeLesson_50 : decode cX4_takeLesson 50 = .ok (.aload_n 0, 1) := by decide +kernel
theorem dX4_takeLesson_51 : decode cX4_takeLesson 51 = .ok (.getfield 30, 3) := by decide +kernel
theorem dX4_takeLesson_54 : decode cX4_takeLesson 54 = .ok (.aload_n 0, 1) := by decide +kernel
theorem dX4_takeLesson_55 : decode cX4_takeLesson 55 = .ok (.getfield 40, 3) := by decide +kernel
theorem dX4_takeLesson_58 : decode cX4_takeLesson 58 = .ok (.iload_n 3, 1) := by decide +kernel
theorem dX4_takeLesson_59 : decode cX4_takeLesson 59 = .ok (.invokestatic 66, 3) := by decide +kernel
theorem dX4_takeLesson_62 : decode cX4_takeLesson 62 = .ok (.aload_n 0, 1) := by decide +kernel
theorem dX4_takeLesson_63 : decode cX4_takeLesson 63 = .ok (.dup, 1) := by decide +kernel
theorem dX4_takeLesson_64 : decode cX4_takeLesson 64 = .ok (.getfield 40, 3) := by decide +kernel
theorem dX4_takeLesson_67 : decode cX4_takeLesson 67 = .ok (.iconst 1, 1) := by decide +kernel
theorem dX4_takeLesson_68 : decode cX4_takeLesson 68 = .ok (.iadd, 1) := by decide +kernel
theorem dX4_takeLesson_69 : decode cX4_takeLesson 69 = .ok (.putfield 40, 3) := by decide +kernel
theorem dX4_takeLesson_72 : decode cX4_takeLesson 72 = .ok (.iconst 1, 1) := by decide +kernel
theorem dX4_takeLesson_73 : decode cX4_takeLesson 73 = .ok (.ireturn, 1) := by decide +kernel
theorem dX4_hasClock_0 : decode cX4_hasClock 0 = .ok (.iload_n 1, 1) := by decide +kernel
theorem dX4_hasClock_1 : decode cX4_hasClock 1 = .ok (.ifCond .lt 15, 3) := by decide +kernel
theorem dX4_hasClock_4 : decode cX4_hasClock 4 = .ok (.iload_n 1, 1) := by decide +kernel
theorem dX4_hasClock_5 : decode cX4_hasClock 5 = .ok (.aload_n 0, 1) := by decide +kernel
theorem dX4_hasClock_6 : decode cX4_hasClock 6 = .ok (.getfield 33, 3) := by decide +kernel
theorem dX4_hasClock_9 : decode cX4_hasClock 9 = .ok (.if_icmp .ge 7, 3) := by decide +kernel
theorem dX4_hasClock_12 : decode cX4_hasClock 12 = .ok (.iconst 1, 1) := by decide +kernel
theorem dX4_hasClock_13 : decode cX4_hasClock 13 = .ok (.goto 4, 3) := by decide +kernel
theorem dX4_hasClock_16 : decode cX4_hasClock 16 = .ok (.iconst 0, 1) := by decide +kernel
theorem dX4_hasClock_17 : decode cX4_hasClock 17 = .ok (.ireturn, 1) := by decide +kernel
theorem dX4_hasBoth_0 : decode cX4_hasBoth 0 = .ok (.aload_n 0, 1) := by decide +kernel
theorem dX4_hasBoth_1 : decode cX4_hasBoth 1 = .ok (.iload_n 1, 1) := by decide +kernel
theorem dX4_hasBoth_2 : decode cX4_hasBoth 2 = .ok (.invokevirtual 91, 3) := by decide +kernel
theorem dX4_hasBoth_5 : decode cX4_hasBoth 5 = .ok (.ifCond .eq 20, 3) := by decide +kernel
theorem dX4_hasBoth_8 : decode cX4_hasBoth 8 = .ok (.aload_n 0, 1) := by decide +kernel
theorem dX4_hasBoth_9 : decode cX4_hasBoth 9 = .ok (.iload_n 2, 1) := by decide +kernel
theorem dX4_hasBoth_10 : decode cX4_hasBoth 10 = .ok (.invokevirtual 91, 3) := by decide +kernel
theorem dX4_hasBoth_13 : decode cX4_hasBoth 13 = .ok (.ifCond .eq 12, 3) := by decide +kernel
theorem dX4_hasBoth_16 : decode cX4_hasBoth 16 = .ok (.iload_n 1, 1) := by decide +kernel
theorem dX4_hasBoth_17 : decode cX4_hasBoth 17 = .ok (.iload_n 2, 1) := by decide +kernel
theorem dX4_hasBoth_18 : decode cX4_hasBoth 18 = .ok (.if_icmp .eq 7, 3) := by decide +kernel
theorem dX4_hasBoth_21 : decode cX4_hasBoth 21 = .ok (.iconst 1, 1) := by decide +kernel
theorem dX4_hasBoth_22 : decode cX4_hasBoth 22 = .ok (.goto 4, 3) := by decide +kernel
theorem dX4_hasBoth_25 : decode cX4_hasBoth 25 = .ok (.iconst 0, 1) := by decide +kernel
theorem dX4_hasBoth_26 : decode cX4_hasBoth 26 = .ok (.ireturn, 1) := by decide +kernel
theorem dX4_hasWall_0 : decode cX4_hasWall 0 = .ok (.aload_n 0, 1) := by decide +kernel
theorem dX4_hasWall_1 : decode cX4_hasWall 1 = .ok (.getfield 21, 3) := by decide +kernel
theorem dX4_hasWall_4 : decode cX4_hasWall 4 = .ok (.iload_n 1, 1) := by decide +kernel
theorem dX4_hasWall_5 : decode cX4_hasWall 5 = .ok (.invokestatic 70, 3) := by decide +kernel
theorem dX4_hasWall_8 : decode cX4_hasWall 8 = .ok (.iload_n 2, 1) := by decide +kernel
theorem dX4_hasWall_9 : decode cX4_hasWall 9 = .ok (.ishr, 1) := by decide +kernel
theorem dX4_hasWall_10 : decode cX4_hasWall 10 = .ok (.iconst 1, 1) := by decide +kernel
theorem dX4_hasWall_11 : decode cX4_hasWall 11 = .ok (.iand, 1) := by decide +kernel
theorem dX4_hasWall_12 : decode cX4_hasWall 12 = .ok (.iconst 1, 1) := by decide +kernel
theorem dX4_hasWall_13 : decode cX4_hasWall 13 = .ok (.if_icmp .ne 7, 3) := by decide +kernel
theorem dX4_hasWall_16 : decode cX4_hasWall 16 = .ok (.iconst 1, 1) := by decide +kernel
theorem dX4_hasWall_17 : decode cX4_hasWall 17 = .ok (.goto 4, 3) := by decide +kernel
theorem dX4_hasWall_20 : decode cX4_hasWall 20 = .ok (.iconst 0, 1) := by decide +kernel
theorem dX4_hasWall_21 : decode cX4_hasWall 21 = .ok (.ireturn, 1) := by decide +kernel
theorem dX4_wallsOf_0 : decode cX4_wallsOf 0 = .ok (.aload_n 0, 1) := by decide +kernel
theorem dX4_wallsOf_1 : decode cX4_wallsOf 1 = .ok (.getfield 21, 3) := by decide +kernel
theorem dX4_wallsOf_4 : decode cX4_wallsOf 4 = .ok (.iload_n 1, 1) := by decide +kernel
theorem dX4_wallsOf_5 : decode cX4_wallsOf 5 = .ok (.invokestatic 70, 3) := by decide +kernel
theorem dX4_wallsOf_8 : decode cX4_wallsOf 8 = .ok (.invokestatic 94, 3) := by decide +kernel
theorem dX4_wallsOf_11 : decode cX4_wallsOf 11 = .ok (.ireturn, 1) := by decide +kernel
theorem dX4_kindOf_0 : decode cX4_kindOf 0 = .ok (.aload_n 0, 1) := by decide +kernel
theorem dX4_kindOf_1 : decode cX4_kindOf 1 = .ok (.getfield 9, 3) := by decide +kernel
theorem dX4_kindOf_4 : decode cX4_kindOf 4 = .ok (.iload_n 1, 1) := by decide +kernel
theorem dX4_kindOf_5 : decode cX4_kindOf 5 = .ok (.invokestatic 70, 3) := by decide +kernel
theorem dX4_kindOf_8 : decode cX4_kindOf 8 = .ok (.ireturn, 1) := by decide +kernel
theorem dX5_init_0 : decode cX5_init 0 = .ok (.aload_n 0, 1) := by decide +kernel
theorem dX5_init_1 : decode cX5_init 1 = .ok (.invokespecial 3, 3) := by decide +kernel
theorem dX5_init_4 : decode cX5_init 4 = .ok (.aload_n 0, 1) := by decide +kernel
theorem dX5_init_5 : decode cX5_init 5 = .ok (.bipush 7, 2) := by decide +kernel
theorem dX5_init_7 : decode cX5_init 7 = .ok (.newarray .int, 2) := by decide +kernel
theorem dX5_init_9 : decode cX5_init 9 = .ok (.putfield 9, 3) := by decide +kernel
theorem dX5_init_12 : decode cX5_init 12 = .ok (.aload_n 0, 1) := by decide +kernel
theorem dX5_init_13 : decode cX5_init 13 = .ok (.bipush (-4), 2) := by decide +kernel
theorem dX5_init_15 : decode cX5_init 15 = .ok (.putfield 15, 3) := by decide +kernel
theorem dX5_init_18 : decode cX5_init 18 = .ok (.return_, 1) := by decide +kernel
theorem dX5_clear_0 : decode cX5_clear 0 = .ok (.aload_n 0, 1) := by decide +kernel
theorem dX5_clear_1 : decode cX5_clear 1 = .ok (.bipush (-4), 2) := by decide +kernel
theorem dX5_clear_3 : decode cX5_clear 3 = .ok (.putfield 15, 3) := by decide +kernel
theorem dX5_clear_6 : decode cX5_clear 6 = .ok (.return_, 1) := by decide +kernel
theorem dX5_offer_0 : decode cX5_offer 0 = .ok (.aload_n 0, 1) := by decide +kernel
theorem dX5_offer_1 : decode cX5_offer 1 = .ok (.getfield 15, 3) := by decide +kernel
theorem dX5_offer_4 : decode cX5_offer 4 = .ok (.bipush (-4), 2) := by decide +kernel
theorem dX5_offer_6 : decode cX5_offer 6 = .ok (.if_icmp .eq 11, 3) := by decide +kernel
theorem dX5_offer_9 : decode cX5_offer 9 = .ok (.iload_n 1, 1) := by decide +kernel
theorem dX5_offer_10 : decode cX5_offer 10 = .ok (.aload_n 0, 1) := by decide +kernel
theorem dX5_offer_11 : decode cX5_offer 11 = .ok (.getfield 15, 3) := by decide +kernel
theorem dX5_offer_14 : decode cX5_offer 14 = .ok (.if_icmp .ge 35, 3) := by decide +kernel
theorem dX5_offer_17 : decode cX5_offer 17 = .ok (.aload_n 0, 1) := by decide +kernel
theorem dX5_offer_18 : decode cX5_offer 18 = .ok (.iload_n 1, 1) := by decide +kernel
theorem dX5_offer_19 : decode cX5_offer 19 = .ok (.putfield 15, 3) := by decide +kernel
theorem dX5_offer_22 : decode cX5_offer 22 = .ok (.iconst 0, 1) := by decide +kernel
theorem dX5_offer_23 : decode cX5_offer 23 = .ok (.istore_n 3, 1) := by decide +kernel
theorem dX5_offer_24 : decode cX5_offer 24 = .ok (.iload_n 3, 1) := by decide +kernel
theorem dX5_offer_25 : decode cX5_offer 25 = .ok (.bipush 7, 2) := by decide +kernel
theorem dX5_offer_27 : decode cX5_offer 27 = .ok (.if_icmp .ge 22, 3) := by decide +kernel
theorem dX5_offer_30 : decode cX5_offer 30 = .ok (.aload_n 0, 1) := by decide +kernel
theorem dX5_offer_31 : decode cX5_offer 31 = .ok (.getfield 9, 3) := by decide +kernel
theorem dX5_offer_34 : decode cX5_offer 34 = .ok (.iload_n 3, 1) := by decide +kernel
theorem dX5_offer_35 : decode cX5_offer 35 = .ok (.aload_n 2, 1) := by decide +kernel
theorem dX5_offer_36 : decode cX5_offer 36 = .ok (.iload_n 3, 1) := by decide +kernel
theorem dX5_offer_37 : decode cX5_offer 37 = .ok (.invokestatic 19, 3) := by decide +kernel
theorem dX5_offer_40 : decode cX5_offer 40 = .ok (.invokestatic 23, 3) := by decide +kernel
theorem dX5_offer_43 : decode cX5_offer 43 = .ok (.iinc 3 1, 3) := by decide +kernel
theorem dX5_offer_46 : decode cX5_offer 46 = .ok (.goto (-22), 3) := by decide +kernel
theorem dX5_offer_49 : decode cX5_offer 49 = .ok (.return_, 1) := by decide +kernel
theorem dX6_init_0 : decode cX6_init 0 = .ok (.aload_n 0, 1) := by decide +kernel
theorem dX6_init_1 : decode cX6_init 1 = .ok (.invokespecial 3, 3) := by decide +kernel
theorem dX6_init_4 : decode cX6_init 4 = .ok (.aload_n 0, 1) := by decide +kernel
theorem dX6_init_5 : decode cX6_init 5 = .ok (.bipush 6, 2) := by decide +kernel
theorem dX6_init_7 : decode cX6_init 7 = .ok (.newarray .int, 2) := by decide +kernel
theorem dX6_init_9 : decode cX6_init 9 = .ok (.putfield 9, 3) := by decide +kernel
theorem dX6_init_12 : decode cX6_init 12 = .ok (.aload_n 0, 1) := by decide +kernel
theorem dX6_init_13 : decode cX6_init 13 = .ok (.bipush 6, 2) := by decide +kernel
theorem dX6_init_15 : decode cX6_init 15 = .ok (.newarray .int, 2) := by decide +kernel
theorem dX6_init_17 : decode cX6_init 17 = .ok (.putfield 15, 3) := by decide +kernel
theorem dX6_init_20 : decode cX6_init 20 = .ok (.aload_n 0, 1) := by decide +kernel
theorem dX6_init_21 : decode cX6_init 21 = .ok (.iconst 0, 1) := by decide +kernel
theorem dX6_init_22 : decode cX6_init 22 = .ok (.putfield 18, 3) := by decide +kernel
theorem dX6_init_25 : decode cX6_init 25 = .ok (.return_, 1) := by decide +kernel
theorem dX6_add_0 : decode cX6_add 0 = .ok (.aload_n 0, 1) := by decide +kernel
theorem dX6_add_1 : decode cX6_add 1 = .ok (.getfield 18, 3) := by decide +kernel
theorem dX6_add_4 : decode cX6_add 4 = .ok (.bipush 6, 2) := by decide +kernel
theorem dX6_add_6 : decode cX6_add 6 = .ok (.if_icmp .ge 37, 3) := by decide +kernel
theorem dX6_add_9 : decode cX6_add 9 = .ok (.aload_n 0, 1) := by decide +kernel
theorem dX6_add_10 : decode cX6_add 10 = .ok (.getfield 9, 3) := by decide +kernel
theorem dX6_add_13 : decode cX6_add 13 = .ok (.aload_n 0, 1) := by decide +kernel
theorem dX6_add_14 : decode cX6_add 14 = .ok (.getfield 18, 3) := by decide +kernel
theorem dX6_add_17 : decode cX6_add 17 = .ok (.iload_n 1, 1) := by decide +kernel
theorem dX6_add_18 : decode cX6_add 18 = .ok (.invokestatic 22, 3) := by decide +kernel
theorem dX6_add_21 : decode cX6_add 21 = .ok (.aload_n 0, 1) := by decide +kernel
theorem dX6_add_22 : decode cX6_add 22 = .ok (.getfield 15, 3) := by decide +kernel
theorem dX6_add_25 : decode cX6_add 25 = .ok (.aload_n 0, 1) := by decide +kernel
theorem dX6_add_26 : decode cX6_add 26 = .ok (.getfield 18, 3) := by decide +kernel
theorem dX6_add_29 : decode cX6_add 29 = .ok (.iload_n 2, 1) := by decide +kernel
theorem dX6_add_30 : decode cX6_add 30 = .ok (.invokestatic 22, 3) := by decide +kernel
theorem dX6_add_33 : decode cX6_add 33 = .ok (.aload_n 0, 1) := by decide +kernel
theorem dX6_add_34 : decode cX6_add 34 = .ok (.dup, 1) := by decide +kernel
theorem dX6_add_35 : decode cX6_add 35 = .ok (.getfield 18, 3) := by decide +kernel
theorem dX6_add_38 : decode cX6_add 38 = .ok (.iconst 1, 1) := by decide +kernel
theorem dX6_add_39 : decode cX6_add 39 = .ok (.iadd, 1) := by decide +kernel
theorem dX6_add_40 : decode cX6_add 40 = .ok (.putfield 18, 3) := by decide +kernel
theorem dX6_add_43 : decode cX6_add 43 = .ok (.return_, 1) := by decide +kernel
theorem dX6_fit_0 : decode cX6_fit 0 = .ok (.iconst 0, 1) := by decide +kernel
theorem dX6_fit_1 : decode cX6_fit 1 = .ok (.istore_n 2, 1) := by decide +kernel
theorem dX6_fit_2 : decode cX6_fit 2 = .ok (.iload_n 2, 1) := by decide +kernel
theorem dX6_fit_3 : decode cX6_fit 3 = .ok (.aload_n 0, 1) := by decide +kernel
theorem dX6_fit_4 : decode cX6_fit 4 = .ok (.getfield 18, 3) := by decide +kernel
theorem dX6_fit_7 : decode cX6_fit 7 = .ok (.if_icmp .ge 34, 3) := by decide +kernel
theorem dX6_fit_10 : decode cX6_fit 10 = .ok (.aload_n 1, 1) := by decide +kernel
theorem dX6_fit_11 : decode cX6_fit 11 = .ok (.aload_n 0, 1) := by decide +kernel
theorem dX6_fit_12 : decode cX6_fit 12 = .ok (.getfield 9, 3) := by decide +kernel
theorem dX6_fit_15 : decode cX6_fit 15 = .ok (.iload_n 2, 1) := by decide +kernel
theorem dX6_fit_16 : decode cX6_fit 16 = .ok (.invokestatic 26, 3) := by decide +kernel
theorem dX6_fit_19 : decode cX6_fit 19 = .ok (.invokevirtual 30, 3) := by decide +kernel
theorem dX6_fit_22 : decode cX6_fit 22 = .ok (.aload_n 0, 1) := by decide +kernel
theorem dX6_fit_23 : decode cX6_fit 23 = .ok (.getfield 15, 3) := by decide +kernel
theorem dX6_fit_26 : decode cX6_fit 26 = .ok (.iload_n 2, 1) := by decide +kernel
theorem dX6_fit_27 : decode cX6_fit 27 = .ok (.invokestatic 26, 3) := by decide +kernel
theorem dX6_fit_30 : decode cX6_fit 30 = .ok (.if_icmp .eq 5, 3) := by decide +kernel
theorem dX6_fit_33 : decode cX6_fit 33 = .ok (.iconst 0, 1) := by decide +kernel
theorem dX6_fit_34 : decode cX6_fit 34 = .ok (.ireturn, 1) := by decide +kernel
theorem dX6_fit_35 : decode cX6_fit 35 = .ok (.iinc 2 1, 3) := by decide +kernel
theorem dX6_fit_38 : decode cX6_fit 38 = .ok (.goto (-36), 3) := by decide +kernel
theorem dX6_fit_41 : decode cX6_fit 41 = .ok (.iconst 1, 1) := by decide +kernel
theorem dX6_fit_42 : decode cX6_fit 42 = .ok (.ireturn, 1) := by decide +kernel
theorem dX7_init_0 : decode cX7_init 0 = .ok (.aload_n 0, 1) := by decide +kernel
theorem dX7_init_1 : decode cX7_init 1 = .ok (.invokespecial 1, 3) := by decide +kernel
theorem dX7_init_4 : decode cX7_init 4 = .ok (.aload_n 0, 1) := by decide +kernel
theorem dX7_init_5 : decode cX7_init 5 = .ok (.iconst 0, 1) := by decide +kernel
theorem dX7_init_6 : decode cX7_init 6 = .ok (.putfield 7, 3) := by decide +kernel
theorem dX7_init_9 : decode cX7_init 9 = .ok (.aload_n 0, 1) := by decide +kernel
theorem dX7_init_10 : decode cX7_init 10 = .ok (.iconst 0, 1) := by decide +kernel
theorem dX7_init_11 : decode cX7_init 11 = .ok (.iload_n 2, 1) := by decide +kernel
theorem dX7_init_12 : decode cX7_init 12 = .ok (.invokestatic 13, 3) := by decide +kernel
theorem dX7_init_15 : decode cX7_init 15 = .ok (.anewarray 19, 3) := by decide +kernel
theorem dX7_init_18 : decode cX7_init 18 = .ok (.putfield 21, 3) := by decide +kernel
theorem dX7_init_21 : decode cX7_init 21 = .ok (.iconst 0, 1) := by decide +kernel
theorem dX7_init_22 : decode cX7_init 22 = .ok (.istore_n 3, 1) := by decide +kernel
theorem dX7_init_23 : decode cX7_init 23 = .ok (.iload_n 3, 1) := by decide +kernel
theorem dX7_init_24 : decode cX7_init 24 = .ok (.aload_n 0, 1) := by decide +kernel
theorem dX7_init_25 : decode cX7_init 25 = .ok (.getfield 21, 3) := by decide +kernel
theorem dX7_init_28 : decode cX7_init 28 = .ok (.arraylength, 1) := by decide +kernel
theorem dX7_init_29 : decode cX7_init 29 = .ok (.if_icmp .ge 23, 3) := by decide +kernel
theorem dX7_init_32 : decode cX7_init 32 = .ok (.aload_n 0, 1) := by decide +kernel
theorem dX7_init_33 : decode cX7_init 33 = .ok (.getfield 21, 3) := by decide +kernel
theorem dX7_init_36 : decode cX7_init 36 = .ok (.iload_n 3, 1) := by decide +kernel
theorem dX7_init_37 : decode cX7_init 37 = .ok (.new 19, 3) := by decide +kernel
theorem dX7_init_40 : decode cX7_init 40 = .ok (.dup, 1) := by decide +kernel
theorem dX7_init_41 : decode cX7_init 41 = .ok (.aload_n 1, 1) := by decide +kernel
theorem dX7_init_42 : decode cX7_init 42 = .ok (.invokespecial 25, 3) := by decide +kernel
theorem dX7_init_45 : decode cX7_init 45 = .ok (.aastore, 1) := by decide +kernel
theorem dX7_init_46 : decode cX7_init 46 = .ok (.iinc 3 1, 3) := by decide +kernel
theorem dX7_init_49 : decode cX7_init 49 = .ok (.goto (-26), 3) := by decide +kernel
theorem dX7_init_52 : decode cX7_init 52 = .ok (.return_, 1) := by decide +kernel
theorem dX7_add_0 : decode cX7_add 0 = .ok (.aload_n 0, 1) := by decide +kernel
theorem dX7_add_1 : decode cX7_add 1 = .ok (.getfield 7, 3) := by decide +kernel
theorem dX7_add_4 : decode cX7_add 4 = .ok (.aload_n 0, 1) := by decide +kernel
theorem dX7_add_5 : decode cX7_add 5 = .ok (.getfield 21, 3) := by decide +kernel
theorem dX7_add_8 : decode cX7_add 8 = .ok (.arraylength, 1) := by decide +kernel
theorem dX7_add_9 : decode cX7_add 9 = .ok (.if_icmp .lt 7, 3) := by decide +kernel
theorem dX7_add_12 : decode cX7_add 12 = .ok (.aload_n 0, 1) := by decide +kernel
theorem dX7_add_13 : decode cX7_add 13 = .ok (.invokevirtual 28, 3) := by decide +kernel
theorem dX7_add_16 : decode cX7_add 16 = .ok (.aload_n 0, 1) := by decide +kernel
theorem dX7_add_17 : decode cX7_add 17 = .ok (.getfield 7, 3) := by decide +kernel
theorem dX7_add_20 : decode cX7_add 20 = .ok (.ifCond .lt 50, 3) := by decide +kernel
theorem dX7_add_23 : decode cX7_add 23 = .ok (.aload_n 0, 1) := by decide +kernel
theorem dX7_add_24 : decode cX7_add 24 = .ok (.getfield 7, 3) := by decide +kernel
theorem dX7_add_27 : decode cX7_add 27 = .ok (.aload_n 0, 1) := by decide +kernel
theorem dX7_add_28 : decode cX7_add 28 = .ok (.getfield 21, 3) := by decide +kernel
theorem dX7_add_31 : decode cX7_add 31 = .ok (.arraylength, 1) := by decide +kernel
theorem dX7_add_32 : decode cX7_add 32 = .ok (.if_icmp .ge 38, 3) := by decide +kernel
theorem dX7_add_35 : decode cX7_add 35 = .ok (.aload_n 0, 1) := by decide +kernel
theorem dX7_add_36 : decode cX7_add 36 = .ok (.getfield 21, 3) := by decide +kernel
theorem dX7_add_39 : decode cX7_add 39 = .ok (.aload_n 0, 1) := by decide +kernel
theorem dX7_add_40 : decode cX7_add 40 = .ok (.getfield 7, 3) := by decide +kernel
theorem dX7_add_43 : decode cX7_add 43 = .ok (.aaload, 1) := by decide +kernel
theorem dX7_add_44 : decode cX7_add 44 = .ok (.ifnull 26, 3) := by decide +kernel
theorem dX7_add_47 : decode cX7_add 47 = .ok (.aload_n 0, 1) := by decide +kernel
theorem dX7_add_48 : decode cX7_add 48 = .ok (.getfield 21, 3) := by decide +kernel
theorem dX7_add_51 : decode cX7_add 51 = .ok (.aload_n 0, 1) := by decide +kernel
theorem dX7_add_52 : decode cX7_add 52 = .ok (.getfield 7, 3) := by decide +kernel
theorem dX7_add_55 : decode cX7_add 55 = .ok (.aaload, 1) := by decide +kernel
theorem dX7_add_56 : decode cX7_add 56 = .ok (.aload_n 1, 1) := by decide +kernel
theorem dX7_add_57 : decode cX7_add 57 = .ok (.invokevirtual 31, 3) := by decide +kernel
theorem dX7_add_60 : decode cX7_add 60 = .ok (.aload_n 0, 1) := by decide +kernel
theorem dX7_add_61 : decode cX7_add 61 = .ok (.dup, 1) := by decide +kernel
theorem dX7_add_62 : decode cX7_add 62 = .ok (.getfield 7, 3) := by decide +kernel
theorem dX7_add_65 : decode cX7_add 65 = .ok (.iconst 1, 1) := by decide +kernel
theorem dX7_add_66 : decode cX7_add 66 = .ok (.iadd, 1) := by decide +kernel
theorem dX7_add_67 : decode cX7_add 67 = .ok (.putfield 7, 3) := by decide +kernel
theorem dX7_add_70 : decode cX7_add 70 = .ok (.return_, 1) := by decide +kernel
theorem dX7_dropOldest_0 : decode cX7_dropOldest 0 = .ok (.iconst 0, 1) := by decide +kernel
theorem dX7_dropOldest_1 : decode cX7_dropOldest 1 = .ok (.istore_n 1, 1) := by decide +kernel
theorem dX7_dropOldest_2 : decode cX7_dropOldest 2 = .ok (.iload_n 1, 1) := by decide +kernel
theorem dX7_dropOldest_3 : decode cX7_dropOldest 3 = .ok (.iconst 1, 1) := by decide +kernel
theorem dX7_dropOldest_4 : decode cX7_dropOldest 4 = .ok (.iadd, 1) := by decide +kernel
theorem dX7_dropOldest_5 : decode cX7_dropOldest 5 = .ok (.aload_n 0, 1) := by decide +kernel
theorem dX7_dropOldest_6 : decode cX7_dropOldest 6 = .ok (.getfield 21, 3) := by decide +kernel
theorem dX7_dropOldest_9 : decode cX7_dropOldest 9 = .ok (.arraylength, 1) := by decide +kernel
theorem dX7_dropOldest_10 : decode cX7_dropOldest 10 = .ok (.if_icmp .ge 46, 3) := by decide +kernel
theorem dX7_dropOldest_13 : decode cX7_dropOldest 13 = .ok (.aload_n 0, 1) := by decide +kernel
theorem dX7_dropOldest_14 : decode cX7_dropOldest 14 = .ok (.getfield 21, 3) := by decide +kernel
theorem dX7_dropOldest_17 : decode cX7_dropOldest 17 = .ok (.iload_n 1, 1) := by decide +kernel
theorem dX7_dropOldest_18 : decode cX7_dropOldest 18 = .ok (.aaload, 1) := by decide +kernel
theorem dX7_dropOldest_19 : decode cX7_dropOldest 19 = .ok (.ifnull 31, 3) := by decide +kernel
theorem dX7_dropOldest_22 : decode cX7_dropOldest 22 = .ok (.aload_n 0, 1) := by decide +kernel
theorem dX7_dropOldest_23 : decode cX7_dropOldest 23 = .ok (.getfield 21, 3) := by decide +kernel
theorem dX7_dropOldest_26 : decode cX7_dropOldest 26 = .ok (.iload_n 1, 1) := by decide +kernel
theorem dX7_dropOldest_27 : decode cX7_dropOldest 27 = .ok (.iconst 1, 1) := by decide +kernel
theorem dX7_dropOldest_28 : decode cX7_dropOldest 28 = .ok (.iadd, 1) := by decide +kernel
theorem dX7_dropOldest_29 : decode cX7_dropOldest 29 = .ok (.aaload, 1) := by decide +kernel
theorem dX7_dropOldest_30 : decode cX7_dropOldest 30 = .ok (.ifnull 20, 3) := by decide +kernel
theorem dX7_dropOldest_33 : decode cX7_dropOldest 33 = .ok (.aload_n 0, 1) := by decide +kernel
theorem dX7_dropOldest_34 : decode cX7_dropOldest 34 = .ok (.getfield 21, 3) := by decide +kernel
theorem dX7_dropOldest_37 : decode cX7_dropOldest 37 = .ok (.iload_n 1, 1) := by decide +kernel
theorem dX7_dropOldest_38 : decode cX7_dropOldest 38 = .ok (.aaload, 1) := by decide +kernel
theorem dX7_dropOldest_39 : decode cX7_dropOldest 39 = .ok (.aload_n 0, 1) := by decide +kernel
theorem dX7_dropOldest_40 : decode cX7_dropOldest 40 = .ok (.getfield 21, 3) := by decide +kernel
theorem dX7_dropOldest_43 : decode cX7_dropOldest 43 = .ok (.iload_n 1, 1) := by decide +kernel
theorem dX7_dropOldest_44 : decode cX7_dropOldest 44 = .ok (.iconst 1, 1) := by decide +kernel
theorem dX7_dropOldest_45 : decode cX7_dropOldest 45 = .ok (.iadd, 1) := by decide +kernel
theorem dX7_dropOldest_46 : decode cX7_dropOldest 46 = .ok (.aaload, 1) := by decide +kernel
theorem dX7_dropOldest_47 : decode cX7_dropOldest 47 = .ok (.invokevirtual 31, 3) := by decide +kernel
theorem dX7_dropOldest_50 : decode cX7_dropOldest 50 = .ok (.iinc 1 1, 3) := by decide +kernel
theorem dX7_dropOldest_53 : decode cX7_dropOldest 53 = .ok (.goto (-51), 3) := by decide +kernel
theorem dX7_dropOldest_56 : decode cX7_dropOldest 56 = .ok (.aload_n 0, 1) := by decide +kernel
theorem dX7_dropOldest_57 : decode cX7_dropOldest 57 = .ok (.aload_n 0, 1) := by decide +kernel
theorem dX7_dropOldest_58 : decode cX7_dropOldest 58 = .ok (.getfield 21, 3) := by decide +kernel
theorem dX7_dropOldest_61 : decode cX7_dropOldest 61 = .ok (.arraylength, 1) := by decide +kernel
theorem dX7_dropOldest_62 : decode cX7_dropOldest 62 = .ok (.iconst 1, 1) := by decide +kernel
theorem dX7_dropOldest_63 : decode cX7_dropOldest 63 = .ok (.isub, 1) := by decide +kernel
theorem dX7_dropOldest_64 : decode cX7_dropOldest 64 = .ok (.putfield 7, 3) := by decide +kernel
theorem dX7_dropOldest_67 : decode cX7_dropOldest 67 = .ok (.return_, 1) := by decide +kernel
theorem dX7_takeLatest_0 : decode cX7_takeLatest 0 = .ok (.aload_n 0, 1) := by decide +kernel
theorem dX7_takeLatest_1 : decode cX7_takeLatest 1 = .ok (.getfield 7, 3) := by decide +kernel
theorem dX7_takeLatest_4 : decode cX7_takeLatest 4 = .ok (.iconst 1, 1) := by decide +kernel
theorem dX7_takeLatest_5 : decode cX7_takeLatest 5 = .ok (.isub, 1) := by decide +kernel
theorem dX7_takeLatest_6 : decode cX7_takeLatest 6 = .ok (.istore_n 2, 1) := by decide +kernel
theorem dX7_takeLatest_7 : decode cX7_takeLatest 7 = .ok (.iload_n 2, 1) := by decide +kernel
theorem dX7_takeLatest_8 : decode cX7_takeLatest 8 = .ok (.ifCond .lt 36, 3) := by decide +kernel
theorem dX7_takeLatest_11 : decode cX7_takeLatest 11 = .ok (.iload_n 2, 1) := by decide +kernel
theorem dX7_takeLatest_12 : decode cX7_takeLatest 12 = .ok (.aload_n 0, 1) := by decide +kernel
theorem dX7_takeLatest_13 : decode cX7_takeLatest 13 = .ok (.getfield 21, 3) := by decide +kernel
theorem dX7_takeLatest_16 : decode cX7_takeLatest 16 = .ok (.arraylength, 1) := by decide +kernel
theorem dX7_takeLatest_17 : decode cX7_takeLatest 17 = .ok (.if_icmp .ge 27, 3) := by decide +kernel
theorem dX7_takeLatest_20 : decode cX7_takeLatest 20 = .ok (.aload_n 0, 1) := by decide +kernel
theorem dX7_takeLatest_21 : decode cX7_takeLatest 21 = .ok (.getfield 21, 3) := by decide +kernel
theorem dX7_takeLatest_24 : decode cX7_takeLatest 24 = .ok (.iload_n 2, 1) := by decide +kernel
theorem dX7_takeLatest_25 : decode cX7_takeLatest 25 = .ok (.aaload, 1) := by decide +kernel
theorem dX7_takeLatest_26 : decode cX7_takeLatest 26 = .ok (.ifnull 18, 3) := by decide +kernel
theorem dX7_takeLatest_29 : decode cX7_takeLatest 29 = .ok (.aload_n 1, 1) := by decide +kernel
theorem dX7_takeLatest_30 : decode cX7_takeLatest 30 = .ok (.aload_n 0, 1) := by decide +kernel
theorem dX7_takeLatest_31 : decode cX7_takeLatest 31 = .ok (.getfield 21, 3) := by decide +kernel
theorem dX7_takeLatest_34 : decode cX7_takeLatest 34 = .ok (.iload_n 2, 1) := by decide +kernel
theorem dX7_takeLatest_35 : decode cX7_takeLatest 35 = .ok (.aaload, 1) := by decide +kernel
theorem dX7_takeLatest_36 : decode cX7_takeLatest 36 = .ok (.invokevirtual 31, 3) := by decide +kernel
theorem dX7_takeLatest_39 : decode cX7_takeLatest 39 = .ok (.aload_n 0, 1) := by decide +kernel
theorem dX7_takeLatest_40 : decode cX7_takeLatest 40 = .ok (.iload_n 2, 1) := by decide +kernel
theorem dX7_takeLatest_41 : decode cX7_takeLatest 41 = .ok (.putfield 7, 3) := by decide +kernel
theorem dX7_takeLatest_44 : decode cX7_takeLatest 44 = .ok (.return_, 1) := by decide +kernel
theorem dX8_init_0 : decode cX8_init 0 = .ok (.aload_n 0, 1) := by decide +kernel
theorem dX8_init_1 : decode cX8_init 1 = .ok (.invokespecial 3, 3) := by decide +kernel
theorem dX8_init_4 : decode cX8_init 4 = .ok (.aload_n 0, 1) := by decide +kernel
theorem dX8_init_5 : decode cX8_init 5 = .ok (.bipush 7, 2) := by decide +kernel
theorem dX8_init_7 : decode cX8_init 7 = .ok (.newarray .int, 2) := by decide +kernel
theorem dX8_init_9 : decode cX8_init 9 = .ok (.putfield 9, 3) := by decide +kernel
theorem dX8_init_12 : decode cX8_init 12 = .ok (.aload_n 0, 1) := by decide +kernel
theorem dX8_init_13 : decode cX8_init 13 = .ok (.bipush 7, 2) := by decide +kernel
theorem dX8_init_15 : decode cX8_init 15 = .ok (.newarray .int, 2) := by decide +kernel
theorem dX8_init_17 : decode cX8_init 17 = .ok (.putfield 15, 3) := by decide +kernel
theorem dX8_init_20 : decode cX8_init 20 = .ok (.aload_n 0, 1) := by decide +kernel
theorem dX8_init_21 : decode cX8_init 21 = .ok (.iconst 0, 1) := by decide +kernel
theorem dX8_init_22 : decode cX8_init 22 = .ok (.putfield 18, 3) := by decide +kernel
theorem dX8_init_25 : decode cX8_init 25 = .ok (.aload_n 0, 1) := by decide +kernel
theorem dX8_init_26 : decode cX8_init 26 = .ok (.aload_n 1, 1) := by decide +kernel
theorem dX8_init_27 : decode cX8_init 27 = .ok (.putfield 22, 3) := by decide +kernel
theorem dX8_init_30 : decode cX8_init 30 = .ok (.return_, 1) := by decide +kernel
theorem dX8_begin_0 : decode cX8_begin 0 = .ok (.aload_n 0, 1) := by decide +kernel
theorem dX8_begin_1 : decode cX8_begin 1 = .ok (.iconst 0, 1) := by decide +kernel
theorem dX8_begin_2 : decode cX8_begin 2 = .ok (.putfield 18, 3) := by decide +kernel
theorem dX8_begin_5 : decode cX8_begin 5 = .ok (.iconst 0, 1) := by decide +kernel
theorem dX8_begin_6 : decode cX8_begin 6 = .ok (.istore_n 1, 1) := by decide +kernel
theorem dX8_begin_7 : decode cX8_begin 7 = .ok (.iload_n 1, 1) := by decide +kernel
theorem dX8_begin_8 : decode cX8_begin 8 = .ok (.bipush 7, 2) := by decide +kernel
theorem dX8_begin_10 : decode cX8_begin 10 = .ok (.if_icmp .ge 47, 3) := by decide +kernel
theorem dX8_begin_13 : decode cX8_begin 13 = .ok (.aload_n 0, 1) := by decide +kernel
theorem dX8_begin_14 : decode cX8_begin 14 = .ok (.getfield 9, 3) := by decide +kernel
theorem dX8_begin_17 : decode cX8_begin 17 = .ok (.iload_n 1, 1) := by decide +kernel
theorem dX8_begin_18 : decode cX8_begin 18 = .ok (.aload_n 0, 1) := by decide +kernel
theorem dX8_begin_19 : decode cX8_begin 19 = .ok (.getfield 22, 3) := by decide +kernel
theorem dX8_begin_22 : decode cX8_begin 22 = .ok (.getfield 26, 3) := by decide +kernel
theorem dX8_begin_25 : decode cX8_begin 25 = .ok (.iload_n 1, 1) := by decide +kernel
theorem dX8_begin_26 : decode cX8_begin 26 = .ok (.invokestatic 31, 3) := by decide +kernel
theorem dX8_begin_29 : decode cX8_begin 29 = .ok (.invokestatic 35, 3) := by decide +kernel
theorem dX8_begin_32 : decode cX8_begin 32 = .ok (.aload_n 0, 1) := by decide +kernel
theorem dX8_begin_33 : decode cX8_begin 33 = .ok (.getfield 15, 3) := by decide +kernel
theorem dX8_begin_36 : decode cX8_begin 36 = .ok (.iload_n 1, 1) := by decide +kernel
theorem dX8_begin_37 : decode cX8_begin 37 = .ok (.aload_n 0, 1) := by decide +kernel
theorem dX8_begin_38 : decode cX8_begin 38 = .ok (.getfield 22, 3) := by decide +kernel
theorem dX8_begin_41 : decode cX8_begin 41 = .ok (.getfield 39, 3) := by decide +kernel
theorem dX8_begin_44 : decode cX8_begin 44 = .ok (.iload_n 1, 1) := by decide +kernel
theorem dX8_begin_45 : decode cX8_begin 45 = .ok (.invokestatic 31, 3) := by decide +kernel
theorem dX8_begin_48 : decode cX8_begin 48 = .ok (.invokestatic 35, 3) := by decide +kernel
theorem dX8_begin_51 : decode cX8_begin 51 = .ok (.iinc 1 1, 3) := by decide +kernel
theorem dX8_begin_54 : decode cX8_begin 54 = .ok (.goto (-47), 3) := by decide +kernel
theorem dX8_begin_57 : decode cX8_begin 57 = .ok (.return_, 1) := by decide +kernel
theorem dX8_takeFrom_0 : decode cX8_takeFrom 0 = .ok (.aload_n 0, 1) := by decide +kernel
theorem dX8_takeFrom_1 : decode cX8_takeFrom 1 = .ok (.aload_n 1, 1) := by decide +kernel
theorem dX8_takeFrom_2 : decode cX8_takeFrom 2 = .ok (.getfield 18, 3) := by decide +kernel
theorem dX8_takeFrom_5 : decode cX8_takeFrom 5 = .ok (.putfield 18, 3) := by decide +kernel
theorem dX8_takeFrom_8 : decode cX8_takeFrom 8 = .ok (.iconst 0, 1) := by decide +kernel
theorem dX8_takeFrom_9 : decode cX8_takeFrom 9 = .ok (.istore_n 2, 1) := by decide +kernel
theorem dX8_takeFrom_10 : decode cX8_takeFrom 10 = .ok (.iload_n 2, 1) := by decide +kernel
theorem dX8_takeFrom_11 : decode cX8_takeFrom 11 = .ok (.bipush 7, 2) := by decide +kernel
theorem dX8_takeFrom_13 : decode cX8_takeFrom 13 = .ok (.if_icmp .ge 41, 3) := by decide +kernel
theorem dX8_takeFrom_16 : decode cX8_takeFrom 16 = .ok (.aload_n 0, 1) := by decide +kernel
theorem dX8_takeFrom_17 : decode cX8_takeFrom 17 = .ok (.getfield 9, 3) := by decide +kernel
theorem dX8_takeFrom_20 : decode cX8_takeFrom 20 = .ok (.iload_n 2, 1) := by decide +kernel
theorem dX8_takeFrom_21 : decode cX8_takeFrom 21 = .ok (.aload_n 1, 1) := by decide +kernel
theorem dX8_takeFrom_22 : decode cX8_takeFrom 22 = .ok (.getfield 9, 3) := by decide +kernel
theorem dX8_takeFrom_25 : decode cX8_takeFrom 25 = .ok (.iload_n 2, 1) := by decide +kernel
theorem dX8_takeFrom_26 : decode cX8_takeFrom 26 = .ok (.invokestatic 31, 3) := by decide +kernel
theorem dX8_takeFrom_29 : decode cX8_takeFrom 29 = .ok (.invokestatic 35, 3) := by decide +kernel
theorem dX8_takeFrom_32 : decode cX8_takeFrom 32 = .ok (.aload_n 0, 1) := by decide +kernel
theorem dX8_takeFrom_33 : decode cX8_takeFrom 33 = .ok (.getfield 15, 3) := by decide +kernel
theorem dX8_takeFrom_36 : decode cX8_takeFrom 36 = .ok (.iload_n 2, 1) := by decide +kernel
theorem dX8_takeFrom_37 : decode cX8_takeFrom 37 = .ok (.aload_n 1, 1) := by decide +kernel
theorem dX8_takeFrom_38 : decode cX8_takeFrom 38 = .ok (.getfield 15, 3) := by decide +kernel
theorem dX8_takeFrom_41 : decode cX8_takeFrom 41 = .ok (.iload_n 2, 1) := by decide +kernel
theorem dX8_takeFrom_42 : decode cX8_takeFrom 42 = .ok (.invokestatic 31, 3) := by decide +kernel
theorem dX8_takeFrom_45 : decode cX8_takeFrom 45 = .ok (.invokestatic 35, 3) := by decide +kernel
theorem dX8_takeFrom_48 : decode cX8_takeFrom 48 = .ok (.iinc 2 1, 3) := by decide +kernel
theorem dX8_takeFrom_51 : decode cX8_takeFrom 51 = .ok (.goto (-41), 3) := by decide +kernel
theorem dX8_takeFrom_54 : decode cX8_takeFrom 54 = .ok (.return_, 1) := by decide +kernel
theorem dX8_wrongOf_0 : decode cX8_wrongOf 0 = .ok (.aload_n 0, 1) := by decide +kernel
theorem dX8_wrongOf_1 : decode cX8_wrongOf 1 = .ok (.getfield 9, 3) := by decide +kernel
theorem dX8_wrongOf_4 : decode cX8_wrongOf 4 = .ok (.iload_n 1, 1) := by decide +kernel
theorem dX8_wrongOf_5 : decode cX8_wrongOf 5 = .ok (.invokestatic 31, 3) := by decide +kernel
theorem dX8_wrongOf_8 : decode cX8_wrongOf 8 = .ok (.ireturn, 1) := by decide +kernel
theorem dX8_gainOf_0 : decode cX8_gainOf 0 = .ok (.aload_n 0, 1) := by decide +kernel
theorem dX8_gainOf_1 : decode cX8_gainOf 1 = .ok (.getfield 15, 3) := by decide +kernel
theorem dX8_gainOf_4 : decode cX8_gainOf 4 = .ok (.iload_n 1, 1) := by decide +kernel
theorem dX8_gainOf_5 : decode cX8_gainOf 5 = .ok (.invokestatic 31, 3) := by decide +kernel
theorem dX8_gainOf_8 : decode cX8_gainOf 8 = .ok (.ireturn, 1) := by decide +kernel
theorem dX8_makeWrong_0 : decode cX8_makeWrong 0 = .ok (.aload_n 0, 1) := by decide +kernel
theorem dX8_makeWrong_1 : decode cX8_makeWrong 1 = .ok (.getfield 9, 3) := by decide +kernel
theorem dX8_makeWrong_4 : decode cX8_makeWrong 4 = .ok (.iload_n 1, 1) := by decide +kernel
theorem dX8_makeWrong_5 : decode cX8_makeWrong 5 = .ok (.sipush (-600), 3) := by decide +kernel
theorem dX8_makeWrong_8 : decode cX8_makeWrong 8 = .ok (.sipush 600, 3) := by decide +kernel
theorem dX8_makeWrong_11 : decode cX8_makeWrong 11 = .ok (.iload_n 2, 1) := by decide +kernel
theorem dX8_makeWrong_12 : decode cX8_makeWrong 12 = .ok (.invokestatic 42, 3) := by decide +kernel
theorem dX8_makeWrong_15 : decode cX8_makeWrong 15 = .ok (.invokestatic 48, 3) := by decide +kernel
theorem dX8_makeWrong_18 : decode cX8_makeWrong 18 = .ok (.invokestatic 35, 3) := by decide +kernel
theorem dX8_makeWrong_21 : decode cX8_makeWrong 21 = .ok (.return_, 1) := by decide +kernel
theorem dX8_makeAllSeeingWrong_0 : decode cX8_makeAllSeeingWrong 0 = .ok (.iconst 0, 1) := by decide +kernel
theorem dX8_makeAllSeeingWrong_1 : decode cX8_makeAllSeeingWrong 1 = .ok (.istore_n 2, 1) := by decide +kernel
theorem dX8_makeAllSeeingWrong_2 : decode cX8_makeAllSeeingWrong 2 = .ok (.iload_n 2, 1) := by decide +kernel
theorem dX8_makeAllSeeingWrong_3 : decode cX8_makeAllSeeingWrong 3 = .ok (.aload_n 0, 1) := by decide +kernel
theorem dX8_makeAllSeeingWrong_4 : decode cX8_makeAllSeeingWrong 4 = .ok (.getfield 22, 3) := by decide +kernel
theorem dX8_makeAllSeeingWrong_7 : decode cX8_makeAllSeeingWrong 7 = .ok (.getfield 51, 3) := by decide +kernel
theorem dX8_makeAllSeeingWrong_10 : decode cX8_makeAllSeeingWrong 10 = .ok (.if_icmp .ge 27, 3) := by decide +kernel
theorem dX8_makeAllSeeingWrong_13 : decode cX8_makeAllSeeingWrong 13 = .ok (.aload_n 0, 1) := by decide +kernel
theorem dX8_makeAllSeeingWrong_14 : decode cX8_makeAllSeeingWrong 14 = .ok (.getfield 22, 3) := by decide +kernel
theorem dX8_makeAllSeeingWrong_17 : decode cX8_makeAllSeeingWrong 17 = .ok (.iload_n 2, 1) := by decide +kernel
theorem dX8_makeAllSeeingWrong_18 : decode cX8_makeAllSeeingWrong 18 = .ok (.invokevirtual 54, 3) := by decide +kernel
theorem dX8_makeAllSeeingWrong_21 : decode cX8_makeAllSeeingWrong 21 = .ok (.iconst 3, 1) := by decide +kernel
theorem dX8_makeAllSeeingWrong_22 : decode cX8_makeAllSeeingWrong 22 = .ok (.if_icmp .eq 9, 3) := by decide +kernel
theorem dX8_makeAllSeeingWrong_25 : decode cX8_makeAllSeeingWrong 25 = .ok (.aload_n 0, 1) := by decide +kernel
theorem dX8_makeAllSeeingWrong_26 : decode cX8_makeAllSeeingWrong 26 = .ok (.iload_n 2, 1) := by decide +kernel
theorem dX8_makeAllSeeingWrong_27 : decode cX8_makeAllSeeingWrong 27 = .ok (.iload_n 1, 1) := by decide +kernel
theorem dX8_makeAllSeeingWrong_28 : decode cX8_makeAllSeeingWrong 28 = .ok (.invokevirtual 58, 3) := by decide +kernel
theorem dX8_makeAllSeeingWrong_31 : decode cX8_makeAllSeeingWrong 31 = .ok (.iinc 2 1, 3) := by decide +kernel
theorem dX8_makeAllSeeingWrong_34 : decode cX8_makeAllSeeingWrong 34 = .ok (.goto (-32), 3) := by decide +kernel
theorem dX8_makeAllSeeingWrong_37 : decode cX8_makeAllSeeingWrong 37 = .ok (.return_, 1) := by decide +kernel
theorem dX8_oilOnce_0 : decode cX8_oilOnce 0 = .ok (.aload_n 0, 1) := by decide +kernel
theorem dX8_oilOnce_1 : decode cX8_oilOnce 1 = .ok (.iload_n 1, 1) := by decide +kernel
theorem dX8_oilOnce_2 : decode cX8_oilOnce 2 = .ok (.invokevirtual 62, 3) := by decide +kernel
theorem dX8_oilOnce_5 : decode cX8_oilOnce 5 = .ok (.istore_n 2, 1) := by decide +kernel
theorem dX8_oilOnce_6 : decode cX8_oilOnce 6 = .ok (.iload_n 2, 1) := by decide +kernel
theorem dX8_oilOnce_7 : decode cX8_oilOnce 7 = .ok (.ifCond .eq 24, 3) := by decide +kernel
theorem dX8_oilOnce_10 : decode cX8_oilOnce 10 = .ok (.aload_n 0, 1) := by decide +kernel
theorem dX8_oilOnce_11 : decode cX8_oilOnce 11 = .ok (.getfield 15, 3) := by decide +kernel
theorem dX8_oilOnce_14 : decode cX8_oilOnce 14 = .ok (.iload_n 1, 1) := by decide +kernel
theorem dX8_oilOnce_15 : decode cX8_oilOnce 15 = .ok (.iload_n 2, 1) := by decide +kernel
theorem dX8_oilOnce_16 : decode cX8_oilOnce 16 = .ok (.ifCond .le 9, 3) := by decide +kernel
theorem dX8_oilOnce_19 : decode cX8_oilOnce 19 = .ok (.iload_n 2, 1) := by decide +kernel
theorem dX8_oilOnce_20 : decode cX8_oilOnce 20 = .ok (.iconst 1, 1) := by decide +kernel
theorem dX8_oilOnce_21 : decode cX8_oilOnce 21 = .ok (.isub, 1) := by decide +kernel
theorem dX8_oilOnce_22 : decode cX8_oilOnce 22 = .ok (.goto 6, 3) := by decide +kernel
theorem dX8_oilOnce_25 : decode cX8_oilOnce 25 = .ok (.iload_n 2, 1) := by decide +kernel
theorem dX8_oilOnce_26 : decode cX8_oilOnce 26 = .ok (.iconst 1, 1) := by decide +kernel
theorem dX8_oilOnce_27 : decode cX8_oilOnce 27 = .ok (.iadd, 1) := by decide +kernel
theorem dX8_oilOnce_28 : decode cX8_oilOnce 28 = .ok (.invokestatic 35, 3) := by decide +kernel
theorem dX8_oilOnce_31 : decode cX8_oilOnce 31 = .ok (.return_, 1) := by decide +kernel
theorem dX8_canLearn_0 : decode cX8_canLearn 0 = .ok (.aload_n 0, 1) := by decide +kernel
theorem dX8_canLearn_1 : decode cX8_canLearn 1 = .ok (.getfield 22, 3) := by decide +kernel
theorem dX8_canLearn_4 : decode cX8_canLearn 4 = .ok (.getfield 65, 3) := by decide +kernel
theorem dX8_canLearn_7 : decode cX8_canLearn 7 = .ok (.iload_n 1, 1) := by decide +kernel
theorem dX8_canLearn_8 : decode cX8_canLearn 8 = .ok (.invokestatic 31, 3) := by decide +kernel
theorem dX8_canLearn_11 : decode cX8_canLearn 11 = .ok (.istore_n 2, 1) := by decide +kernel
theorem dX8_canLearn_12 : decode cX8_canLearn 12 = .ok (.iload_n 2, 1) := by decide +kernel
theorem dX8_canLearn_13 : decode cX8_canLearn 13 = .ok (.iconst 3, 1) := by decide +kernel
theorem dX8_canLearn_14 : decode cX8_canLearn 14 = .ok (.if_icmp .eq 24, 3) := by decide +kernel
theorem dX8_canLearn_17 : decode cX8_canLearn 17 = .ok (.iload_n 2, 1) := by decide +kernel
theorem dX8_canLearn_18 : decode cX8_canLearn 18 = .ok (.iconst 4, 1) := by decide +kernel
theorem dX8_canLearn_19 : decode cX8_canLearn 19 = .ok (.if_icmp .ne 15, 3) := by decide +kernel
theorem dX8_canLearn_22 : decode cX8_canLearn 22 = .ok (.aload_n 0, 1) := by decide +kernel
theorem dX8_canLearn_23 : decode cX8_canLearn 23 = .ok (.getfield 18, 3) := by decide +kernel
theorem dX8_canLearn_26 : decode cX8_canLearn 26 = .ok (.bipush 7, 2) := by decide +kernel
theorem dX8_canLearn_28 : decode cX8_canLearn 28 = .ok (.irem, 1) := by decide +kernel
theorem dX8_canLearn_29 : decode cX8_canLearn 29 = .ok (.bipush 6, 2) := by decide +kernel
theorem dX8_canLearn_31 : decode cX8_canLearn 31 = .ok (.if_icmp .ne 7, 3) := by decide +kernel
theorem dX8_canLearn_34 : decode cX8_canLearn 34 = .ok (.iconst 1, 1) := by decide +kernel
theorem dX8_canLearn_35 : decode cX8_canLearn 35 = .ok (.goto 4, 3) := by decide +kernel
theorem dX8_canLearn_38 : decode cX8_canLearn 38 = .ok (.iconst 0, 1) := by decide +kernel
theorem dX8_canLearn_39 : decode cX8_canLearn 39 = .ok (.ireturn, 1) := by decide +kernel
theorem dX8_learn_0 : decode cX8_learn 0 = .ok (.aload_n 0, 1) := by decide +kernel
theorem dX8_learn_1 : decode cX8_learn 1 = .ok (.iload_n 2, 1) := by decide +kernel
theorem dX8_learn_2 : decode cX8_learn 2 = .ok (.invokevirtual 68, 3) := by decide +kernel
theorem dX8_learn_5 : decode cX8_learn 5 = .ok (.ifCond .eq 14, 3) := by decide +kernel
theorem dX8_learn_8 : decode cX8_learn 8 = .ok (.aload_n 0, 1) := by decide +kernel
theorem dX8_learn_9 : decode cX8_learn 9 = .ok (.iload_n 2, 1) := by decide +kernel
theorem dX8_learn_10 : decode cX8_learn 10 = .ok (.aload_n 0, 1) := by decide +kernel
theorem dX8_learn_11 : decode cX8_learn 11 = .ok (.iload_n 1, 1) := by decide +kernel
theorem dX8_learn_12 : decode cX8_learn 12 = .ok (.iload_n 2, 1) := by decide +kernel
theorem dX8_learn_13 : decode cX8_learn 13 = .ok (.invokevirtual 72, 3) := by decide +kernel
theorem dX8_learn_16 : decode cX8_learn 16 = .ok (.invokevirtual 58, 3) := by decide +kernel
theorem dX8_learn_19 : decode cX8_learn 19 = .ok (.return_, 1) := by decide +kernel
theorem dX8_wrongWhenTaught_0 : decode cX8_wrongWhenTaught 0 = .ok (.aload_n 0, 1) := by decide +kernel
theorem dX8_wrongWhenTaught_1 : decode cX8_wrongWhenTaught 1 = .ok (.getfield 9, 3) := by decide +kernel
theorem dX8_wrongWhenTaught_4 : decode cX8_wrongWhenTaught 4 = .ok (.iload_n 1, 1) := by decide +kernel
theorem dX8_wrongWhenTaught_5 : decode cX8_wrongWhenTaught 5 = .ok (.invokestatic 31, 3) := by decide +kernel
theorem dX8_wrongWhenTaught_8 : decode cX8_wrongWhenTaught 8 = .ok (.istore_n 3, 1) := by decide +kernel
theorem dX8_wrongWhenTaught_9 : decode cX8_wrongWhenTaught 9 = .ok (.aload_n 0, 1) := by decide +kernel
theorem dX8_wrongWhenTaught_10 : decode cX8_wrongWhenTaught 10 = .ok (.getfield 9, 3) := by decide +kernel
theorem dX8_wrongWhenTaught_13 : decode cX8_wrongWhenTaught 13 = .ok (.iload_n 2, 1) := by decide +kernel
theorem dX8_wrongWhenTaught_14 : decode cX8_wrongWhenTaught 14 = .ok (.invokestatic 31, 3) := by decide +kernel
theorem dX8_wrongWhenTaught_17 : decode cX8_wrongWhenTaught 17 = .ok (.istore 4, 2) := by decide +kernel
theorem dX8_wrongWhenTaught_19 : decode cX8_wrongWhenTaught 19 = .ok (.aload_n 0, 1) := by decide +kernel
theorem dX8_wrongWhenTaught_20 : decode cX8_wrongWhenTaught 20 = .ok (.getfield 22, 3) := by decide +kernel
theorem dX8_wrongWhenTaught_23 : decode cX8_wrongWhenTaught 23 = .ok (.getfield 65, 3) := by decide +kernel
theorem dX8_wrongWhenTaught_26 : decode cX8_wrongWhenTaught 26 = .ok (.iload_n 2, 1) := by decide +kernel
theorem dX8_wrongWhenTaught_27 : decode cX8_wrongWhenTaught 27 = .ok (.invokestatic 31, 3) := by decide +kernel
theorem dX8_wrongWhenTaught_30 : decode cX8_wrongWhenTaught 30 = .ok (.lookupswitch 46 #[(1, 26), (2, 36)], 26) := by decide +kernel
theorem dX8_wrongWhenTaught_56 : decode cX8_wrongWhenTaught 56 = .ok (.iload 4, 2) := by decide +kernel
theorem dX8_wrongWhenTaught_58 : decode cX8_wrongWhenTaught 58 = .ok (.iload_n 3, 1) := by decide +kernel
theorem dX8_wrongWhenTaught_59 : decode cX8_wrongWhenTaught 59 = .ok (.iload 4, 2) := by decide +kernel
theorem dX8_wrongWhenTaught_61 : decode cX8_wrongWhenTaught 61 = .ok (.isub, 1) := by decide +kernel
theorem dX8_wrongWhenTaught_62 : decode cX8_wrongWhenTaught 62 = .ok (.iconst 2, 1) := by decide +kernel
theorem dX8_wrongWhenTaught_63 : decode cX8_wrongWhenTaught 63 = .ok (.idiv, 1) := by decide +kernel
theorem dX8_wrongWhenTaught_64 : decode cX8_wrongWhenTaught 64 = .ok (.iadd, 1) := by decide +kernel
theorem dX8_wrongWhenTaught_65 : decode cX8_wrongWhenTaught 65 = .ok (.ireturn, 1) := by decide +kernel
theorem dX8_wrongWhenTaught_66 : decode cX8_wrongWhenTaught 66 = .ok (.sipush 600, 3) := by decide +kernel
theorem dX8_wrongWhenTaught_69 : decode cX8_wrongWhenTaught 69 = .ok (.iload_n 3, 1) := by decide +kernel
theorem dX8_wrongWhenTaught_70 : decode cX8_wrongWhenTaught 70 = .ok (.iconst 1, 1) := by decide +kernel
theorem dX8_wrongWhenTaught_71 : decode cX8_wrongWhenTaught 71 = .ok (.iadd, 1) := by decide +kernel
theorem dX8_wrongWhenTaught_72 : decode cX8_wrongWhenTaught 72 = .ok (.invokestatic 42, 3) := by decide +kernel
theorem dX8_wrongWhenTaught_75 : decode cX8_wrongWhenTaught 75 = .ok (.ireturn, 1) := by decide +kernel
theorem dX8_wrongWhenTaught_76 : decode cX8_wrongWhenTaught 76 = .ok (.iload_n 3, 1) := by decide +kernel
theorem dX8_wrongWhenTaught_77 : decode cX8_wrongWhenTaught 77 = .ok (.ireturn, 1) := by decide +kernel
theorem dX8_passDays_0 : decode cX8_passDays 0 = .ok (.iconst 0, 1) := by decide +kernel
theorem dX8_passDays_1 : decode cX8_passDays 1 = .ok (.istore_n 2, 1) := by decide +kernel
theorem dX8_passDays_2 : decode cX8_passDays 2 = .ok (.iload_n 2, 1) := by decide +kernel
theorem dX8_passDays_3 : decode cX8_passDays 3 = .ok (.iload_n 1, 1) := by decide +kernel
theorem dX8_passDays_4 : decode cX8_passDays 4 = .ok (.if_icmp .ge 14, 3) := by decide +kernel
theorem dX8_passDays_7 : decode cX8_passDays 7 = .ok (.aload_n 0, 1) := by decide +kernel
theorem dX8_passDays_8 : decode cX8_passDays 8 = .ok (.iconst 1, 1) := by decide +kernel
theorem dX8_passDays_9 : decode cX8_passDays 9 = .ok (.invokevirtual 75, 3) := by decide +kernel
theorem dX8_passDays_12 : decode cX8_passDays 12 = .ok (.iinc 2 1, 3) := by decide +kernel
theorem dX8_passDays_15 : decode cX8_passDays 15 = .ok (.goto (-13), 3) := by decide +kernel
theorem dX8_passDays_18 : decode cX8_passDays 18 = .ok (.return_, 1) := by decide +kernel
theorem dX8_passDay_0 : decode cX8_passDay 0 = .ok (.aload_n 0, 1) := by decide +kernel
theorem dX8_passDay_1 : decode cX8_passDay 1 = .ok (.invokevirtual 79, 3) := by decide +kernel
theorem dX8_passDay_4 : decode cX8_passDay 4 = .ok (.iload_n 1, 1) := by decide +kernel
theorem dX8_passDay_5 : decode cX8_passDay 5 = .ok (.ifCond .eq 7, 3) := by decide +kernel
theorem dX8_passDay_8 : decode cX8_passDay 8 = .ok (.aload_n 0, 1) := by decide +kernel
theorem dX8_passDay_9 : decode cX8_passDay 9 = .ok (.invokevirtual 82, 3) := by decide +kernel
theorem dX8_passDay_12 : decode cX8_passDay 12 = .ok (.iconst 0, 1) := by decide +kernel
theorem dX8_passDay_13 : decode cX8_passDay 13 = .ok (.istore_n 2, 1) := by decide +kernel
theorem dX8_passDay_14 : decode cX8_passDay 14 = .ok (.iload_n 2, 1) := by decide +kernel
theorem dX8_passDay_15 : decode cX8_passDay 15 = .ok (.aload_n 0, 1) := by decide +kernel
theorem dX8_passDay_16 : decode cX8_passDay 16 = .ok (.getfield 22, 3) := by decide +kernel
theorem dX8_passDay_19 : decode cX8_passDay 19 = .ok (.getfield 51, 3) := by decide +kernel
theorem dX8_passDay_22 : decode cX8_passDay 22 = .ok (.if_icmp .ge 25, 3) := by decide +kernel
theorem dX8_passDay_25 : decode cX8_passDay 25 = .ok (.aload_n 0, 1) := by decide +kernel
theorem dX8_passDay_26 : decode cX8_passDay 26 = .ok (.iload_n 2, 1) := by decide +kernel
theorem dX8_passDay_27 : decode cX8_passDay 27 = .ok (.aload_n 0, 1) := by decide +kernel
theorem dX8_passDay_28 : decode cX8_passDay 28 = .ok (.iload_n 2, 1) := by decide +kernel
theorem dX8_passDay_29 : decode cX8_passDay 29 = .ok (.invokevirtual 85, 3) := by decide +kernel
theorem dX8_passDay_32 : decode cX8_passDay 32 = .ok (.aload_n 0, 1) := by decide +kernel
theorem dX8_passDay_33 : decode cX8_passDay 33 = .ok (.iload_n 2, 1) := by decide +kernel
theorem dX8_passDay_34 : decode cX8_passDay 34 = .ok (.invokevirtual 62, 3) := by decide +kernel
theorem dX8_passDay_37 : decode cX8_passDay 37 = .ok (.iadd, 1) := by decide +kernel
theorem dX8_passDay_38 : decode cX8_passDay 38 = .ok (.invokevirtual 58, 3) := by decide +kernel
theorem dX8_passDay_41 : decode cX8_passDay 41 = .ok (.iinc 2 1, 3) := by decide +kernel
theorem dX8_passDay_44 : decode cX8_passDay 44 = .ok (.goto (-30), 3) := by decide +kernel
theorem dX8_passDay_47 : decode cX8_passDay 47 = .ok (.aload_n 0, 1) := by decide +kernel
theorem dX8_passDay_48 : decode cX8_passDay 48 = .ok (.dup, 1) := by decide +kernel
theorem dX8_passDay_49 : decode cX8_passDay 49 = .ok (.getfield 18, 3) := by decide +kernel
theorem dX8_passDay_52 : decode cX8_passDay 52 = .ok (.iconst 1, 1) := by decide +kernel
theorem dX8_passDay_53 : decode cX8_passDay 53 = .ok (.iadd, 1) := by decide +kernel
theorem dX8_passDay_54 : decode cX8_passDay 54 = .ok (.putfield 18, 3) := by decide +kernel
theorem dX8_passDay_57 : decode cX8_passDay 57 = .ok (.return_, 1) := by decide +kernel
theorem dX8_learnAllTold_0 : decode cX8_learnAllTold 0 = .ok (.aload_n 0, 1) := by decide +kernel
theorem dX8_learnAllTold_1 : decode cX8_learnAllTold 1 = .ok (.getfield 18, 3) := by decide +kernel
theorem dX8_learnAllTold_4 : decode cX8_learnAllTold 4 = .ok (.bipush 14, 2) := by decide +kernel
theorem dX8_learnAllTold_6 : decode cX8_learnAllTold 6 = .ok (.irem, 1) := by decide +kernel
theorem dX8_learnAllTold_7 : decode cX8_learnAllTold 7 = .ok (.istore_n 1, 1) := by decide +kernel
theorem dX8_learnAllTold_8 : decode cX8_learnAllTold 8 = .ok (.iconst 0, 1) := by decide +kernel
theorem dX8_learnAllTold_9 : decode cX8_learnAllTold 9 = .ok (.istore_n 2, 1) := by decide +kernel
theorem dX8_learnAllTold_10 : decode cX8_learnAllTold 10 = .ok (.iload_n 2, 1) := by decide +kernel
theorem dX8_learnAllTold_11 : decode cX8_learnAllTold 11 = .ok (.aload_n 0, 1) := by decide +kernel
theorem dX8_learnAllTold_12 : decode cX8_learnAllTold 12 = .ok (.getfield 22, 3) := by decide +kernel
theorem dX8_learnAllTold_15 : decode cX8_learnAllTold 15 = .ok (.getfield 88, 3) := by decide +kernel
theorem dX8_learnAllTold_18 : decode cX8_learnAllTold 18 = .ok (.if_icmp .ge 50, 3) := by decide +kernel
theorem dX8_learnAllTold_21 : decode cX8_learnAllTold 21 = .ok (.aload_n 0, 1) := by decide +kernel
theorem dX8_learnAllTold_22 : decode cX8_learnAllTold 22 = .ok (.getfield 22, 3) := by decide +kernel
theorem dX8_learnAllTold_25 : decode cX8_learnAllTold 25 = .ok (.getfield 91, 3) := by decide +kernel
theorem dX8_learnAllTold_28 : decode cX8_learnAllTold 28 = .ok (.iload_n 2, 1) := by decide +kernel
theorem dX8_learnAllTold_29 : decode cX8_learnAllTold 29 = .ok (.invokestatic 31, 3) := by decide +kernel
theorem dX8_learnAllTold_32 : decode cX8_learnAllTold 32 = .ok (.iload_n 1, 1) := by decide +kernel
theorem dX8_learnAllTold_33 : decode cX8_learnAllTold 33 = .ok (.if_icmp .ne 29, 3) := by decide +kernel
theorem dX8_learnAllTold_36 : decode cX8_learnAllTold 36 = .ok (.aload_n 0, 1) := by decide +kernel
theorem dX8_learnAllTold_37 : decode cX8_learnAllTold 37 = .ok (.aload_n 0, 1) := by decide +kernel
theorem dX8_learnAllTold_38 : decode cX8_learnAllTold 38 = .ok (.getfield 22, 3) := by decide +kernel
theorem dX8_learnAllTold_41 : decode cX8_learnAllTold 41 = .ok (.getfield 94, 3) := by decide +kernel
theorem dX8_learnAllTold_44 : decode cX8_learnAllTold 44 = .ok (.iload_n 2, 1) := by decide +kernel
theorem dX8_learnAllTold_45 : decode cX8_learnAllTold 45 = .ok (.invokestatic 31, 3) := by decide +kernel
theorem dX8_learnAllTold_48 : decode cX8_learnAllTold 48 = .ok (.aload_n 0, 1) := by decide +kernel
theorem dX8_learnAllTold_49 : decode cX8_learnAllTold 49 = .ok (.getfield 22, 3) := by decide +kernel
theorem dX8_learnAllTold_52 : decode cX8_learnAllTold 52 = .ok (.getfield 97, 3) := by decide +kernel
theorem dX8_learnAllTold_55 : decode cX8_learnAllTold 55 = .ok (.iload_n 2, 1) := by decide +kernel
theorem dX8_learnAllTold_56 : decode cX8_learnAllTold 56 = .ok (.invokestatic 31, 3) := by decide +kernel
theorem dX8_learnAllTold_59 : decode cX8_learnAllTold 59 = .ok (.invokevirtual 100, 3) := by decide +kernel
theorem dX8_learnAllTold_62 : decode cX8_learnAllTold 62 = .ok (.iinc 2 1, 3) := by decide +kernel
theorem dX8_learnAllTold_65 : decode cX8_learnAllTold 65 = .ok (.goto (-55), 3) := by decide +kernel
theorem dX8_learnAllTold_68 : decode cX8_learnAllTold 68 = .ok (.return_, 1) := by decide +kernel
theorem dX8_hearThroughWalls_0 : decode cX8_hearThroughWalls 0 = .ok (.iconst 0, 1) := by decide +kernel
theorem dX8_hearThroughWalls_1 : decode cX8_hearThroughWalls 1 = .ok (.istore_n 1, 1) := by decide +kernel
theorem dX8_hearThroughWalls_2 : decode cX8_hearThroughWalls 2 = .ok (.iload_n 1, 1) := by decide +kernel
theorem dX8_hearThroughWalls_3 : decode cX8_hearThroughWalls 3 = .ok (.aload_n 0, 1) := by decide +kernel
theorem dX8_hearThroughWalls_4 : decode cX8_hearThroughWalls 4 = .ok (.getfield 22, 3) := by decide +kernel
theorem dX8_hearThroughWalls_7 : decode cX8_hearThroughWalls 7 = .ok (.getfield 51, 3) := by decide +kernel
theorem dX8_hearThroughWalls_10 : decode cX8_hearThroughWalls 10 = .ok (.if_icmp .ge 48, 3) := by decide +kernel
theorem dX8_hearThroughWalls_13 : decode cX8_hearThroughWalls 13 = .ok (.iload_n 1, 1) := by decide +kernel
theorem dX8_hearThroughWalls_14 : decode cX8_hearThroughWalls 14 = .ok (.iconst 1, 1) := by decide +kernel
theorem dX8_hearThroughWalls_15 : decode cX8_hearThroughWalls 15 = .ok (.iadd, 1) := by decide +kernel
theorem dX8_hearThroughWalls_16 : decode cX8_hearThroughWalls 16 = .ok (.istore_n 2, 1) := by decide +kernel
theorem dX8_hearThroughWalls_17 : decode cX8_hearThroughWalls 17 = .ok (.iload_n 2, 1) := by decide +kernel
theorem dX8_hearThroughWalls_18 : decode cX8_hearThroughWalls 18 = .ok (.aload_n 0, 1) := by decide +kernel
theorem dX8_hearThroughWalls_19 : decode cX8_hearThroughWalls 19 = .ok (.getfield 22, 3) := by decide +kernel
theorem dX8_hearThroughWalls_22 : decode cX8_hearThroughWalls 22 = .ok (.getfield 51, 3) := by decide +kernel
theorem dX8_hearThroughWalls_25 : decode cX8_hearThroughWalls 25 = .ok (.if_icmp .ge 27, 3) := by decide +kernel
theorem dX8_hearThroughWalls_28 : decode cX8_hearThroughWalls 28 = .ok (.aload_n 0, 1) := by decide +kernel
theorem dX8_hearThroughWalls_29 : decode cX8_hearThroughWalls 29 = .ok (.getfield 22, 3) := by decide +kernel
theorem dX8_hearThroughWalls_32 : decode cX8_hearThroughWalls 32 = .ok (.iload_n 1, 1) := by decide +kernel
theorem dX8_hearThroughWalls_33 : decode cX8_hearThroughWalls 33 = .ok (.iload_n 2, 1) := by decide +kernel
theorem dX8_hearThroughWalls_34 : decode cX8_hearThroughWalls 34 = .ok (.invokevirtual 103, 3) := by decide +kernel
theorem dX8_hearThroughWalls_37 : decode cX8_hearThroughWalls 37 = .ok (.ifCond .eq 9, 3) := by decide +kernel
theorem dX8_hearThroughWalls_40 : decode cX8_hearThroughWalls 40 = .ok (.aload_n 0, 1) := by decide +kernel
theorem dX8_hearThroughWalls_41 : decode cX8_hearThroughWalls 41 = .ok (.iload_n 1, 1) := by decide +kernel
theorem dX8_hearThroughWalls_42 : decode cX8_hearThroughWalls 42 = .ok (.iload_n 2, 1) := by decide +kernel
theorem dX8_hearThroughWalls_43 : decode cX8_hearThroughWalls 43 = .ok (.invokevirtual 107, 3) := by decide +kernel
theorem dX8_hearThroughWalls_46 : decode cX8_hearThroughWalls 46 = .ok (.iinc 2 1, 3) := by decide +kernel
theorem dX8_hearThroughWalls_49 : decode cX8_hearThroughWalls 49 = .ok (.goto (-32), 3) := by decide +kernel
theorem dX8_hearThroughWalls_52 : decode cX8_hearThroughWalls 52 = .ok (.iinc 1 1, 3) := by decide +kernel
theorem dX8_hearThroughWalls_55 : decode cX8_hearThroughWalls 55 = .ok (.goto (-53), 3) := by decide +kernel
theorem dX8_hearThroughWalls_58 : decode cX8_hearThroughWalls 58 = .ok (.return_, 1) := by decide +kernel
theorem dX8_drawNearer_0 : decode cX8_drawNearer 0 = .ok (.aload_n 0, 1) := by decide +kernel
theorem dX8_drawNearer_1 : decode cX8_drawNearer 1 = .ok (.iload_n 1, 1) := by decide +kernel
theorem dX8_drawNearer_2 : decode cX8_drawNearer 2 = .ok (.iload_n 2, 1) := by decide +kernel
theorem dX8_drawNearer_3 : decode cX8_drawNearer 3 = .ok (.invokevirtual 110, 3) := by decide +kernel
theorem dX8_drawNearer_6 : decode cX8_drawNearer 6 = .ok (.istore_n 3, 1) := by decide +kernel
theorem dX8_drawNearer_7 : decode cX8_drawNearer 7 = .ok (.aload_n 0, 1) := by decide +kernel
theorem dX8_drawNearer_8 : decode cX8_drawNearer 8 = .ok (.iload_n 1, 1) := by decide +kernel
theorem dX8_drawNearer_9 : decode cX8_drawNearer 9 = .ok (.invokevirtual 85, 3) := by decide +kernel
theorem dX8_drawNearer_12 : decode cX8_drawNearer 12 = .ok (.aload_n 0, 1) := by decide +kernel
theorem dX8_drawNearer_13 : decode cX8_drawNearer 13 = .ok (.iload_n 2, 1) := by decide +kernel
theorem dX8_drawNearer_14 : decode cX8_drawNearer 14 = .ok (.invokevirtual 85, 3) := by decide +kernel
theorem dX8_drawNearer_17 : decode cX8_drawNearer 17 = .ok (.if_icmp .le 7, 3) := by decide +kernel
theorem dX8_drawNearer_20 : decode cX8_drawNearer 20 = .ok (.iload_n 1, 1) := by decide +kernel
theorem dX8_drawNearer_21 : decode cX8_drawNearer 21 = .ok (.goto 4, 3) := by decide +kernel
theorem dX8_drawNearer_24 : decode cX8_drawNearer 24 = .ok (.iload_n 2, 1) := by decide +kernel
theorem dX8_drawNearer_25 : decode cX8_drawNearer 25 = .ok (.istore 4, 2) := by decide +kernel
theorem dX8_drawNearer_27 : decode cX8_drawNearer 27 = .ok (.iload 4, 2) := by decide +kernel
theorem dX8_drawNearer_29 : decode cX8_drawNearer 29 = .ok (.iload_n 1, 1) := by decide +kernel
theorem dX8_drawNearer_30 : decode cX8_drawNearer 30 = .ok (.if_icmp .ne 7, 3) := by decide +kernel
theorem dX8_drawNearer_33 : decode cX8_drawNearer 33 = .ok (.iload_n 2, 1) := by decide +kernel
theorem dX8_drawNearer_34 : decode cX8_drawNearer 34 = .ok (.goto 4, 3) := by decide +kernel
theorem dX8_drawNearer_37 : decode cX8_drawNearer 37 = .ok (.iload_n 1, 1) := by decide +kernel
theorem dX8_drawNearer_38 : decode cX8_drawNearer 38 = .ok (.istore 5, 2) := by decide +kernel
theorem dX8_drawNearer_40 : decode cX8_drawNearer 40 = .ok (.iload_n 3, 1) := by decide +kernel
theorem dX8_drawNearer_41 : decode cX8_drawNearer 41 = .ok (.ifCond .le 17, 3) := by decide +kernel
theorem dX8_drawNearer_44 : decode cX8_drawNearer 44 = .ok (.aload_n 0, 1) := by decide +kernel
theorem dX8_drawNearer_45 : decode cX8_drawNearer 45 = .ok (.iload 4, 2) := by decide +kernel
theorem dX8_drawNearer_47 : decode cX8_drawNearer 47 = .ok (.aload_n 0, 1) := by decide +kernel
theorem dX8_drawNearer_48 : decode cX8_drawNearer 48 = .ok (.iload 4, 2) := by decide +kernel
theorem dX8_drawNearer_50 : decode cX8_drawNearer 50 = .ok (.invokevirtual 85, 3) := by decide +kernel
theorem dX8_drawNearer_53 : decode cX8_drawNearer 53 = .ok (.iconst 1, 1) := by decide +kernel
theorem dX8_drawNearer_54 : decode cX8_drawNearer 54 = .ok (.isub, 1) := by decide +kernel
theorem dX8_drawNearer_55 : decode cX8_drawNearer 55 = .ok (.invokevirtual 58, 3) := by decide +kernel
theorem dX8_drawNearer_58 : decode cX8_drawNearer 58 = .ok (.iload_n 3, 1) := by decide +kernel
theorem dX8_drawNearer_59 : decode cX8_drawNearer 59 = .ok (.iconst 1, 1) := by decide +kernel
theorem dX8_drawNearer_60 : decode cX8_drawNearer 60 = .ok (.if_icmp .le 17, 3) := by decide +kernel
theorem dX8_drawNearer_63 : decode cX8_drawNearer 63 = .ok (.aload_n 0, 1) := by decide +kernel
theorem dX8_drawNearer_64 : decode cX8_drawNearer 64 = .ok (.iload 5, 2) := by decide +kernel
theorem dX8_drawNearer_66 : decode cX8_drawNearer 66 = .ok (.aload_n 0, 1) := by decide +kernel
theorem dX8_drawNearer_67 : decode cX8_drawNearer 67 = .ok (.iload 5, 2) := by decide +kernel
theorem dX8_drawNearer_69 : decode cX8_drawNearer 69 = .ok (.invokevirtual 85, 3) := by decide +kernel
theorem dX8_drawNearer_72 : decode cX8_drawNearer 72 = .ok (.iconst 1, 1) := by decide +kernel
theorem dX8_drawNearer_73 : decode cX8_drawNearer 73 = .ok (.iadd, 1) := by decide +kernel
theorem dX8_drawNearer_74 : decode cX8_drawNearer 74 = .ok (.invokevirtual 58, 3) := by decide +kernel
theorem dX8_drawNearer_77 : decode cX8_drawNearer 77 = .ok (.return_, 1) := by decide +kernel
theorem dX8_minutesApart_0 : decode cX8_minutesApart 0 = .ok (.aload_n 0, 1) := by decide +kernel
theorem dX8_minutesApart_1 : decode cX8_minutesApart 1 = .ok (.getfield 9, 3) := by decide +kernel
theorem dX8_minutesApart_4 : decode cX8_minutesApart 4 = .ok (.iload_n 1, 1) := by decide +kernel
theorem dX8_minutesApart_5 : decode cX8_minutesApart 5 = .ok (.invokestatic 31, 3) := by decide +kernel
theorem dX8_minutesApart_8 : decode cX8_minutesApart 8 = .ok (.aload_n 0, 1) := by decide +kernel
theorem dX8_minutesApart_9 : decode cX8_minutesApart 9 = .ok (.getfield 9, 3) := by decide +kernel
theorem dX8_minutesApart_12 : decode cX8_minutesApart 12 = .ok (.iload_n 2, 1) := by decide +kernel
theorem dX8_minutesApart_13 : decode cX8_minutesApart 13 = .ok (.invokestatic 31, 3) := by decide +kernel
theorem dX8_minutesApart_16 : decode cX8_minutesApart 16 = .ok (.isub, 1) := by decide +kernel
theorem dX8_minutesApart_17 : decode cX8_minutesApart 17 = .ok (.invokestatic 113, 3) := by decide +kernel
theorem dX8_minutesApart_20 : decode cX8_minutesApart 20 = .ok (.ireturn, 1) := by decide +kernel
theorem dX8_middle_0 : decode cX8_middle 0 = .ok (.aload_n 0, 1) := by decide +kernel
theorem dX8_middle_1 : decode cX8_middle 1 = .ok (.getfield 22, 3) := by decide +kernel
theorem dX8_middle_4 : decode cX8_middle 4 = .ok (.getfield 51, 3) := by decide +kernel
theorem dX8_middle_7 : decode cX8_middle 7 = .ok (.iconst 1, 1) := by decide +kernel
theorem dX8_middle_8 : decode cX8_middle 8 = .ok (.isub, 1) := by decide +kernel
theorem dX8_middle_9 : decode cX8_middle 9 = .ok (.iconst 2, 1) := by decide +kernel
theorem dX8_middle_10 : decode cX8_middle 10 = .ok (.idiv, 1) := by decide +kernel
theorem dX8_middle_11 : decode cX8_middle 11 = .ok (.istore_n 1, 1) := by decide +kernel
theorem dX8_middle_12 : decode cX8_middle 12 = .ok (.iconst 0, 1) := by decide +kernel
theorem dX8_middle_13 : decode cX8_middle 13 = .ok (.istore_n 2, 1) := by decide +kernel
theorem dX8_middle_14 : decode cX8_middle 14 = .ok (.iload_n 2, 1) := by decide +kernel
theorem dX8_middle_15 : decode cX8_middle 15 = .ok (.aload_n 0, 1) := by decide +kernel
theorem dX8_middle_16 : decode cX8_middle 16 = .ok (.getfield 22, 3) := by decide +kernel
theorem dX8_middle_19 : decode cX8_middle 19 = .ok (.getfield 51, 3) := by decide +kernel
theorem dX8_middle_22 : decode cX8_middle 22 = .ok (.if_icmp .ge 100, 3) := by decide +kernel
theorem dX8_middle_25 : decode cX8_middle 25 = .ok (.iconst 0, 1) := by decide +kernel
theorem dX8_middle_26 : decode cX8_middle 26 = .ok (.istore_n 3, 1) := by decide +kernel
theorem dX8_middle_27 : decode cX8_middle 27 = .ok (.iconst 0, 1) := by decide +kernel
theorem dX8_middle_28 : decode cX8_middle 28 = .ok (.istore 4, 2) := by decide +kernel
theorem dX8_middle_30 : decode cX8_middle 30 = .ok (.iconst 0, 1) := by decide +kernel
theorem dX8_middle_31 : decode cX8_middle 31 = .ok (.istore 5, 2) := by decide +kernel
theorem dX8_middle_33 : decode cX8_middle 33 = .ok (.iload 5, 2) := by decide +kernel
theorem dX8_middle_35 : decode cX8_middle 35 = .ok (.aload_n 0, 1) := by decide +kernel
theorem dX8_middle_36 : decode cX8_middle 36 = .ok (.getfield 22, 3) := by decide +kernel
theorem dX8_middle_39 : decode cX8_middle 39 = .ok (.getfield 51, 3) := by decide +kernel
theorem dX8_middle_42 : decode cX8_middle 42 = .ok (.if_icmp .ge 55, 3) := by decide +kernel
theorem dX8_middle_45 : decode cX8_middle 45 = .ok (.iload_n 3, 1) := by decide +kernel
theorem dX8_middle_46 : decode cX8_middle 46 = .ok (.aload_n 0, 1) := by decide +kernel
theorem dX8_middle_47 : decode cX8_middle 47 = .ok (.iload 5, 2) := by decide +kernel
theorem dX8_middle_49 : decode cX8_middle 49 = .ok (.invokevirtual 85, 3) := by decide +kernel
theorem dX8_middle_52 : decode cX8_middle 52 = .ok (.aload_n 0, 1) := by decide +kernel
theorem dX8_middle_53 : decode cX8_middle 53 = .ok (.iload_n 2, 1) := by decide +kernel
theorem dX8_middle_54 : decode cX8_middle 54 = .ok (.invokevirtual 85, 3) := by decide +kernel
theorem dX8_middle_57 : decode cX8_middle 57 = .ok (.if_icmp .ge 7, 3) := by decide +kernel
theorem dX8_middle_60 : decode cX8_middle 60 = .ok (.iconst 1, 1) := by decide +kernel
theorem dX8_middle_61 : decode cX8_middle 61 = .ok (.goto 4, 3) := by decide +kernel
theorem dX8_middle_64 : decode cX8_middle 64 = .ok (.iconst 0, 1) := by decide +kernel
theorem dX8_middle_65 : decode cX8_middle 65 = .ok (.iadd, 1) := by decide +kernel
theorem dX8_middle_66 : decode cX8_middle 66 = .ok (.istore_n 3, 1) := by decide +kernel
theorem dX8_middle_67 : decode cX8_middle 67 = .ok (.iload 4, 2) := by decide +kernel
theorem dX8_middle_69 : decode cX8_middle 69 = .ok (.aload_n 0, 1) := by decide +kernel
theorem dX8_middle_70 : decode cX8_middle 70 = .ok (.iload 5, 2) := by decide +kernel
theorem dX8_middle_72 : decode cX8_middle 72 = .ok (.invokevirtual 85, 3) := by decide +kernel
theorem dX8_middle_75 : decode cX8_middle 75 = .ok (.aload_n 0, 1) := by decide +kernel
theorem dX8_middle_76 : decode cX8_middle 76 = .ok (.iload_n 2, 1) := by decide +kernel
theorem dX8_middle_77 : decode cX8_middle 77 = .ok (.invokevirtual 85, 3) := by decide +kernel
theorem dX8_middle_80 : decode cX8_middle 80 = .ok (.if_icmp .ne 7, 3) := by decide +kernel
theorem dX8_middle_83 : decode cX8_middle 83 = .ok (.iconst 1, 1) := by decide +kernel
theorem dX8_middle_84 : decode cX8_middle 84 = .ok (.goto 4, 3) := by decide +kernel
theorem dX8_middle_87 : decode cX8_middle 87 = .ok (.iconst 0, 1) := by decide +kernel
theorem dX8_middle_88 : decode cX8_middle 88 = .ok (.iadd, 1) := by decide +kernel
theorem dX8_middle_89 : decode cX8_middle 89 = .ok (.istore 4, 2) := by decide +kernel
theorem dX8_middle_91 : decode cX8_middle 91 = .ok (.iinc 5 1, 3) := by decide +kernel
theorem dX8_middle_94 : decode cX8_middle 94 = .ok (.goto (-61), 3) := by decide +kernel
theorem dX8_middle_97 : decode cX8_middle 97 = .ok (.iload_n 3, 1) := by decide +kernel
theorem dX8_middle_98 : decode cX8_middle 98 = .ok (.iload_n 1, 1) := by decide +kernel
theorem dX8_middle_99 : decode cX8_middle 99 = .ok (.if_icmp .gt 17, 3) := by decide +kernel
theorem dX8_middle_102 : decode cX8_middle 102 = .ok (.iload_n 1, 1) := by decide +kernel
theorem dX8_middle_103 : decode cX8_middle 103 = .ok (.iload_n 3, 1) := by decide +kernel
theorem dX8_middle_104 : decode cX8_middle 104 = .ok (.iload 4, 2) := by decide +kernel
theorem dX8_middle_106 : decode cX8_middle 106 = .ok (.iadd, 1) := by decide +kernel
theorem dX8_middle_107 : decode cX8_middle 107 = .ok (.if_icmp .ge 9, 3) := by decide +kernel
theorem dX8_middle_110 : decode cX8_middle 110 = .ok (.aload_n 0, 1) := by decide +kernel
theorem dX8_middle_111 : decode cX8_middle 111 = .ok (.iload_n 2, 1) := by decide +kernel
theorem dX8_middle_112 : decode cX8_middle 112 = .ok (.invokevirtual 85, 3) := by decide +kernel
theorem dX8_middle_115 : decode cX8_middle 115 = .ok (.ireturn, 1) := by decide +kernel
theorem dX8_middle_116 : decode cX8_middle 116 = .ok (.iinc 2 1, 3) := by decide +kernel
theorem dX8_middle_119 : decode cX8_middle 119 = .ok (.goto (-105), 3) := by decide +kernel
theorem dX8_middle_122 : decode cX8_middle 122 = .ok (.iconst 0, 1) := by decide +kernel
theorem dX8_middle_123 : decode cX8_middle 123 = .ok (.ireturn, 1) := by decide +kernel
theorem dX8_rightOnes_0 : decode cX8_rightOnes 0 = .ok (.iconst 0, 1) := by decide +kernel
theorem dX8_rightOnes_1 : decode cX8_rightOnes 1 = .ok (.istore_n 1, 1) := by decide +kernel
theorem dX8_rightOnes_2 : decode cX8_rightOnes 2 = .ok (.iconst 0, 1) := by decide +kernel
theorem dX8_rightOnes_3 : decode cX8_rightOnes 3 = .ok (.istore_n 2, 1) := by decide +kernel
theorem dX8_rightOnes_4 : decode cX8_rightOnes 4 = .ok (.iload_n 2, 1) := by decide +kernel
theorem dX8_rightOnes_5 : decode cX8_rightOnes 5 = .ok (.aload_n 0, 1) := by decide +kernel
theorem dX8_rightOnes_6 : decode cX8_rightOnes 6 = .ok (.getfield 22, 3) := by decide +kernel
theorem dX8_rightOnes_9 : decode cX8_rightOnes 9 = .ok (.getfield 51, 3) := by decide +kernel
theorem dX8_rightOnes_12 : decode cX8_rightOnes 12 = .ok (.if_icmp .ge 25, 3) := by decide +kernel
theorem dX8_rightOnes_15 : decode cX8_rightOnes 15 = .ok (.iload_n 1, 1) := by decide +kernel
theorem dX8_rightOnes_16 : decode cX8_rightOnes 16 = .ok (.aload_n 0, 1) := by decide +kernel
theorem dX8_rightOnes_17 : decode cX8_rightOnes 17 = .ok (.iload_n 2, 1) := by decide +kernel
theorem dX8_rightOnes_18 : decode cX8_rightOnes 18 = .ok (.invokevirtual 85, 3) := by decide +kernel
theorem dX8_rightOnes_21 : decode cX8_rightOnes 21 = .ok (.ifCond .ne 7, 3) := by decide +kernel
theorem dX8_rightOnes_24 : decode cX8_rightOnes 24 = .ok (.iconst 1, 1) := by decide +kernel
theorem dX8_rightOnes_25 : decode cX8_rightOnes 25 = .ok (.goto 4, 3) := by decide +kernel
theorem dX8_rightOnes_28 : decode cX8_rightOnes 28 = .ok (.iconst 0, 1) := by decide +kernel
theorem dX8_rightOnes_29 : decode cX8_rightOnes 29 = .ok (.iadd, 1) := by decide +kernel
theorem dX8_rightOnes_30 : decode cX8_rightOnes 30 = .ok (.istore_n 1, 1) := by decide +kernel
theorem dX8_rightOnes_31 : decode cX8_rightOnes 31 = .ok (.iinc 2 1, 3) := by decide +kernel
theorem dX8_rightOnes_34 : decode cX8_rightOnes 34 = .ok (.goto (-30), 3) := by decide +kernel
theorem dX8_rightOnes_37 : decode cX8_rightOnes 37 = .ok (.iload_n 1, 1) := by decide +kernel
theorem dX8_rightOnes_38 : decode cX8_rightOnes 38 = .ok (.ireturn, 1) := by decide +kernel
theorem dX8_wrongTogether_0 : decode cX8_wrongTogether 0 = .ok (.iconst 0, 1) := by decide +kernel
theorem dX8_wrongTogether_1 : decode cX8_wrongTogether 1 = .ok (.istore_n 1, 1) := by decide +kernel
theorem dX8_wrongTogether_2 : decode cX8_wrongTogether 2 = .ok (.iconst 0, 1) := by decide +kernel
theorem dX8_wrongTogether_3 : decode cX8_wrongTogether 3 = .ok (.istore_n 2, 1) := by decide +kernel
theorem dX8_wrongTogether_4 : decode cX8_wrongTogether 4 = .ok (.iload_n 2, 1) := by decide +kernel
theorem dX8_wrongTogether_5 : decode cX8_wrongTogether 5 = .ok (.aload_n 0, 1) := by decide +kernel
theorem dX8_wrongTogether_6 : decode cX8_wrongTogether 6 = .ok (.getfield 22, 3) := by decide +kernel
theorem dX8_wrongTogether_9 : decode cX8_wrongTogether 9 = .ok (.getfield 51, 3) := by decide +kernel
theorem dX8_wrongTogether_12 : decode cX8_wrongTogether 12 = .ok (.if_icmp .ge 20, 3) := by decide +kernel
theorem dX8_wrongTogether_15 : decode cX8_wrongTogether 15 = .ok (.iload_n 1, 1) := by decide +kernel
theorem dX8_wrongTogether_16 : decode cX8_wrongTogether 16 = .ok (.aload_n 0, 1) := by decide +kernel
theorem dX8_wrongTogether_17 : decode cX8_wrongTogether 17 = .ok (.iload_n 2, 1) := by decide +kernel
theorem dX8_wrongTogether_18 : decode cX8_wrongTogether 18 = .ok (.invokevirtual 85, 3) := by decide +kernel
theorem dX8_wrongTogether_21 : decode cX8_wrongTogether 21 = .ok (.invokestatic 113, 3) := by decide +kernel
theorem dX8_wrongTogether_24 : decode cX8_wrongTogether 24 = .ok (.iadd, 1) := by decide +kernel
theorem dX8_wrongTogether_25 : decode cX8_wrongTogether 25 = .ok (.istore_n 1, 1) := by decide +kernel
theorem dX8_wrongTogether_26 : decode cX8_wrongTogether 26 = .ok (.iinc 2 1, 3) := by decide +kernel
theorem dX8_wrongTogether_29 : decode cX8_wrongTogether 29 = .ok (.goto (-25), 3) := by decide +kernel
theorem dX8_wrongTogether_32 : decode cX8_wrongTogether 32 = .ok (.iload_n 1, 1) := by decide +kernel
theorem dX8_wrongTogether_33 : decode cX8_wrongTogether 33 = .ok (.ireturn, 1) := by decide +kernel
theorem dX8_isWithin_0 : decode cX8_isWithin 0 = .ok (.iconst 0, 1) := by decide +kernel
theorem dX8_isWithin_1 : decode cX8_isWithin 1 = .ok (.istore_n 2, 1) := by decide +kernel
theorem dX8_isWithin_2 : decode cX8_isWithin 2 = .ok (.iload_n 2, 1) := by decide +kernel
theorem dX8_isWithin_3 : decode cX8_isWithin 3 = .ok (.aload_n 0, 1) := by decide +kernel
theorem dX8_isWithin_4 : decode cX8_isWithin 4 = .ok (.getfield 22, 3) := by decide +kernel
theorem dX8_isWithin_7 : decode cX8_isWithin 7 = .ok (.getfield 51, 3) := by decide +kernel
theorem dX8_isWithin_10 : decode cX8_isWithin 10 = .ok (.if_icmp .ge 23, 3) := by decide +kernel
theorem dX8_isWithin_13 : decode cX8_isWithin 13 = .ok (.aload_n 0, 1) := by decide +kernel
theorem dX8_isWithin_14 : decode cX8_isWithin 14 = .ok (.iload_n 2, 1) := by decide +kernel
theorem dX8_isWithin_15 : decode cX8_isWithin 15 = .ok (.invokevirtual 85, 3) := by decide +kernel
theorem dX8_isWithin_18 : decode cX8_isWithin 18 = .ok (.invokestatic 113, 3) := by decide +kernel
theorem dX8_isWithin_21 : decode cX8_isWithin 21 = .ok (.iload_n 1, 1) := by decide +kernel
theorem dX8_isWithin_22 : decode cX8_isWithin 22 = .ok (.if_icmp .le 5, 3) := by decide +kernel
theorem dX8_isWithin_25 : decode cX8_isWithin 25 = .ok (.iconst 0, 1) := by decide +kernel
theorem dX8_isWithin_26 : decode cX8_isWithin 26 = .ok (.ireturn, 1) := by decide +kernel
theorem dX8_isWithin_27 : decode cX8_isWithin 27 = .ok (.iinc 2 1, 3) := by decide +kernel
theorem dX8_isWithin_30 : decode cX8_isWithin 30 = .ok (.goto (-28), 3) := by decide +kernel
theorem dX8_isWithin_33 : decode cX8_isWithin 33 = .ok (.iconst 1, 1) := by decide +kernel
theorem dX8_isWithin_34 : decode cX8_isWithin 34 = .ok (.ireturn, 1) := by decide +kernel
theorem dX8_isDull_0 : decode cX8_isDull 0 = .ok (.aload_n 0, 1) := by decide +kernel
theorem dX8_isDull_1 : decode cX8_isDull 1 = .ok (.iload_n 1, 1) := by decide +kernel
theorem dX8_isDull_2 : decode cX8_isDull 2 = .ok (.invokevirtual 85, 3) := by decide +kernel
theorem dX8_isDull_5 : decode cX8_isDull 5 = .ok (.invokestatic 113, 3) := by decide +kernel
theorem dX8_isDull_8 : decode cX8_isDull 8 = .ok (.istore_n 2, 1) := by decide +kernel
theorem dX8_isDull_9 : decode cX8_isDull 9 = .ok (.iconst 0, 1) := by decide +kernel
theorem dX8_isDull_10 : decode cX8_isDull 10 = .ok (.istore_n 3, 1) := by decide +kernel
theorem dX8_isDull_11 : decode cX8_isDull 11 = .ok (.iload_n 3, 1) := by decide +kernel
theorem dX8_isDull_12 : decode cX8_isDull 12 = .ok (.aload_n 0, 1) := by decide +kernel
theorem dX8_isDull_13 : decode cX8_isDull 13 = .ok (.getfield 22, 3) := by decide +kernel
theorem dX8_isDull_16 : decode cX8_isDull 16 = .ok (.getfield 51, 3) := by decide +kernel
theorem dX8_isDull_19 : decode cX8_isDull 19 = .ok (.if_icmp .ge 37, 3) := by decide +kernel
theorem dX8_isDull_22 : decode cX8_isDull 22 = .ok (.iload_n 3, 1) := by decide +kernel
theorem dX8_isDull_23 : decode cX8_isDull 23 = .ok (.iload_n 1, 1) := by decide +kernel
theorem dX8_isDull_24 : decode cX8_isDull 24 = .ok (.if_icmp .eq 26, 3) := by decide +kernel
theorem dX8_isDull_27 : decode cX8_isDull 27 = .ok (.aload_n 0, 1) := by decide +kernel
theorem dX8_isDull_28 : decode cX8_isDull 28 = .ok (.iload_n 1, 1) := by decide +kernel
theorem dX8_isDull_29 : decode cX8_isDull 29 = .ok (.invokevirtual 68, 3) := by decide +kernel
theorem dX8_isDull_32 : decode cX8_isDull 32 = .ok (.ifCond .eq 18, 3) := by decide +kernel
theorem dX8_isDull_35 : decode cX8_isDull 35 = .ok (.aload_n 0, 1) := by decide +kernel
theorem dX8_isDull_36 : decode cX8_isDull 36 = .ok (.iload_n 3, 1) := by decide +kernel
theorem dX8_isDull_37 : decode cX8_isDull 37 = .ok (.iload_n 1, 1) := by decide +kernel
theorem dX8_isDull_38 : decode cX8_isDull 38 = .ok (.invokevirtual 72, 3) := by decide +kernel
theorem dX8_isDull_41 : decode cX8_isDull 41 = .ok (.invokestatic 113, 3) := by decide +kernel
theorem dX8_isDull_44 : decode cX8_isDull 44 = .ok (.iload_n 2, 1) := by decide +kernel
theorem dX8_isDull_45 : decode cX8_isDull 45 = .ok (.if_icmp .ge 5, 3) := by decide +kernel
theorem dX8_isDull_48 : decode cX8_isDull 48 = .ok (.iconst 0, 1) := by decide +kernel
theorem dX8_isDull_49 : decode cX8_isDull 49 = .ok (.ireturn, 1) := by decide +kernel
theorem dX8_isDull_50 : decode cX8_isDull 50 = .ok (.iinc 3 1, 3) := by decide +kernel
theorem dX8_isDull_53 : decode cX8_isDull 53 = .ok (.goto (-42), 3) := by decide +kernel
theorem dX8_isDull_56 : decode cX8_isDull 56 = .ok (.iload_n 2, 1) := by decide +kernel
theorem dX8_isDull_57 : decode cX8_isDull 57 = .ok (.ifCond .eq 7, 3) := by decide +kernel
theorem dX8_isDull_60 : decode cX8_isDull 60 = .ok (.iconst 1, 1) := by decide +kernel
theorem dX8_isDull_61 : decode cX8_isDull 61 = .ok (.goto 4, 3) := by decide +kernel
theorem dX8_isDull_64 : decode cX8_isDull 64 = .ok (.iconst 0, 1) := by decide +kernel
theorem dX8_isDull_65 : decode cX8_isDull 65 = .ok (.ireturn, 1) := by decide +kernel
theorem dX9_init_0 : decode cX9_init 0 = .ok (.aload_n 0, 1) := by decide +kernel
theorem dX9_init_1 : decode cX9_init 1 = .ok (.invokespecial 3, 3) := by decide +kernel
theorem dX9_init_4 : decode cX9_init 4 = .ok (.aload_n 0, 1) := by decide +kernel
theorem dX9_init_5 : decode cX9_init 5 = .ok (.sipush 200, 3) := by decide +kernel
theorem dX9_init_8 : decode cX9_init 8 = .ok (.newarray .int, 2) := by decide +kernel
theorem dX9_init_10 : decode cX9_init 10 = .ok (.putfield 9, 3) := by decide +kernel
theorem dX9_init_13 : decode cX9_init 13 = .ok (.aload_n 0, 1) := by decide +kernel
theorem dX9_init_14 : decode cX9_init 14 = .ok (.iconst 0, 1) := by decide +kernel
theorem dX9_init_15 : decode cX9_init 15 = .ok (.putfield 15, 3) := by decide +kernel
theorem dX9_init_18 : decode cX9_init 18 = .ok (.return_, 1) := by decide +kernel
theorem dX9_append_0 : decode cX9_append 0 = .ok (.aload_n 0, 1) := by decide +kernel
theorem dX9_append_1 : decode cX9_append 1 = .ok (.getfield 15, 3) := by decide +kernel
theorem dX9_append_4 : decode cX9_append 4 = .ok (.sipush 200, 3) := by decide +kernel
theorem dX9_append_7 : decode cX9_append 7 = .ok (.if_icmp .ge 25, 3) := by decide +kernel
theorem dX9_append_10 : decode cX9_append 10 = .ok (.aload_n 0, 1) := by decide +kernel
theorem dX9_append_11 : decode cX9_append 11 = .ok (.getfield 9, 3) := by decide +kernel
theorem dX9_append_14 : decode cX9_append 14 = .ok (.aload_n 0, 1) := by decide +kernel
theorem dX9_append_15 : decode cX9_append 15 = .ok (.getfield 15, 3) := by decide +kernel
theorem dX9_append_18 : decode cX9_append 18 = .ok (.iload_n 1, 1) := by decide +kernel
theorem dX9_append_19 : decode cX9_append 19 = .ok (.invokestatic 19, 3) := by decide +kernel
theorem dX9_append_22 : decode cX9_append 22 = .ok (.aload_n 0, 1) := by decide +kernel
theorem dX9_append_23 : decode cX9_append 23 = .ok (.dup, 1) := by decide +kernel
theorem dX9_append_24 : decode cX9_append 24 = .ok (.getfield 15, 3) := by decide +kernel
theorem dX9_append_27 : decode cX9_append 27 = .ok (.iconst 1, 1) := by decide +kernel
theorem dX9_append_28 : decode cX9_append 28 = .ok (.iadd, 1) := by decide +kernel
theorem dX9_append_29 : decode cX9_append 29 = .ok (.putfield 15, 3) := by decide +kernel
theorem dX9_append_32 : decode cX9_append 32 = .ok (.return_, 1) := by decide +kernel
theorem dX9_letterAt_0 : decode cX9_letterAt 0 = .ok (.aload_n 0, 1) := by decide +kernel
theorem dX9_letterAt_1 : decode cX9_letterAt 1 = .ok (.getfield 9, 3) := by decide +kernel
theorem dX9_letterAt_4 : decode cX9_letterAt 4 = .ok (.iload_n 1, 1) := by decide +kernel
theorem dX9_letterAt_5 : decode cX9_letterAt 5 = .ok (.invokestatic 23, 3) := by decide +kernel
theorem dX9_letterAt_8 : decode cX9_letterAt 8 = .ok (.ireturn, 1) := by decide +kernel
theorem dX10_init_0 : decode cX10_init 0 = .ok (.aload_n 0, 1) := by decide +kernel
theorem dX10_init_1 : decode cX10_init 1 = .ok (.invokespecial 1, 3) := by decide +kernel
theorem dX10_init_4 : decode cX10_init 4 = .ok (.aload_n 0, 1) := by decide +kernel
theorem dX10_init_5 : decode cX10_init 5 = .ok (.new 7, 3) := by decide +kernel
theorem dX10_init_8 : decode cX10_init 8 = .ok (.dup, 1) := by decide +kernel
theorem dX10_init_9 : decode cX10_init 9 = .ok (.invokespecial 9, 3) := by decide +kernel
theorem dX10_init_12 : decode cX10_init 12 = .ok (.putfield 10, 3) := by decide +kernel
theorem dX10_init_15 : decode cX10_init 15 = .ok (.aload_n 0, 1) := by decide +kernel
theorem dX10_init_16 : decode cX10_init 16 = .ok (.new 16, 3) := by decide +kernel
theorem dX10_init_19 : decode cX10_init 19 = .ok (.dup, 1) := by decide +kernel
theorem dX10_init_20 : decode cX10_init 20 = .ok (.invokespecial 18, 3) := by decide +kernel
theorem dX10_init_23 : decode cX10_init 23 = .ok (.putfield 19, 3) := by decide +kernel
theorem dX10_init_26 : decode cX10_init 26 = .ok (.aload_n 0, 1) := by decide +kernel
theorem dX10_init_27 : decode cX10_init 27 = .ok (.new 16, 3) := by decide +kernel
theorem dX10_init_30 : decode cX10_init 30 = .ok (.dup, 1) := by decide +kernel
theorem dX10_init_31 : decode cX10_init 31 = .ok (.invokespecial 18, 3) := by decide +kernel
theorem dX10_init_34 : decode cX10_init 34 = .ok (.putfield 23, 3) := by decide +kernel
theorem dX10_init_37 : decode cX10_init 37 = .ok (.aload_n 0, 1) := by decide +kernel
theorem dX10_init_38 : decode cX10_init 38 = .ok (.new 26, 3) := by decide +kernel
theorem dX10_init_41 : decode cX10_init 41 = .ok (.dup, 1) := by decide +kernel
theorem dX10_init_42 : decode cX10_init 42 = .ok (.aload_n 0, 1) := by decide +kernel
theorem dX10_init_43 : decode cX10_init 43 = .ok (.getfield 23, 3) := by decide +kernel
theorem dX10_init_46 : decode cX10_init 46 = .ok (.invokespecial 28, 3) := by decide +kernel
theorem dX10_init_49 : decode cX10_init 49 = .ok (.putfield 31, 3) := by decide +kernel
theorem dX10_init_52 : decode cX10_init 52 = .ok (.aload_n 0, 1) := by decide +kernel
theorem dX10_init_53 : decode cX10_init 53 = .ok (.new 26, 3) := by decide +kernel
theorem dX10_init_56 : decode cX10_init 56 = .ok (.dup, 1) := by decide +kernel
theorem dX10_init_57 : decode cX10_init 57 = .ok (.aload_n 0, 1) := by decide +kernel
theorem dX10_init_58 : decode cX10_init 58 = .ok (.getfield 23, 3) := by decide +kernel
theorem dX10_init_61 : decode cX10_init 61 = .ok (.invokespecial 28, 3) := by decide +kernel
theorem dX10_init_64 : decode cX10_init 64 = .ok (.putfield 35, 3) := by decide +kernel
theorem dX10_init_67 : decode cX10_init 67 = .ok (.aload_n 0, 1) := by decide +kernel
theorem dX10_init_68 : decode cX10_init 68 = .ok (.new 38, 3) := by decide +kernel
theorem dX10_init_71 : decode cX10_init 71 = .ok (.dup, 1) := by decide +kernel
theorem dX10_init_72 : decode cX10_init 72 = .ok (.aload_n 0, 1) := by decide +kernel
theorem dX10_init_73 : decode cX10_init 73 = .ok (.getfield 23, 3) := by decide +kernel
theorem dX10_init_76 : decode cX10_init 76 = .ok (.bipush 8, 2) := by decide +kernel
theorem dX10_init_78 : decode cX10_init 78 = .ok (.invokespecial 40, 3) := by decide +kernel
theorem dX10_init_81 : decode cX10_init 81 = .ok (.putfield 43, 3) := by decide +kernel
theorem dX10_init_84 : decode cX10_init 84 = .ok (.aload_n 0, 1) := by decide +kernel
theorem dX10_init_85 : decode cX10_init 85 = .ok (.new 38, 3) := by decide +kernel
theorem dX10_init_88 : decode cX10_init 88 = .ok (.dup, 1) := by decide +kernel
theorem dX10_init_89 : decode cX10_init 89 = .ok (.aload_n 0, 1) := by decide +kernel
theorem dX10_init_90 : decode cX10_init 90 = .ok (.getfield 23, 3) := by decide +kernel
theorem dX10_init_93 : decode cX10_init 93 = .ok (.iconst 2, 1) := by decide +kernel
theorem dX10_init_94 : decode cX10_init 94 = .ok (.invokespecial 40, 3) := by decide +kernel
theorem dX10_init_97 : decode cX10_init 97 = .ok (.putfield 47, 3) := by decide +kernel
theorem dX10_init_100 : decode cX10_init 100 = .ok (.aload_n 0, 1) := by decide +kernel
theorem dX10_init_101 : decode cX10_init 101 = .ok (.new 50, 3) := by decide +kernel
theorem dX10_init_104 : decode cX10_init 104 = .ok (.dup, 1) := by decide +kernel
theorem dX10_init_105 : decode cX10_init 105 = .ok (.invokespecial 52, 3) := by decide +kernel
theorem dX10_init_108 : decode cX10_init 108 = .ok (.putfield 53, 3) := by decide +kernel
theorem dX10_init_111 : decode cX10_init 111 = .ok (.aload_n 0, 1) := by decide +kernel
theorem dX10_init_112 : decode cX10_init 112 = .ok (.new 57, 3) := by decide +kernel
theorem dX10_init_115 : decode cX10_init 115 = .ok (.dup, 1) := by decide +kernel
theorem dX10_init_116 : decode cX10_init 116 = .ok (.invokespecial 59, 3) := by decide +kernel
theorem dX10_init_119 : decode cX10_init 119 = .ok (.putfield 60, 3) := by decide +kernel
theorem dX10_init_122 : decode cX10_init 122 = .ok (.aload_n 0, 1) := by decide +kernel
theorem dX10_init_123 : decode cX10_init 123 = .ok (.new 64, 3) := by decide +kernel
theorem dX10_init_126 : decode cX10_init 126 = .ok (.dup, 1) := by decide +kernel
theorem dX10_init_127 : decode cX10_init 127 = .ok (.invokespecial 66, 3) := by decide +kernel
theorem dX10_init_130 : decode cX10_init 130 = .ok (.putfield 67, 3) := by decide +kernel
theorem dX10_init_133 : decode cX10_init 133 = .ok (.aload_n 0, 1) := by decide +kernel
theorem dX10_init_134 : decode cX10_init 134 = .ok (.new 71, 3) := by decide +kernel
theorem dX10_init_137 : decode cX10_init 137 = .ok (.dup, 1) := by decide +kernel
theorem dX10_init_138 : decode cX10_init 138 = .ok (.invokespecial 73, 3) := by decide +kernel
theorem dX10_init_141 : decode cX10_init 141 = .ok (.putfield 74, 3) := by decide +kernel
theorem dX10_init_144 : decode cX10_init 144 = .ok (.iconst 0, 1) := by decide +kernel
theorem dX10_init_145 : decode cX10_init 145 = .ok (.istore_n 1, 1) := by decide +kernel
theorem dX10_init_146 : decode cX10_init 146 = .ok (.iload_n 1, 1) := by decide +kernel
theorem dX10_init_147 : decode cX10_init 147 = .ok (.ldc 78, 2) := by decide +kernel
theorem dX10_init_149 : decode cX10_init 149 = .ok (.invokevirtual 80, 3) := by decide +kernel
theorem dX10_init_152 : decode cX10_init 152 = .ok (.if_icmp .ge 22, 3) := by decide +kernel
theorem dX10_init_155 : decode cX10_init 155 = .ok (.aload_n 0, 1) := by decide +kernel
theorem dX10_init_156 : decode cX10_init 156 = .ok (.getfield 10, 3) := by decide +kernel
theorem dX10_init_159 : decode cX10_init 159 = .ok (.ldc 78, 2) := by decide +kernel
theorem dX10_init_161 : decode cX10_init 161 = .ok (.iload_n 1, 1) := by decide +kernel
theorem dX10_init_162 : decode cX10_init 162 = .ok (.invokevirtual 86, 3) := by decide +kernel
theorem dX10_init_165 : decode cX10_init 165 = .ok (.invokevirtual 90, 3) := by decide +kernel
theorem dX10_init_168 : decode cX10_init 168 = .ok (.iinc 1 1, 3) := by decide +kernel
theorem dX10_init_171 : decode cX10_init 171 = .ok (.goto (-25), 3) := by decide +kernel
theorem dX10_init_174 : decode cX10_init 174 = .ok (.aload_n 0, 1) := by decide +kernel
theorem dX10_init_175 : decode cX10_init 175 = .ok (.getfield 23, 3) := by decide +kernel
theorem dX10_init_178 : decode cX10_init 178 = .ok (.aload_n 0, 1) := by decide +kernel
theorem dX10_init_179 : decode cX10_init 179 = .ok (.getfield 10, 3) := by decide +kernel
theorem dX10_init_182 : decode cX10_init 182 = .ok (.invokevirtual 94, 3) := by decide +kernel
theorem dX10_init_185 : decode cX10_init 185 = .ok (.pop, 1) := by decide +kernel
theorem dX10_init_186 : decode cX10_init 186 = .ok (.aload_n 0, 1) := by decide +kernel
theorem dX10_init_187 : decode cX10_init 187 = .ok (.getfield 31, 3) := by decide +kernel
theorem dX10_init_190 : decode cX10_init 190 = .ok (.invokevirtual 98, 3) := by decide +kernel
theorem dX10_init_193 : decode cX10_init 193 = .ok (.aload_n 0, 1) := by decide +kernel
theorem dX10_init_194 : decode cX10_init 194 = .ok (.getfield 10, 3) := by decide +kernel
theorem dX10_init_197 : decode cX10_init 197 = .ok (.iconst 0, 1) := by decide +kernel
theorem dX10_init_198 : decode cX10_init 198 = .ok (.putfield 101, 3) := by decide +kernel
theorem dX10_init_201 : decode cX10_init 201 = .ok (.return_, 1) := by decide +kernel
theorem dX10_write_0 : decode cX10_write 0 = .ok (.iload_n 1, 1) := by decide +kernel
theorem dX10_write_1 : decode cX10_write 1 = .ok (.bipush 32, 2) := by decide +kernel
theorem dX10_write_3 : decode cX10_write 3 = .ok (.if_icmp .lt 9, 3) := by decide +kernel
theorem dX10_write_6 : decode cX10_write 6 = .ok (.iload_n 1, 1) := by decide +kernel
theorem dX10_write_7 : decode cX10_write 7 = .ok (.bipush 126, 2) := by decide +kernel
theorem dX10_write_9 : decode cX10_write 9 = .ok (.if_icmp .le 5, 3) := by decide +kernel
theorem dX10_write_12 : decode cX10_write 12 = .ok (.iconst (-1), 1) := by decide +kernel
theorem dX10_write_13 : decode cX10_write 13 = .ok (.ireturn, 1) := by decide +kernel
theorem dX10_write_14 : decode cX10_write 14 = .ok (.aload_n 0, 1) := by decide +kernel
theorem dX10_write_15 : decode cX10_write 15 = .ok (.getfield 10, 3) := by decide +kernel
theorem dX10_write_18 : decode cX10_write 18 = .ok (.getfield 101, 3) := by decide +kernel
theorem dX10_write_21 : decode cX10_write 21 = .ok (.sipush 200, 3) := by decide +kernel
theorem dX10_write_24 : decode cX10_write 24 = .ok (.if_icmp .lt 6, 3) := by decide +kernel
theorem dX10_write_27 : decode cX10_write 27 = .ok (.bipush (-3), 2) := by decide +kernel
theorem dX10_write_29 : decode cX10_write 29 = .ok (.ireturn, 1) := by decide +kernel
theorem dX10_write_30 : decode cX10_write 30 = .ok (.aload_n 0, 1) := by decide +kernel
theorem dX10_write_31 : decode cX10_write 31 = .ok (.getfield 10, 3) := by decide +kernel
theorem dX10_write_34 : decode cX10_write 34 = .ok (.iload_n 1, 1) := by decide +kernel
theorem dX10_write_35 : decode cX10_write 35 = .ok (.invokevirtual 90, 3) := by decide +kernel
theorem dX10_write_38 : decode cX10_write 38 = .ok (.aload_n 0, 1) := by decide +kernel
theorem dX10_write_39 : decode cX10_write 39 = .ok (.getfield 10, 3) := by decide +kernel
theorem dX10_write_42 : decode cX10_write 42 = .ok (.getfield 101, 3) := by decide +kernel
theorem dX10_write_45 : decode cX10_write 45 = .ok (.ireturn, 1) := by decide +kernel
theorem dX10_wipe_0 : decode cX10_wipe 0 = .ok (.aload_n 0, 1) := by decide +kernel
theorem dX10_wipe_1 : decode cX10_wipe 1 = .ok (.getfield 10, 3) := by decide +kernel
theorem dX10_wipe_4 : decode cX10_wipe 4 = .ok (.getfield 101, 3) := by decide +kernel
theorem dX10_wipe_7 : decode cX10_wipe 7 = .ok (.istore_n 1, 1) := by decide +kernel
theorem dX10_wipe_8 : decode cX10_wipe 8 = .ok (.aload_n 0, 1) := by decide +kernel
theorem dX10_wipe_9 : decode cX10_wipe 9 = .ok (.getfield 10, 3) := by decide +kernel
theorem dX10_wipe_12 : decode cX10_wipe 12 = .ok (.iconst 0, 1) := by decide +kernel
theorem dX10_wipe_13 : decode cX10_wipe 13 = .ok (.putfield 101, 3) := by decide +kernel
theorem dX10_wipe_16 : decode cX10_wipe 16 = .ok (.iload_n 1, 1) := by decide +kernel
theorem dX10_wipe_17 : decode cX10_wipe 17 = .ok (.ireturn, 1) := by decide +kernel
theorem dX10_fault_0 : decode cX10_fault 0 = .ok (.aload_n 0, 1) := by decide +kernel
theorem dX10_fault_1 : decode cX10_fault 1 = .ok (.getfield 19, 3) := by decide +kernel
theorem dX10_fault_4 : decode cX10_fault 4 = .ok (.aload_n 0, 1) := by decide +kernel
theorem dX10_fault_5 : decode cX10_fault 5 = .ok (.getfield 10, 3) := by decide +kernel
theorem dX10_fault_8 : decode cX10_fault 8 = .ok (.invokevirtual 94, 3) := by decide +kernel
theorem dX10_fault_11 : decode cX10_fault 11 = .ok (.ireturn, 1) := by decide +kernel
theorem dX10_lay_0 : decode cX10_lay 0 = .ok (.aload_n 0, 1) := by decide +kernel
theorem dX10_lay_1 : decode cX10_lay 1 = .ok (.getfield 19, 3) := by decide +kernel
theorem dX10_lay_4 : decode cX10_lay 4 = .ok (.aload_n 0, 1) := by decide +kernel
theorem dX10_lay_5 : decode cX10_lay 5 = .ok (.getfield 10, 3) := by decide +kernel
theorem dX10_lay_8 : decode cX10_lay 8 = .ok (.invokevirtual 94, 3) := by decide +kernel
theorem dX10_lay_11 : decode cX10_lay 11 = .ok (.bipush (-4), 2) := by decide +kernel
theorem dX10_lay_13 : decode cX10_lay 13 = .ok (.if_icmp .ne 13, 3) := by decide +kernel
theorem dX10_lay_16 : decode cX10_lay 16 = .ok (.aload_n 0, 1) := by decide +kernel
theorem dX10_lay_17 : decode cX10_lay 17 = .ok (.getfield 19, 3) := by decide +kernel
theorem dX10_lay_20 : decode cX10_lay 20 = .ok (.getfield 104, 3) := by decide +kernel
theorem dX10_lay_23 : decode cX10_lay 23 = .ok (.ifCond .ne 6, 3) := by decide +kernel
theorem dX10_lay_26 : decode cX10_lay 26 = .ok (.bipush (-2), 2) := by decide +kernel
theorem dX10_lay_28 : decode cX10_lay 28 = .ok (.ireturn, 1) := by decide +kernel
theorem dX10_lay_29 : decode cX10_lay 29 = .ok (.aload_n 0, 1) := by decide +kernel
theorem dX10_lay_30 : decode cX10_lay 30 = .ok (.getfield 23, 3) := by decide +kernel
theorem dX10_lay_33 : decode cX10_lay 33 = .ok (.aload_n 0, 1) := by decide +kernel
theorem dX10_lay_34 : decode cX10_lay 34 = .ok (.getfield 10, 3) := by decide +kernel
theorem dX10_lay_37 : decode cX10_lay 37 = .ok (.invokevirtual 94, 3) := by decide +kernel
theorem dX10_lay_40 : decode cX10_lay 40 = .ok (.pop, 1) := by decide +kernel
theorem dX10_lay_41 : decode cX10_lay 41 = .ok (.aload_n 0, 1) := by decide +kernel
theorem dX10_lay_42 : decode cX10_lay 42 = .ok (.getfield 31, 3) := by decide +kernel
theorem dX10_lay_45 : decode cX10_lay 45 = .ok (.invokevirtual 98, 3) := by decide +kernel
theorem dX10_lay_48 : decode cX10_lay 48 = .ok (.aload_n 0, 1) := by decide +kernel
theorem dX10_lay_49 : decode cX10_lay 49 = .ok (.getfield 53, 3) := by decide +kernel
theorem dX10_lay_52 : decode cX10_lay 52 = .ok (.iconst 0, 1) := by decide +kernel
theorem dX10_lay_53 : decode cX10_lay 53 = .ok (.putfield 107, 3) := by decide +kernel
theorem dX10_lay_56 : decode cX10_lay 56 = .ok (.aload_n 0, 1) := by decide +kernel
theorem dX10_lay_57 : decode cX10_lay 57 = .ok (.getfield 43, 3) := by decide +kernel
theorem dX10_lay_60 : decode cX10_lay 60 = .ok (.iconst 0, 1) := by decide +kernel
theorem dX10_lay_61 : decode cX10_lay 61 = .ok (.putfield 110, 3) := by decide +kernel
theorem dX10_lay_64 : decode cX10_lay 64 = .ok (.aload_n 0, 1) := by decide +kernel
theorem dX10_lay_65 : decode cX10_lay 65 = .ok (.getfield 47, 3) := by decide +kernel
theorem dX10_lay_68 : decode cX10_lay 68 = .ok (.iconst 0, 1) := by decide +kernel
theorem dX10_lay_69 : decode cX10_lay 69 = .ok (.putfield 110, 3) := by decide +kernel
theorem dX10_lay_72 : decode cX10_lay 72 = .ok (.aload_n 0, 1) := by decide +kernel
theorem dX10_lay_73 : decode cX10_lay 73 = .ok (.getfield 23, 3) := by decide +kernel
theorem dX10_lay_76 : decode cX10_lay 76 = .ok (.getfield 104, 3) := by decide +kernel
theorem dX10_lay_79 : decode cX10_lay 79 = .ok (.ireturn, 1) := by decide +kernel
theorem dX10_clock_0 : decode cX10_clock 0 = .ok (.aload_n 0, 1) := by decide +kernel
theorem dX10_clock_1 : decode cX10_clock 1 = .ok (.getfield 23, 3) := by decide +kernel
theorem dX10_clock_4 : decode cX10_clock 4 = .ok (.iload_n 1, 1) := by decide +kernel
theorem dX10_clock_5 : decode cX10_clock 5 = .ok (.invokevirtual 113, 3) := by decide +kernel
theorem dX10_clock_8 : decode cX10_clock 8 = .ok (.ifCond .ne 5, 3) := by decide +kernel
theorem dX10_clock_11 : decode cX10_clock 11 = .ok (.iconst (-1), 1) := by decide +kernel
theorem dX10_clock_12 : decode cX10_clock 12 = .ok (.ireturn, 1) := by decide +kernel
theorem dX10_clock_13 : decode cX10_clock 13 = .ok (.iload_n 2, 1) := by decide +kernel
theorem dX10_clock_14 : decode cX10_clock 14 = .ok (.tableswitch 73 0 3 #[30, 39, 52, 64], 30) := by decide +kernel
theorem dX10_clock_44 : decode cX10_clock 44 = .ok (.aload_n 0, 1) := by decide +kernel
theorem dX10_clock_45 : decode cX10_clock 45 = .ok (.getfield 23, 3) := by decide +kernel
theorem dX10_clock_48 : decode cX10_clock 48 = .ok (.iload_n 1, 1) := by decide +kernel
theorem dX10_clock_49 : decode cX10_clock 49 = .ok (.invokevirtual 117, 3) := by decide +kernel
theorem dX10_clock_52 : decode cX10_clock 52 = .ok (.ireturn, 1) := by decide +kernel
theorem dX10_clock_53 : decode cX10_clock 53 = .ok (.aload_n 0, 1) := by decide +kernel
theorem dX10_clock_54 : decode cX10_clock 54 = .ok (.getfield 31, 3) := by decide +kernel
theorem dX10_clock_57 : decode cX10_clock 57 = .ok (.iload_n 1, 1) := by decide +kernel
theorem dX10_clock_58 : decode cX10_clock 58 = .ok (.invokevirtual 121, 3) := by decide +kernel
theorem dX10_clock_61 : decode cX10_clock 61 = .ok (.sipush 600, 3) := by decide +kernel
theorem dX10_clock_64 : decode cX10_clock 64 = .ok (.iadd, 1) := by decide +kernel
theorem dX10_clock_65 : decode cX10_clock 65 = .ok (.ireturn, 1) := by decide +kernel
theorem dX10_clock_66 : decode cX10_clock 66 = .ok (.aload_n 0, 1) := by decide +kernel
theorem dX10_clock_67 : decode cX10_clock 67 = .ok (.getfield 31, 3) := by decide +kernel
theorem dX10_clock_70 : decode cX10_clock 70 = .ok (.iload_n 1, 1) := by decide +kernel
theorem dX10_clock_71 : decode cX10_clock 71 = .ok (.invokevirtual 124, 3) := by decide +kernel
theorem dX10_clock_74 : decode cX10_clock 74 = .ok (.bipush 10, 2) := by decide +kernel
theorem dX10_clock_76 : decode cX10_clock 76 = .ok (.iadd, 1) := by decide +kernel
theorem dX10_clock_77 : decode cX10_clock 77 = .ok (.ireturn, 1) := by decide +kernel
theorem dX10_clock_78 : decode cX10_clock 78 = .ok (.aload_n 0, 1) := by decide +kernel
theorem dX10_clock_79 : decode cX10_clock 79 = .ok (.getfield 23, 3) := by decide +kernel
theorem dX10_clock_82 : decode cX10_clock 82 = .ok (.iload_n 1, 1) := by decide +kernel
theorem dX10_clock_83 : decode cX10_clock 83 = .ok (.invokevirtual 127, 3) := by decide +kernel
theorem dX10_clock_86 : decode cX10_clock 86 = .ok (.ireturn, 1) := by decide +kernel
theorem dX10_clock_87 : decode cX10_clock 87 = .ok (.iconst (-1), 1) := by decide +kernel
theorem dX10_clock_88 : decode cX10_clock 88 = .ok (.ireturn, 1) := by decide +kernel
theorem dX10_wall_0 : decode cX10_wall 0 = .ok (.aload_n 0, 1) := by decide +kernel
theorem dX10_wall_1 : decode cX10_wall 1 = .ok (.getfield 23, 3) := by decide +kernel
theorem dX10_wall_4 : decode cX10_wall 4 = .ok (.iload_n 1, 1) := by decide +kernel
theorem dX10_wall_5 : decode cX10_wall 5 = .ok (.iload_n 2, 1) := by decide +kernel
theorem dX10_wall_6 : decode cX10_wall 6 = .ok (.invokevirtual 130, 3) := by decide +kernel
theorem dX10_wall_9 : decode cX10_wall 9 = .ok (.ifCond .ne 5, 3) := by decide +kernel
theorem dX10_wall_12 : decode cX10_wall 12 = .ok (.iconst (-1), 1) := by decide +kernel
theorem dX10_wall_13 : decode cX10_wall 13 = .ok (.ireturn, 1) := by decide +kernel
theorem dX10_wall_14 : decode cX10_wall 14 = .ok (.aload_n 0, 1) := by decide +kernel
theorem dX10_wall_15 : decode cX10_wall 15 = .ok (.getfield 23, 3) := by decide +kernel
theorem dX10_wall_18 : decode cX10_wall 18 = .ok (.iload_n 1, 1) := by decide +kernel
theorem dX10_wall_19 : decode cX10_wall 19 = .ok (.iload_n 2, 1) := by decide +kernel
theorem dX10_wall_20 : decode cX10_wall 20 = .ok (.invokevirtual 134, 3) := by decide +kernel
theorem dX10_wall_23 : decode cX10_wall 23 = .ok (.ifCond .eq 7, 3) := by decide +kernel
theorem dX10_wall_26 : decode cX10_wall 26 = .ok (.iconst 1, 1) := by decide +kernel
theorem dX10_wall_27 : decode cX10_wall 27 = .ok (.goto 4, 3) := by decide +kernel
theorem dX10_wall_30 : decode cX10_wall 30 = .ok (.iconst 0, 1) := by decide +kernel
theorem dX10_wall_31 : decode cX10_wall 31 = .ok (.ireturn, 1) := by decide +kernel
theorem dX10_noon_0 : decode cX10_noon 0 = .ok (.aload_n 0, 1) := by decide +kernel
theorem dX10_noon_1 : decode cX10_noon 1 = .ok (.getfield 31, 3) := by decide +kernel
theorem dX10_noon_4 : decode cX10_noon 4 = .ok (.invokevirtual 137, 3) := by decide +kernel
theorem dX10_noon_7 : decode cX10_noon 7 = .ok (.sipush 600, 3) := by decide +kernel
theorem dX10_noon_10 : decode cX10_noon 10 = .ok (.iadd, 1) := by decide +kernel
theorem dX10_noon_11 : decode cX10_noon 11 = .ok (.ireturn, 1) := by decide +kernel
theorem dX10_pass_0 : decode cX10_pass 0 = .ok (.iload_n 1, 1) := by decide +kernel
theorem dX10_pass_1 : decode cX10_pass 1 = .ok (.iconst 1, 1) := by decide +kernel
theorem dX10_pass_2 : decode cX10_pass 2 = .ok (.if_icmp .lt 9, 3) := by decide +kernel
theorem dX10_pass_5 : decode cX10_pass 5 = .ok (.iload_n 1, 1) := by decide +kernel
theorem dX10_pass_6 : decode cX10_pass 6 = .ok (.bipush 20, 2) := by decide +kernel
theorem dX10_pass_8 : decode cX10_pass 8 = .ok (.if_icmp .le 5, 3) := by decide +kernel
theorem dX10_pass_11 : decode cX10_pass 11 = .ok (.iconst (-1), 1) := by decide +kernel
theorem dX10_pass_12 : decode cX10_pass 12 = .ok (.ireturn, 1) := by decide +kernel
theorem dX10_pass_13 : decode cX10_pass 13 = .ok (.aload_n 0, 1) := by decide +kernel
theorem dX10_pass_14 : decode cX10_pass 14 = .ok (.getfield 43, 3) := by decide +kernel
theorem dX10_pass_17 : decode cX10_pass 17 = .ok (.aload_n 0, 1) := by decide +kernel
theorem dX10_pass_18 : decode cX10_pass 18 = .ok (.getfield 31, 3) := by decide +kernel
theorem dX10_pass_21 : decode cX10_pass 21 = .ok (.invokevirtual 140, 3) := by decide +kernel
theorem dX10_pass_24 : decode cX10_pass 24 = .ok (.aload_n 0, 1) := by decide +kernel
theorem dX10_pass_25 : decode cX10_pass 25 = .ok (.getfield 31, 3) := by decide +kernel
theorem dX10_pass_28 : decode cX10_pass 28 = .ok (.iload_n 1, 1) := by decide +kernel
theorem dX10_pass_29 : decode cX10_pass 29 = .ok (.invokevirtual 144, 3) := by decide +kernel
theorem dX10_pass_32 : decode cX10_pass 32 = .ok (.aload_n 0, 1) := by decide +kernel
theorem dX10_pass_33 : decode cX10_pass 33 = .ok (.getfield 31, 3) := by decide +kernel
theorem dX10_pass_36 : decode cX10_pass 36 = .ok (.getfield 147, 3) := by decide +kernel
theorem dX10_pass_39 : decode cX10_pass 39 = .ok (.ireturn, 1) := by decide +kernel
theorem dX10_teach_0 : decode cX10_teach 0 = .ok (.aload_n 0, 1) := by decide +kernel
theorem dX10_teach_1 : decode cX10_teach 1 = .ok (.getfield 23, 3) := by decide +kernel
theorem dX10_teach_4 : decode cX10_teach 4 = .ok (.iload_n 1, 1) := by decide +kernel
theorem dX10_teach_5 : decode cX10_teach 5 = .ok (.iload_n 2, 1) := by decide +kernel
theorem dX10_teach_6 : decode cX10_teach 6 = .ok (.invokevirtual 130, 3) := by decide +kernel
theorem dX10_teach_9 : decode cX10_teach 9 = .ok (.ifCond .ne 5, 3) := by decide +kernel
theorem dX10_teach_12 : decode cX10_teach 12 = .ok (.iconst (-1), 1) := by decide +kernel
theorem dX10_teach_13 : decode cX10_teach 13 = .ok (.ireturn, 1) := by decide +kernel
theorem dX10_teach_14 : decode cX10_teach 14 = .ok (.aload_n 0, 1) := by decide +kernel
theorem dX10_teach_15 : decode cX10_teach 15 = .ok (.getfield 31, 3) := by decide +kernel
theorem dX10_teach_18 : decode cX10_teach 18 = .ok (.iload_n 2, 1) := by decide +kernel
theorem dX10_teach_19 : decode cX10_teach 19 = .ok (.invokevirtual 150, 3) := by decide +kernel
theorem dX10_teach_22 : decode cX10_teach 22 = .ok (.ifCond .ne 6, 3) := by decide +kernel
theorem dX10_teach_25 : decode cX10_teach 25 = .ok (.bipush (-2), 2) := by decide +kernel
theorem dX10_teach_27 : decode cX10_teach 27 = .ok (.ireturn, 1) := by decide +kernel
theorem dX10_teach_28 : decode cX10_teach 28 = .ok (.aload_n 0, 1) := by decide +kernel
theorem dX10_teach_29 : decode cX10_teach 29 = .ok (.getfield 43, 3) := by decide +kernel
theorem dX10_teach_32 : decode cX10_teach 32 = .ok (.aload_n 0, 1) := by decide +kernel
theorem dX10_teach_33 : decode cX10_teach 33 = .ok (.getfield 31, 3) := by decide +kernel
theorem dX10_teach_36 : decode cX10_teach 36 = .ok (.invokevirtual 140, 3) := by decide +kernel
theorem dX10_teach_39 : decode cX10_teach 39 = .ok (.aload_n 0, 1) := by decide +kernel
theorem dX10_teach_40 : decode cX10_teach 40 = .ok (.getfield 31, 3) := by decide +kernel
theorem dX10_teach_43 : decode cX10_teach 43 = .ok (.iload_n 1, 1) := by decide +kernel
theorem dX10_teach_44 : decode cX10_teach 44 = .ok (.iload_n 2, 1) := by decide +kernel
theorem dX10_teach_45 : decode cX10_teach 45 = .ok (.invokevirtual 153, 3) := by decide +kernel
theorem dX10_teach_48 : decode cX10_teach 48 = .ok (.aload_n 0, 1) := by decide +kernel
theorem dX10_teach_49 : decode cX10_teach 49 = .ok (.getfield 31, 3) := by decide +kernel
theorem dX10_teach_52 : decode cX10_teach 52 = .ok (.iload_n 2, 1) := by decide +kernel
theorem dX10_teach_53 : decode cX10_teach 53 = .ok (.invokevirtual 121, 3) := by decide +kernel
theorem dX10_teach_56 : decode cX10_teach 56 = .ok (.sipush 600, 3) := by decide +kernel
theorem dX10_teach_59 : decode cX10_teach 59 = .ok (.iadd, 1) := by decide +kernel
theorem dX10_teach_60 : decode cX10_teach 60 = .ok (.ireturn, 1) := by decide +kernel
theorem dX10_set_0 : decode cX10_set 0 = .ok (.aload_n 0, 1) := by decide +kernel
theorem dX10_set_1 : decode cX10_set 1 = .ok (.getfield 23, 3) := by decide +kernel
theorem dX10_set_4 : decode cX10_set 4 = .ok (.iload_n 1, 1) := by decide +kernel
theorem dX10_set_5 : decode cX10_set 5 = .ok (.invokevirtual 113, 3) := by decide +kernel
theorem dX10_set_8 : decode cX10_set 8 = .ok (.ifCond .ne 5, 3) := by decide +kernel
theorem dX10_set_11 : decode cX10_set 11 = .ok (.iconst (-1), 1) := by decide +kernel
theorem dX10_set_12 : decode cX10_set 12 = .ok (.ireturn, 1) := by decide +kernel
theorem dX10_set_13 : decode cX10_set 13 = .ok (.aload_n 0, 1) := by decide +kernel
theorem dX10_set_14 : decode cX10_set 14 = .ok (.getfield 31, 3) := by decide +kernel
theorem dX10_set_17 : decode cX10_set 17 = .ok (.iload_n 1, 1) := by decide +kernel
theorem dX10_set_18 : decode cX10_set 18 = .ok (.invokevirtual 121, 3) := by decide +kernel
theorem dX10_set_21 : decode cX10_set 21 = .ok (.istore_n 2, 1) := by decide +kernel
theorem dX10_set_22 : decode cX10_set 22 = .ok (.aload_n 0, 1) := by decide +kernel
theorem dX10_set_23 : decode cX10_set 23 = .ok (.getfield 43, 3) := by decide +kernel
theorem dX10_set_26 : decode cX10_set 26 = .ok (.aload_n 0, 1) := by decide +kernel
theorem dX10_set_27 : decode cX10_set 27 = .ok (.getfield 31, 3) := by decide +kernel
theorem dX10_set_30 : decode cX10_set 30 = .ok (.invokevirtual 140, 3) := by decide +kernel
theorem dX10_set_33 : decode cX10_set 33 = .ok (.aload_n 0, 1) := by decide +kernel
theorem dX10_set_34 : decode cX10_set 34 = .ok (.getfield 31, 3) := by decide +kernel
theorem dX10_set_37 : decode cX10_set 37 = .ok (.iload_n 1, 1) := by decide +kernel
theorem dX10_set_38 : decode cX10_set 38 = .ok (.iconst 0, 1) := by decide +kernel
theorem dX10_set_39 : decode cX10_set 39 = .ok (.invokevirtual 157, 3) := by decide +kernel
theorem dX10_set_42 : decode cX10_set 42 = .ok (.iload_n 2, 1) := by decide +kernel
theorem dX10_set_43 : decode cX10_set 43 = .ok (.sipush 600, 3) := by decide +kernel
theorem dX10_set_46 : decode cX10_set 46 = .ok (.iadd, 1) := by decide +kernel
theorem dX10_set_47 : decode cX10_set 47 = .ok (.ireturn, 1) := by decide +kernel
theorem dX10_oil_0 : decode cX10_oil 0 = .ok (.aload_n 0, 1) := by decide +kernel
theorem dX10_oil_1 : decode cX10_oil 1 = .ok (.getfield 23, 3) := by decide +kernel
theorem dX10_oil_4 : decode cX10_oil 4 = .ok (.iload_n 1, 1) := by decide +kernel
theorem dX10_oil_5 : decode cX10_oil 5 = .ok (.invokevirtual 113, 3) := by decide +kernel
theorem dX10_oil_8 : decode cX10_oil 8 = .ok (.ifCond .ne 5, 3) := by decide +kernel
theorem dX10_oil_11 : decode cX10_oil 11 = .ok (.iconst (-1), 1) := by decide +kernel
theorem dX10_oil_12 : decode cX10_oil 12 = .ok (.ireturn, 1) := by decide +kernel
theorem dX10_oil_13 : decode cX10_oil 13 = .ok (.aload_n 0, 1) := by decide +kernel
theorem dX10_oil_14 : decode cX10_oil 14 = .ok (.getfield 31, 3) := by decide +kernel
theorem dX10_oil_17 : decode cX10_oil 17 = .ok (.iload_n 1, 1) := by decide +kernel
theorem dX10_oil_18 : decode cX10_oil 18 = .ok (.invokevirtual 124, 3) := by decide +kernel
theorem dX10_oil_21 : decode cX10_oil 21 = .ok (.ifCond .ne 6, 3) := by decide +kernel
theorem dX10_oil_24 : decode cX10_oil 24 = .ok (.bipush (-2), 2) := by decide +kernel
theorem dX10_oil_26 : decode cX10_oil 26 = .ok (.ireturn, 1) := by decide +kernel
theorem dX10_oil_27 : decode cX10_oil 27 = .ok (.aload_n 0, 1) := by decide +kernel
theorem dX10_oil_28 : decode cX10_oil 28 = .ok (.getfield 43, 3) := by decide +kernel
theorem dX10_oil_31 : decode cX10_oil 31 = .ok (.aload_n 0, 1) := by decide +kernel
theorem dX10_oil_32 : decode cX10_oil 32 = .ok (.getfield 31, 3) := by decide +kernel
theorem dX10_oil_35 : decode cX10_oil 35 = .ok (.invokevirtual 140, 3) := by decide +kernel
theorem dX10_oil_38 : decode cX10_oil 38 = .ok (.aload_n 0, 1) := by decide +kernel
theorem dX10_oil_39 : decode cX10_oil 39 = .ok (.getfield 31, 3) := by decide +kernel
theorem dX10_oil_42 : decode cX10_oil 42 = .ok (.iload_n 1, 1) := by decide +kernel
theorem dX10_oil_43 : decode cX10_oil 43 = .ok (.invokevirtual 160, 3) := by decide +kernel
theorem dX10_oil_46 : decode cX10_oil 46 = .ok (.aload_n 0, 1) := by decide +kernel
theorem dX10_oil_47 : decode cX10_oil 47 = .ok (.getfield 31, 3) := by decide +kernel
theorem dX10_oil_50 : decode cX10_oil 50 = .ok (.iload_n 1, 1) := by decide +kernel
theorem dX10_oil_51 : decode cX10_oil 51 = .ok (.invokevirtual 124, 3) := by decide +kernel
theorem dX10_oil_54 : decode cX10_oil 54 = .ok (.bipush 10, 2) := by decide +kernel
theorem dX10_oil_56 : decode cX10_oil 56 = .ok (.iadd, 1) := by decide +kernel
theorem dX10_oil_57 : decode cX10_oil 57 = .ok (.ireturn, 1) := by decide +kernel
theorem dX10_undo_0 : decode cX10_undo 0 = .ok (.aload_n 0, 1) := by decide +kernel
theorem dX10_undo_1 : decode cX10_undo 1 = .ok (.getfield 43, 3) := by decide +kernel
theorem dX10_undo_4 : decode cX10_undo 4 = .ok (.getfield 110, 3) := by decide +kernel
theorem dX10_undo_7 : decode cX10_undo 7 = .ok (.ifCond .ne 6, 3) := by decide +kernel
theorem dX10_undo_10 : decode cX10_undo 10 = .ok (.bipush (-2), 2) := by decide +kernel
theorem dX10_undo_12 : decode cX10_undo 12 = .ok (.ireturn, 1) := by decide +kernel
theorem dX10_undo_13 : decode cX10_undo 13 = .ok (.aload_n 0, 1) := by decide +kernel
theorem dX10_undo_14 : decode cX10_undo 14 = .ok (.getfield 43, 3) := by decide +kernel
theorem dX10_undo_17 : decode cX10_undo 17 = .ok (.aload_n 0, 1) := by decide +kernel
theorem dX10_undo_18 : decode cX10_undo 18 = .ok (.getfield 31, 3) := by decide +kernel
theorem dX10_undo_21 : decode cX10_undo 21 = .ok (.invokevirtual 163, 3) := by decide +kernel
theorem dX10_undo_24 : decode cX10_undo 24 = .ok (.aload_n 0, 1) := by decide +kernel
theorem dX10_undo_25 : decode cX10_undo 25 = .ok (.getfield 43, 3) := by decide +kernel
theorem dX10_undo_28 : decode cX10_undo 28 = .ok (.getfield 110, 3) := by decide +kernel
theorem dX10_undo_31 : decode cX10_undo 31 = .ok (.ireturn, 1) := by decide +kernel
theorem dX10_behind_0 : decode cX10_behind 0 = .ok (.iload_n 1, 1) := by decide +kernel
theorem dX10_behind_1 : decode cX10_behind 1 = .ok (.ifCond .lt 25, 3) := by decide +kernel
theorem dX10_behind_4 : decode cX10_behind 4 = .ok (.iload_n 1, 1) := by decide +kernel
theorem dX10_behind_5 : decode cX10_behind 5 = .ok (.bipush 60, 2) := by decide +kernel
theorem dX10_behind_7 : decode cX10_behind 7 = .ok (.if_icmp .gt 19, 3) := by decide +kernel
theorem dX10_behind_10 : decode cX10_behind 10 = .ok (.iload_n 2, 1) := by decide +kernel
theorem dX10_behind_11 : decode cX10_behind 11 = .ok (.iconst (-1), 1) := by decide +kernel
theorem dX10_behind_12 : decode cX10_behind 12 = .ok (.if_icmp .eq 16, 3) := by decide +kernel
theorem dX10_behind_15 : decode cX10_behind 15 = .ok (.aload_n 0, 1) := by decide +kernel
theorem dX10_behind_16 : decode cX10_behind 16 = .ok (.getfield 23, 3) := by decide +kernel
theorem dX10_behind_19 : decode cX10_behind 19 = .ok (.iload_n 2, 1) := by decide +kernel
theorem dX10_behind_20 : decode cX10_behind 20 = .ok (.invokevirtual 113, 3) := by decide +kernel
theorem dX10_behind_23 : decode cX10_behind 23 = .ok (.ifCond .ne 5, 3) := by decide +kernel
theorem dX10_behind_26 : decode cX10_behind 26 = .ok (.iconst (-1), 1) := by decide +kernel
theorem dX10_behind_27 : decode cX10_behind 27 = .ok (.ireturn, 1) := by decide +kernel
theorem dX10_behind_28 : decode cX10_behind 28 = .ok (.aload_n 0, 1) := by decide +kernel
theorem dX10_behind_29 : decode cX10_behind 29 = .ok (.getfield 35, 3) := by decide +kernel
theorem dX10_behind_32 : decode cX10_behind 32 = .ok (.aload_n 0, 1) := by decide +kernel
theorem dX10_behind_33 : decode cX10_behind 33 = .ok (.getfield 31, 3) := by decide +kernel
theorem dX10_behind_36 : decode cX10_behind 36 = .ok (.invokevirtual 166, 3) := by decide +kernel
theorem dX10_behind_39 : decode cX10_behind 39 = .ok (.aload_n 0, 1) := by decide +kernel
theorem dX10_behind_40 : decode cX10_behind 40 = .ok (.getfield 35, 3) := by decide +kernel
theorem dX10_behind_43 : decode cX10_behind 43 = .ok (.iload_n 1, 1) := by decide +kernel
theorem dX10_behind_44 : decode cX10_behind 44 = .ok (.invokevirtual 144, 3) := by decide +kernel
theorem dX10_behind_47 : decode cX10_behind 47 = .ok (.iload_n 2, 1) := by decide +kernel
theorem dX10_behind_48 : decode cX10_behind 48 = .ok (.iconst (-1), 1) := by decide +kernel
theorem dX10_behind_49 : decode cX10_behind 49 = .ok (.if_icmp .ne 13, 3) := by decide +kernel
theorem dX10_behind_52 : decode cX10_behind 52 = .ok (.aload_n 0, 1) := by decide +kernel
theorem dX10_behind_53 : decode cX10_behind 53 = .ok (.getfield 35, 3) := by decide +kernel
theorem dX10_behind_56 : decode cX10_behind 56 = .ok (.invokevirtual 137, 3) := by decide +kernel
theorem dX10_behind_59 : decode cX10_behind 59 = .ok (.goto 11, 3) := by decide +kernel
theorem dX10_behind_62 : decode cX10_behind 62 = .ok (.aload_n 0, 1) := by decide +kernel
theorem dX10_behind_63 : decode cX10_behind 63 = .ok (.getfield 35, 3) := by decide +kernel
theorem dX10_behind_66 : decode cX10_behind 66 = .ok (.iload_n 2, 1) := by decide +kernel
theorem dX10_behind_67 : decode cX10_behind 67 = .ok (.invokevirtual 121, 3) := by decide +kernel
theorem dX10_behind_70 : decode cX10_behind 70 = .ok (.sipush 600, 3) := by decide +kernel
theorem dX10_behind_73 : decode cX10_behind 73 = .ok (.iadd, 1) := by decide +kernel
theorem dX10_behind_74 : decode cX10_behind 74 = .ok (.ireturn, 1) := by decide +kernel
theorem dX10_right_0 : decode cX10_right 0 = .ok (.iload_n 1, 1) := by decide +kernel
theorem dX10_right_1 : decode cX10_right 1 = .ok (.ifCond .lt 18, 3) := by decide +kernel
theorem dX10_right_4 : decode cX10_right 4 = .ok (.iload_n 1, 1) := by decide +kernel
theorem dX10_right_5 : decode cX10_right 5 = .ok (.bipush 100, 2) := by decide +kernel
theorem dX10_right_7 : decode cX10_right 7 = .ok (.if_icmp .gt 12, 3) := by decide +kernel
theorem dX10_right_10 : decode cX10_right 10 = .ok (.iload_n 2, 1) := by decide +kernel
theorem dX10_right_11 : decode cX10_right 11 = .ok (.ifCond .lt 8, 3) := by decide +kernel
theorem dX10_right_14 : decode cX10_right 14 = .ok (.iload_n 2, 1) := by decide +kernel
theorem dX10_right_15 : decode cX10_right 15 = .ok (.iconst 2, 1) := by decide +kernel
theorem dX10_right_16 : decode cX10_right 16 = .ok (.if_icmp .le 5, 3) := by decide +kernel
theorem dX10_right_19 : decode cX10_right 19 = .ok (.iconst (-1), 1) := by decide +kernel
theorem dX10_right_20 : decode cX10_right 20 = .ok (.ireturn, 1) := by decide +kernel
theorem dX10_right_21 : decode cX10_right 21 = .ok (.aload_n 0, 1) := by decide +kernel
theorem dX10_right_22 : decode cX10_right 22 = .ok (.getfield 35, 3) := by decide +kernel
theorem dX10_right_25 : decode cX10_right 25 = .ok (.aload_n 0, 1) := by decide +kernel
theorem dX10_right_26 : decode cX10_right 26 = .ok (.getfield 31, 3) := by decide +kernel
theorem dX10_right_29 : decode cX10_right 29 = .ok (.invokevirtual 166, 3) := by decide +kernel
theorem dX10_right_32 : decode cX10_right 32 = .ok (.aload_n 0, 1) := by decide +kernel
theorem dX10_right_33 : decode cX10_right 33 = .ok (.getfield 60, 3) := by decide +kernel
theorem dX10_right_36 : decode cX10_right 36 = .ok (.aload_n 0, 1) := by decide +kernel
theorem dX10_right_37 : decode cX10_right 37 = .ok (.getfield 35, 3) := by decide +kernel
theorem dX10_right_40 : decode cX10_right 40 = .ok (.iload_n 1, 1) := by decide +kernel
theorem dX10_right_41 : decode cX10_right 41 = .ok (.invokevirtual 169, 3) := by decide +kernel
theorem dX10_right_44 : decode cX10_right 44 = .ok (.aload_n 0, 1) := by decide +kernel
theorem dX10_right_45 : decode cX10_right 45 = .ok (.getfield 60, 3) := by decide +kernel
theorem dX10_right_48 : decode cX10_right 48 = .ok (.getfield 173, 3) := by decide +kernel
theorem dX10_right_51 : decode cX10_right 51 = .ok (.bipush (-4), 2) := by decide +kernel
theorem dX10_right_53 : decode cX10_right 53 = .ok (.if_icmp .eq 14, 3) := by decide +kernel
theorem dX10_right_56 : decode cX10_right 56 = .ok (.iload_n 2, 1) := by decide +kernel
theorem dX10_right_57 : decode cX10_right 57 = .ok (.aload_n 0, 1) := by decide +kernel
theorem dX10_right_58 : decode cX10_right 58 = .ok (.getfield 60, 3) := by decide +kernel
theorem dX10_right_61 : decode cX10_right 61 = .ok (.getfield 173, 3) := by decide +kernel
theorem dX10_right_64 : decode cX10_right 64 = .ok (.if_icmp .le 6, 3) := by decide +kernel
theorem dX10_right_67 : decode cX10_right 67 = .ok (.bipush (-4), 2) := by decide +kernel
theorem dX10_right_69 : decode cX10_right 69 = .ok (.ireturn, 1) := by decide +kernel
theorem dX10_right_70 : decode cX10_right 70 = .ok (.iload_n 2, 1) := by decide +kernel
theorem dX10_right_71 : decode cX10_right 71 = .ok (.ifCond .ne 11, 3) := by decide +kernel
theorem dX10_right_74 : decode cX10_right 74 = .ok (.aload_n 0, 1) := by decide +kernel
theorem dX10_right_75 : decode cX10_right 75 = .ok (.getfield 60, 3) := by decide +kernel
theorem dX10_right_78 : decode cX10_right 78 = .ok (.getfield 173, 3) := by decide +kernel
theorem dX10_right_81 : decode cX10_right 81 = .ok (.ireturn, 1) := by decide +kernel
theorem dX10_right_82 : decode cX10_right 82 = .ok (.iload_n 2, 1) := by decide +kernel
theorem dX10_right_83 : decode cX10_right 83 = .ok (.iconst 1, 1) := by decide +kernel
theorem dX10_right_84 : decode cX10_right 84 = .ok (.if_icmp .ne 13, 3) := by decide +kernel
theorem dX10_right_87 : decode cX10_right 87 = .ok (.aload_n 0, 1) := by decide +kernel
theorem dX10_right_88 : decode cX10_right 88 = .ok (.getfield 60, 3) := by decide +kernel
theorem dX10_right_91 : decode cX10_right 91 = .ok (.getfield 176, 3) := by decide +kernel
theorem dX10_right_94 : decode cX10_right 94 = .ok (.goto 10, 3) := by decide +kernel
theorem dX10_right_97 : decode cX10_right 97 = .ok (.aload_n 0, 1) := by decide +kernel
theorem dX10_right_98 : decode cX10_right 98 = .ok (.getfield 60, 3) := by decide +kernel
theorem dX10_right_101 : decode cX10_right 101 = .ok (.getfield 179, 3) := by decide +kernel
theorem dX10_right_104 : decode cX10_right 104 = .ok (.ireturn, 1) := by decide +kernel
theorem dX10_ring_0 : decode cX10_ring 0 = .ok (.iload_n 1, 1) := by decide +kernel
theorem dX10_ring_1 : decode cX10_ring 1 = .ok (.ifCond .lt 9, 3) := by decide +kernel
theorem dX10_ring_4 : decode cX10_ring 4 = .ok (.iload_n 1, 1) := by decide +kernel
theorem dX10_ring_5 : decode cX10_ring 5 = .ok (.bipush 7, 2) := by decide +kernel
theorem dX10_ring_7 : decode cX10_ring 7 = .ok (.if_icmp .le 5, 3) := by decide +kernel
theorem dX10_ring_10 : decode cX10_ring 10 = .ok (.iconst (-1), 1) := by decide +kernel
theorem dX10_ring_11 : decode cX10_ring 11 = .ok (.ireturn, 1) := by decide +kernel
theorem dX10_ring_12 : decode cX10_ring 12 = .ok (.iload_n 1, 1) := by decide +kernel
theorem dX10_ring_13 : decode cX10_ring 13 = .ok (.aload_n 0, 1) := by decide +kernel
theorem dX10_ring_14 : decode cX10_ring 14 = .ok (.getfield 23, 3) := by decide +kernel
theorem dX10_ring_17 : decode cX10_ring 17 = .ok (.getfield 104, 3) := by decide +kernel
theorem dX10_ring_20 : decode cX10_ring 20 = .ok (.if_icmp .le 6, 3) := by decide +kernel
theorem dX10_ring_23 : decode cX10_ring 23 = .ok (.bipush (-4), 2) := by decide +kernel
theorem dX10_ring_25 : decode cX10_ring 25 = .ok (.ireturn, 1) := by decide +kernel
theorem dX10_ring_26 : decode cX10_ring 26 = .ok (.aload_n 0, 1) := by decide +kernel
theorem dX10_ring_27 : decode cX10_ring 27 = .ok (.getfield 67, 3) := by decide +kernel
theorem dX10_ring_30 : decode cX10_ring 30 = .ok (.aload_n 0, 1) := by decide +kernel
theorem dX10_ring_31 : decode cX10_ring 31 = .ok (.getfield 31, 3) := by decide +kernel
theorem dX10_ring_34 : decode cX10_ring 34 = .ok (.aload_n 0, 1) := by decide +kernel
theorem dX10_ring_35 : decode cX10_ring 35 = .ok (.getfield 35, 3) := by decide +kernel
theorem dX10_ring_38 : decode cX10_ring 38 = .ok (.invokevirtual 182, 3) := by decide +kernel
theorem dX10_ring_41 : decode cX10_ring 41 = .ok (.iload_n 1, 1) := by decide +kernel
theorem dX10_ring_42 : decode cX10_ring 42 = .ok (.ifCond .ne 16, 3) := by decide +kernel
theorem dX10_ring_45 : decode cX10_ring 45 = .ok (.aload_n 0, 1) := by decide +kernel
theorem dX10_ring_46 : decode cX10_ring 46 = .ok (.getfield 67, 3) := by decide +kernel
theorem dX10_ring_49 : decode cX10_ring 49 = .ok (.getfield 185, 3) := by decide +kernel
theorem dX10_ring_52 : decode cX10_ring 52 = .ok (.getfield 189, 3) := by decide +kernel
theorem dX10_ring_55 : decode cX10_ring 55 = .ok (.goto 13, 3) := by decide +kernel
theorem dX10_ring_58 : decode cX10_ring 58 = .ok (.aload_n 0, 1) := by decide +kernel
theorem dX10_ring_59 : decode cX10_ring 59 = .ok (.getfield 67, 3) := by decide +kernel
theorem dX10_ring_62 : decode cX10_ring 62 = .ok (.iload_n 1, 1) := by decide +kernel
theorem dX10_ring_63 : decode cX10_ring 63 = .ok (.iconst 1, 1) := by decide +kernel
theorem dX10_ring_64 : decode cX10_ring 64 = .ok (.isub, 1) := by decide +kernel
theorem dX10_ring_65 : decode cX10_ring 65 = .ok (.invokevirtual 194, 3) := by decide +kernel
theorem dX10_ring_68 : decode cX10_ring 68 = .ok (.ireturn, 1) := by decide +kernel
theorem dX10_dull_0 : decode cX10_dull 0 = .ok (.iconst 0, 1) := by decide +kernel
theorem dX10_dull_1 : decode cX10_dull 1 = .ok (.istore_n 1, 1) := by decide +kernel
theorem dX10_dull_2 : decode cX10_dull 2 = .ok (.iconst 0, 1) := by decide +kernel
theorem dX10_dull_3 : decode cX10_dull 3 = .ok (.istore_n 2, 1) := by decide +kernel
theorem dX10_dull_4 : decode cX10_dull 4 = .ok (.iload_n 2, 1) := by decide +kernel
theorem dX10_dull_5 : decode cX10_dull 5 = .ok (.aload_n 0, 1) := by decide +kernel
theorem dX10_dull_6 : decode cX10_dull 6 = .ok (.getfield 23, 3) := by decide +kernel
theorem dX10_dull_9 : decode cX10_dull 9 = .ok (.getfield 104, 3) := by decide +kernel
theorem dX10_dull_12 : decode cX10_dull 12 = .ok (.if_icmp .ge 26, 3) := by decide +kernel
theorem dX10_dull_15 : decode cX10_dull 15 = .ok (.aload_n 0, 1) := by decide +kernel
theorem dX10_dull_16 : decode cX10_dull 16 = .ok (.getfield 31, 3) := by decide +kernel
theorem dX10_dull_19 : decode cX10_dull 19 = .ok (.iload_n 2, 1) := by decide +kernel
theorem dX10_dull_20 : decode cX10_dull 20 = .ok (.invokevirtual 197, 3) := by decide +kernel
theorem dX10_dull_23 : decode cX10_dull 23 = .ok (.ifCond .eq 9, 3) := by decide +kernel
theorem dX10_dull_26 : decode cX10_dull 26 = .ok (.iload_n 1, 1) := by decide +kernel
theorem dX10_dull_27 : decode cX10_dull 27 = .ok (.iconst 1, 1) := by decide +kernel
theorem dX10_dull_28 : decode cX10_dull 28 = .ok (.iload_n 2, 1) := by decide +kernel
theorem dX10_dull_29 : decode cX10_dull 29 = .ok (.ishl, 1) := by decide +kernel
theorem dX10_dull_30 : decode cX10_dull 30 = .ok (.ior, 1) := by decide +kernel
theorem dX10_dull_31 : decode cX10_dull 31 = .ok (.istore_n 1, 1) := by decide +kernel
theorem dX10_dull_32 : decode cX10_dull 32 = .ok (.iinc 2 1, 3) := by decide +kernel
theorem dX10_dull_35 : decode cX10_dull 35 = .ok (.goto (-31), 3) := by decide +kernel
theorem dX10_dull_38 : decode cX10_dull 38 = .ok (.iload_n 1, 1) := by decide +kernel
theorem dX10_dull_39 : decode cX10_dull 39 = .ok (.ireturn, 1) := by decide +kernel
theorem dX10_pairs_0 : decode cX10_pairs 0 = .ok (.iload_n 1, 1) := by decide +kernel
theorem dX10_pairs_1 : decode cX10_pairs 1 = .ok (.iconst (-1), 1) := by decide +kernel
theorem dX10_pairs_2 : decode cX10_pairs 2 = .ok (.if_icmp .eq 16, 3) := by decide +kernel
theorem dX10_pairs_5 : decode cX10_pairs 5 = .ok (.aload_n 0, 1) := by decide +kernel
theorem dX10_pairs_6 : decode cX10_pairs 6 = .ok (.getfield 23, 3) := by decide +kernel
theorem dX10_pairs_9 : decode cX10_pairs 9 = .ok (.iload_n 1, 1) := by decide +kernel
theorem dX10_pairs_10 : decode cX10_pairs 10 = .ok (.invokevirtual 113, 3) := by decide +kernel
theorem dX10_pairs_13 : decode cX10_pairs 13 = .ok (.ifCond .ne 5, 3) := by decide +kernel
theorem dX10_pairs_16 : decode cX10_pairs 16 = .ok (.iconst (-1), 1) := by decide +kernel
theorem dX10_pairs_17 : decode cX10_pairs 17 = .ok (.ireturn, 1) := by decide +kernel
theorem dX10_pairs_18 : decode cX10_pairs 18 = .ok (.aload_n 0, 1) := by decide +kernel
theorem dX10_pairs_19 : decode cX10_pairs 19 = .ok (.getfield 74, 3) := by decide +kernel
theorem dX10_pairs_22 : decode cX10_pairs 22 = .ok (.aload_n 0, 1) := by decide +kernel
theorem dX10_pairs_23 : decode cX10_pairs 23 = .ok (.getfield 31, 3) := by decide +kernel
theorem dX10_pairs_26 : decode cX10_pairs 26 = .ok (.invokevirtual 200, 3) := by decide +kernel
theorem dX10_pairs_29 : decode cX10_pairs 29 = .ok (.iload_n 1, 1) := by decide +kernel
theorem dX10_pairs_30 : decode cX10_pairs 30 = .ok (.iconst (-1), 1) := by decide +kernel
theorem dX10_pairs_31 : decode cX10_pairs 31 = .ok (.if_icmp .ne 16, 3) := by decide +kernel
theorem dX10_pairs_34 : decode cX10_pairs 34 = .ok (.aload_n 0, 1) := by decide +kernel
theorem dX10_pairs_35 : decode cX10_pairs 35 = .ok (.getfield 74, 3) := by decide +kernel
theorem dX10_pairs_38 : decode cX10_pairs 38 = .ok (.getfield 202, 3) := by decide +kernel
theorem dX10_pairs_41 : decode cX10_pairs 41 = .ok (.getfield 189, 3) := by decide +kernel
theorem dX10_pairs_44 : decode cX10_pairs 44 = .ok (.goto 11, 3) := by decide +kernel
theorem dX10_pairs_47 : decode cX10_pairs 47 = .ok (.aload_n 0, 1) := by decide +kernel
theorem dX10_pairs_48 : decode cX10_pairs 48 = .ok (.getfield 74, 3) := by decide +kernel
theorem dX10_pairs_51 : decode cX10_pairs 51 = .ok (.iload_n 1, 1) := by decide +kernel
theorem dX10_pairs_52 : decode cX10_pairs 52 = .ok (.invokevirtual 203, 3) := by decide +kernel
theorem dX10_pairs_55 : decode cX10_pairs 55 = .ok (.ireturn, 1) := by decide +kernel
theorem dX10_oils_0 : decode cX10_oils 0 = .ok (.aload_n 0, 1) := by decide +kernel
theorem dX10_oils_1 : decode cX10_oils 1 = .ok (.getfield 23, 3) := by decide +kernel
theorem dX10_oils_4 : decode cX10_oils 4 = .ok (.iload_n 1, 1) := by decide +kernel
theorem dX10_oils_5 : decode cX10_oils 5 = .ok (.invokevirtual 113, 3) := by decide +kernel
theorem dX10_oils_8 : decode cX10_oils 8 = .ok (.ifCond .eq 24, 3) := by decide +kernel
theorem dX10_oils_11 : decode cX10_oils 11 = .ok (.iload_n 2, 1) := by decide +kernel
theorem dX10_oils_12 : decode cX10_oils 12 = .ok (.iconst 1, 1) := by decide +kernel
theorem dX10_oils_13 : decode cX10_oils 13 = .ok (.if_icmp .lt 19, 3) := by decide +kernel
theorem dX10_oils_16 : decode cX10_oils 16 = .ok (.iload_n 2, 1) := by decide +kernel
theorem dX10_oils_17 : decode cX10_oils 17 = .ok (.bipush 30, 2) := by decide +kernel
theorem dX10_oils_19 : decode cX10_oils 19 = .ok (.if_icmp .gt 13, 3) := by decide +kernel
theorem dX10_oils_22 : decode cX10_oils 22 = .ok (.iload_n 3, 1) := by decide +kernel
theorem dX10_oils_23 : decode cX10_oils 23 = .ok (.ifCond .lt 9, 3) := by decide +kernel
theorem dX10_oils_26 : decode cX10_oils 26 = .ok (.iload_n 3, 1) := by decide +kernel
theorem dX10_oils_27 : decode cX10_oils 27 = .ok (.bipush 100, 2) := by decide +kernel
theorem dX10_oils_29 : decode cX10_oils 29 = .ok (.if_icmp .le 5, 3) := by decide +kernel
theorem dX10_oils_32 : decode cX10_oils 32 = .ok (.iconst (-1), 1) := by decide +kernel
theorem dX10_oils_33 : decode cX10_oils 33 = .ok (.ireturn, 1) := by decide +kernel
theorem dX10_oils_34 : decode cX10_oils 34 = .ok (.iconst 0, 1) := by decide +kernel
theorem dX10_oils_35 : decode cX10_oils 35 = .ok (.istore 4, 2) := by decide +kernel
theorem dX10_oils_37 : decode cX10_oils 37 = .ok (.iload 4, 2) := by decide +kernel
theorem dX10_oils_39 : decode cX10_oils 39 = .ok (.bipush 10, 2) := by decide +kernel
theorem dX10_oils_41 : decode cX10_oils 41 = .ok (.if_icmp .gt 70, 3) := by decide +kernel
theorem dX10_oils_44 : decode cX10_oils 44 = .ok (.aload_n 0, 1) := by decide +kernel
theorem dX10_oils_45 : decode cX10_oils 45 = .ok (.getfield 35, 3) := by decide +kernel
theorem dX10_oils_48 : decode cX10_oils 48 = .ok (.aload_n 0, 1) := by decide +kernel
theorem dX10_oils_49 : decode cX10_oils 49 = .ok (.getfield 31, 3) := by decide +kernel
theorem dX10_oils_52 : decode cX10_oils 52 = .ok (.invokevirtual 166, 3) := by decide +kernel
theorem dX10_oils_55 : decode cX10_oils 55 = .ok (.iconst 0, 1) := by decide +kernel
theorem dX10_oils_56 : decode cX10_oils 56 = .ok (.istore 5, 2) := by decide +kernel
theorem dX10_oils_58 : decode cX10_oils 58 = .ok (.iload 5, 2) := by decide +kernel
theorem dX10_oils_60 : decode cX10_oils 60 = .ok (.iload 4, 2) := by decide +kernel
theorem dX10_oils_62 : decode cX10_oils 62 = .ok (.if_icmp .ge 17, 3) := by decide +kernel
theorem dX10_oils_65 : decode cX10_oils 65 = .ok (.aload_n 0, 1) := by decide +kernel
theorem dX10_oils_66 : decode cX10_oils 66 = .ok (.getfield 35, 3) := by decide +kernel
theorem dX10_oils_69 : decode cX10_oils 69 = .ok (.iload_n 1, 1) := by decide +kernel
theorem dX10_oils_70 : decode cX10_oils 70 = .ok (.invokevirtual 160, 3) := by decide +kernel
theorem dX10_oils_73 : decode cX10_oils 73 = .ok (.iinc 5 1, 3) := by decide +kernel
theorem dX10_oils_76 : decode cX10_oils 76 = .ok (.goto (-18), 3) := by decide +kernel
theorem dX10_oils_79 : decode cX10_oils 79 = .ok (.aload_n 0, 1) := by decide +kernel
theorem dX10_oils_80 : decode cX10_oils 80 = .ok (.getfield 35, 3) := by decide +kernel
theorem dX10_oils_83 : decode cX10_oils 83 = .ok (.iload_n 2, 1) := by decide +kernel
theorem dX10_oils_84 : decode cX10_oils 84 = .ok (.invokevirtual 144, 3) := by decide +kernel
theorem dX10_oils_87 : decode cX10_oils 87 = .ok (.aload_n 0, 1) := by decide +kernel
theorem dX10_oils_88 : decode cX10_oils 88 = .ok (.getfield 35, 3) := by decide +kernel
theorem dX10_oils_91 : decode cX10_oils 91 = .ok (.iload_n 1, 1) := by decide +kernel
theorem dX10_oils_92 : decode cX10_oils 92 = .ok (.invokevirtual 121, 3) := by decide +kernel
theorem dX10_oils_95 : decode cX10_oils 95 = .ok (.invokestatic 206, 3) := by decide +kernel
theorem dX10_oils_98 : decode cX10_oils 98 = .ok (.iload_n 3, 1) := by decide +kernel
theorem dX10_oils_99 : decode cX10_oils 99 = .ok (.if_icmp .gt 6, 3) := by decide +kernel
theorem dX10_oils_102 : decode cX10_oils 102 = .ok (.iload 4, 2) := by decide +kernel
theorem dX10_oils_104 : decode cX10_oils 104 = .ok (.ireturn, 1) := by decide +kernel
theorem dX10_oils_105 : decode cX10_oils 105 = .ok (.iinc 4 1, 3) := by decide +kernel
theorem dX10_oils_108 : decode cX10_oils 108 = .ok (.goto (-71), 3) := by decide +kernel
theorem dX10_oils_111 : decode cX10_oils 111 = .ok (.bipush (-4), 2) := by decide +kernel
theorem dX10_oils_113 : decode cX10_oils 113 = .ok (.ireturn, 1) := by decide +kernel
theorem dX10_hear_0 : decode cX10_hear 0 = .ok (.aload_n 0, 1) := by decide +kernel
theorem dX10_hear_1 : decode cX10_hear 1 = .ok (.getfield 23, 3) := by decide +kernel
theorem dX10_hear_4 : decode cX10_hear 4 = .ok (.iload_n 1, 1) := by decide +kernel
theorem dX10_hear_5 : decode cX10_hear 5 = .ok (.invokevirtual 113, 3) := by decide +kernel
theorem dX10_hear_8 : decode cX10_hear 8 = .ok (.ifCond .eq 14, 3) := by decide +kernel
theorem dX10_hear_11 : decode cX10_hear 11 = .ok (.iload_n 2, 1) := by decide +kernel
theorem dX10_hear_12 : decode cX10_hear 12 = .ok (.ifCond .lt 10, 3) := by decide +kernel
theorem dX10_hear_15 : decode cX10_hear 15 = .ok (.iload_n 2, 1) := by decide +kernel
theorem dX10_hear_16 : decode cX10_hear 16 = .ok (.sipush 1200, 3) := by decide +kernel
theorem dX10_hear_19 : decode cX10_hear 19 = .ok (.if_icmp .le 5, 3) := by decide +kernel
theorem dX10_hear_22 : decode cX10_hear 22 = .ok (.iconst (-1), 1) := by decide +kernel
theorem dX10_hear_23 : decode cX10_hear 23 = .ok (.ireturn, 1) := by decide +kernel
theorem dX10_hear_24 : decode cX10_hear 24 = .ok (.aload_n 0, 1) := by decide +kernel
theorem dX10_hear_25 : decode cX10_hear 25 = .ok (.getfield 53, 3) := by decide +kernel
theorem dX10_hear_28 : decode cX10_hear 28 = .ok (.getfield 107, 3) := by decide +kernel
theorem dX10_hear_31 : decode cX10_hear 31 = .ok (.bipush 6, 2) := by decide +kernel
theorem dX10_hear_33 : decode cX10_hear 33 = .ok (.if_icmp .lt 6, 3) := by decide +kernel
theorem dX10_hear_36 : decode cX10_hear 36 = .ok (.bipush (-3), 2) := by decide +kernel
theorem dX10_hear_38 : decode cX10_hear 38 = .ok (.ireturn, 1) := by decide +kernel
theorem dX10_hear_39 : decode cX10_hear 39 = .ok (.aload_n 0, 1) := by decide +kernel
theorem dX10_hear_40 : decode cX10_hear 40 = .ok (.getfield 53, 3) := by decide +kernel
theorem dX10_hear_43 : decode cX10_hear 43 = .ok (.iload_n 1, 1) := by decide +kernel
theorem dX10_hear_44 : decode cX10_hear 44 = .ok (.iload_n 2, 1) := by decide +kernel
theorem dX10_hear_45 : decode cX10_hear 45 = .ok (.sipush 600, 3) := by decide +kernel
theorem dX10_hear_48 : decode cX10_hear 48 = .ok (.isub, 1) := by decide +kernel
theorem dX10_hear_49 : decode cX10_hear 49 = .ok (.invokevirtual 211, 3) := by decide +kernel
theorem dX10_hear_52 : decode cX10_hear 52 = .ok (.aload_n 0, 1) := by decide +kernel
theorem dX10_hear_53 : decode cX10_hear 53 = .ok (.getfield 53, 3) := by decide +kernel
theorem dX10_hear_56 : decode cX10_hear 56 = .ok (.getfield 107, 3) := by decide +kernel
theorem dX10_hear_59 : decode cX10_hear 59 = .ok (.ireturn, 1) := by decide +kernel
theorem dX10_forget_0 : decode cX10_forget 0 = .ok (.aload_n 0, 1) := by decide +kernel
theorem dX10_forget_1 : decode cX10_forget 1 = .ok (.getfield 53, 3) := by decide +kernel
theorem dX10_forget_4 : decode cX10_forget 4 = .ok (.getfield 107, 3) := by decide +kernel
theorem dX10_forget_7 : decode cX10_forget 7 = .ok (.istore_n 1, 1) := by decide +kernel
theorem dX10_forget_8 : decode cX10_forget 8 = .ok (.aload_n 0, 1) := by decide +kernel
theorem dX10_forget_9 : decode cX10_forget 9 = .ok (.getfield 53, 3) := by decide +kernel
theorem dX10_forget_12 : decode cX10_forget 12 = .ok (.iconst 0, 1) := by decide +kernel
theorem dX10_forget_13 : decode cX10_forget 13 = .ok (.putfield 107, 3) := by decide +kernel
theorem dX10_forget_16 : decode cX10_forget 16 = .ok (.iload_n 1, 1) := by decide +kernel
theorem dX10_forget_17 : decode cX10_forget 17 = .ok (.ireturn, 1) := by decide +kernel
theorem dX10_taught_0 : decode cX10_taught 0 = .ok (.iload_n 1, 1) := by decide +kernel
theorem dX10_taught_1 : decode cX10_taught 1 = .ok (.ifCond .eq 10, 3) := by decide +kernel
theorem dX10_taught_4 : decode cX10_taught 4 = .ok (.iload_n 1, 1) := by decide +kernel
theorem dX10_taught_5 : decode cX10_taught 5 = .ok (.iconst 1, 1) := by decide +kernel
theorem dX10_taught_6 : decode cX10_taught 6 = .ok (.if_icmp .eq 5, 3) := by decide +kernel
theorem dX10_taught_9 : decode cX10_taught 9 = .ok (.iconst (-1), 1) := by decide +kernel
theorem dX10_taught_10 : decode cX10_taught 10 = .ok (.ireturn, 1) := by decide +kernel
theorem dX10_taught_11 : decode cX10_taught 11 = .ok (.iconst 0, 1) := by decide +kernel
theorem dX10_taught_12 : decode cX10_taught 12 = .ok (.istore_n 2, 1) := by decide +kernel
theorem dX10_taught_13 : decode cX10_taught 13 = .ok (.bipush (-4), 2) := by decide +kernel
theorem dX10_taught_15 : decode cX10_taught 15 = .ok (.istore_n 3, 1) := by decide +kernel
theorem dX10_taught_16 : decode cX10_taught 16 = .ok (.aload_n 0, 1) := by decide +kernel
theorem dX10_taught_17 : decode cX10_taught 17 = .ok (.getfield 35, 3) := by decide +kernel
theorem dX10_taught_20 : decode cX10_taught 20 = .ok (.aload_n 0, 1) := by decide +kernel
theorem dX10_taught_21 : decode cX10_taught 21 = .ok (.getfield 31, 3) := by decide +kernel
theorem dX10_taught_24 : decode cX10_taught 24 = .ok (.invokevirtual 166, 3) := by decide +kernel
theorem dX10_taught_27 : decode cX10_taught 27 = .ok (.iconst 0, 1) := by decide +kernel
theorem dX10_taught_28 : decode cX10_taught 28 = .ok (.istore 4, 2) := by decide +kernel
theorem dX10_taught_30 : decode cX10_taught 30 = .ok (.iload 4, 2) := by decide +kernel
theorem dX10_taught_32 : decode cX10_taught 32 = .ok (.aload_n 0, 1) := by decide +kernel
theorem dX10_taught_33 : decode cX10_taught 33 = .ok (.getfield 23, 3) := by decide +kernel
theorem dX10_taught_36 : decode cX10_taught 36 = .ok (.getfield 104, 3) := by decide +kernel
theorem dX10_taught_39 : decode cX10_taught 39 = .ok (.if_icmp .ge 79, 3) := by decide +kernel
theorem dX10_taught_42 : decode cX10_taught 42 = .ok (.iconst 0, 1) := by decide +kernel
theorem dX10_taught_43 : decode cX10_taught 43 = .ok (.istore 5, 2) := by decide +kernel
theorem dX10_taught_45 : decode cX10_taught 45 = .ok (.iload 5, 2) := by decide +kernel
theorem dX10_taught_47 : decode cX10_taught 47 = .ok (.aload_n 0, 1) := by decide +kernel
theorem dX10_taught_48 : decode cX10_taught 48 = .ok (.getfield 23, 3) := by decide +kernel
theorem dX10_taught_51 : decode cX10_taught 51 = .ok (.getfield 104, 3) := by decide +kernel
theorem dX10_taught_54 : decode cX10_taught 54 = .ok (.if_icmp .ge 58, 3) := by decide +kernel
theorem dX10_taught_57 : decode cX10_taught 57 = .ok (.iload 4, 2) := by decide +kernel
theorem dX10_taught_59 : decode cX10_taught 59 = .ok (.iload 5, 2) := by decide +kernel
theorem dX10_taught_61 : decode cX10_taught 61 = .ok (.if_icmp .eq 45, 3) := by decide +kernel
theorem dX10_taught_64 : decode cX10_taught 64 = .ok (.aload_n 0, 1) := by decide +kernel
theorem dX10_taught_65 : decode cX10_taught 65 = .ok (.getfield 31, 3) := by decide +kernel
theorem dX10_taught_68 : decode cX10_taught 68 = .ok (.iload 5, 2) := by decide +kernel
theorem dX10_taught_70 : decode cX10_taught 70 = .ok (.invokevirtual 150, 3) := by decide +kernel
theorem dX10_taught_73 : decode cX10_taught 73 = .ok (.ifCond .eq 33, 3) := by decide +kernel
theorem dX10_taught_76 : decode cX10_taught 76 = .ok (.aload_n 0, 1) := by decide +kernel
theorem dX10_taught_77 : decode cX10_taught 77 = .ok (.iload 4, 2) := by decide +kernel
theorem dX10_taught_79 : decode cX10_taught 79 = .ok (.iload 5, 2) := by decide +kernel
theorem dX10_taught_81 : decode cX10_taught 81 = .ok (.invokevirtual 213, 3) := by decide +kernel
theorem dX10_taught_84 : decode cX10_taught 84 = .ok (.ifCond .eq 22, 3) := by decide +kernel
theorem dX10_taught_87 : decode cX10_taught 87 = .ok (.iload_n 2, 1) := by decide +kernel
theorem dX10_taught_88 : decode cX10_taught 88 = .ok (.ifCond .ne 13, 3) := by decide +kernel
theorem dX10_taught_91 : decode cX10_taught 91 = .ok (.iload 4, 2) := by decide +kernel
theorem dX10_taught_93 : decode cX10_taught 93 = .ok (.iload 5, 2) := by decide +kernel
theorem dX10_taught_95 : decode cX10_taught 95 = .ok (.invokestatic 216, 3) := by decide +kernel
theorem dX10_taught_98 : decode cX10_taught 98 = .ok (.goto 4, 3) := by decide +kernel
theorem dX10_taught_101 : decode cX10_taught 101 = .ok (.iload_n 3, 1) := by decide +kernel
theorem dX10_taught_102 : decode cX10_taught 102 = .ok (.istore_n 3, 1) := by decide +kernel
theorem dX10_taught_103 : decode cX10_taught 103 = .ok (.iinc 2 1, 3) := by decide +kernel
theorem dX10_taught_106 : decode cX10_taught 106 = .ok (.iinc 5 1, 3) := by decide +kernel
theorem dX10_taught_109 : decode cX10_taught 109 = .ok (.goto (-64), 3) := by decide +kernel
theorem dX10_taught_112 : decode cX10_taught 112 = .ok (.iinc 4 1, 3) := by decide +kernel
theorem dX10_taught_115 : decode cX10_taught 115 = .ok (.goto (-85), 3) := by decide +kernel
theorem dX10_taught_118 : decode cX10_taught 118 = .ok (.iload_n 1, 1) := by decide +kernel
theorem dX10_taught_119 : decode cX10_taught 119 = .ok (.ifCond .ne 7, 3) := by decide +kernel
theorem dX10_taught_122 : decode cX10_taught 122 = .ok (.iload_n 2, 1) := by decide +kernel
theorem dX10_taught_123 : decode cX10_taught 123 = .ok (.goto 4, 3) := by decide +kernel
theorem dX10_taught_126 : decode cX10_taught 126 = .ok (.iload_n 3, 1) := by decide +kernel
theorem dX10_taught_127 : decode cX10_taught 127 = .ok (.ireturn, 1) := by decide +kernel
theorem dX10_setter_0 : decode cX10_setter 0 = .ok (.iload_n 1, 1) := by decide +kernel
theorem dX10_setter_1 : decode cX10_setter 1 = .ok (.ifCond .eq 10, 3) := by decide +kernel
theorem dX10_setter_4 : decode cX10_setter 4 = .ok (.iload_n 1, 1) := by decide +kernel
theorem dX10_setter_5 : decode cX10_setter 5 = .ok (.iconst 1, 1) := by decide +kernel
theorem dX10_setter_6 : decode cX10_setter 6 = .ok (.if_icmp .eq 5, 3) := by decide +kernel
theorem dX10_setter_9 : decode cX10_setter 9 = .ok (.iconst (-1), 1) := by decide +kernel
theorem dX10_setter_10 : decode cX10_setter 10 = .ok (.ireturn, 1) := by decide +kernel
theorem dX10_setter_11 : decode cX10_setter 11 = .ok (.iconst 0, 1) := by decide +kernel
theorem dX10_setter_12 : decode cX10_setter 12 = .ok (.istore_n 2, 1) := by decide +kernel
theorem dX10_setter_13 : decode cX10_setter 13 = .ok (.bipush (-4), 2) := by decide +kernel
theorem dX10_setter_15 : decode cX10_setter 15 = .ok (.istore_n 3, 1) := by decide +kernel
theorem dX10_setter_16 : decode cX10_setter 16 = .ok (.aload_n 0, 1) := by decide +kernel
theorem dX10_setter_17 : decode cX10_setter 17 = .ok (.getfield 35, 3) := by decide +kernel
theorem dX10_setter_20 : decode cX10_setter 20 = .ok (.aload_n 0, 1) := by decide +kernel
theorem dX10_setter_21 : decode cX10_setter 21 = .ok (.getfield 31, 3) := by decide +kernel
theorem dX10_setter_24 : decode cX10_setter 24 = .ok (.invokevirtual 166, 3) := by decide +kernel
theorem dX10_setter_27 : decode cX10_setter 27 = .ok (.bipush (-100), 2) := by decide +kernel
theorem dX10_setter_29 : decode cX10_setter 29 = .ok (.istore 4, 2) := by decide +kernel
theorem dX10_setter_31 : decode cX10_setter 31 = .ok (.iload 4, 2) := by decide +kernel
theorem dX10_setter_33 : decode cX10_setter 33 = .ok (.bipush 100, 2) := by decide +kernel
theorem dX10_setter_35 : decode cX10_setter 35 = .ok (.if_icmp .gt 49, 3) := by decide +kernel
theorem dX10_setter_38 : decode cX10_setter 38 = .ok (.aload_n 0, 1) := by decide +kernel
theorem dX10_setter_39 : decode cX10_setter 39 = .ok (.getfield 35, 3) := by decide +kernel
theorem dX10_setter_42 : decode cX10_setter 42 = .ok (.iload 4, 2) := by decide +kernel
theorem dX10_setter_44 : decode cX10_setter 44 = .ok (.invokevirtual 220, 3) := by decide +kernel
theorem dX10_setter_47 : decode cX10_setter 47 = .ok (.aload_n 0, 1) := by decide +kernel
theorem dX10_setter_48 : decode cX10_setter 48 = .ok (.getfield 53, 3) := by decide +kernel
theorem dX10_setter_51 : decode cX10_setter 51 = .ok (.aload_n 0, 1) := by decide +kernel
theorem dX10_setter_52 : decode cX10_setter 52 = .ok (.getfield 35, 3) := by decide +kernel
theorem dX10_setter_55 : decode cX10_setter 55 = .ok (.invokevirtual 223, 3) := by decide +kernel
theorem dX10_setter_58 : decode cX10_setter 58 = .ok (.ifCond .eq 20, 3) := by decide +kernel
theorem dX10_setter_61 : decode cX10_setter 61 = .ok (.iload_n 2, 1) := by decide +kernel
theorem dX10_setter_62 : decode cX10_setter 62 = .ok (.ifCond .ne 11, 3) := by decide +kernel
theorem dX10_setter_65 : decode cX10_setter 65 = .ok (.iload 4, 2) := by decide +kernel
theorem dX10_setter_67 : decode cX10_setter 67 = .ok (.bipush 100, 2) := by decide +kernel
theorem dX10_setter_69 : decode cX10_setter 69 = .ok (.iadd, 1) := by decide +kernel
theorem dX10_setter_70 : decode cX10_setter 70 = .ok (.goto 4, 3) := by decide +kernel
theorem dX10_setter_73 : decode cX10_setter 73 = .ok (.iload_n 3, 1) := by decide +kernel
theorem dX10_setter_74 : decode cX10_setter 74 = .ok (.istore_n 3, 1) := by decide +kernel
theorem dX10_setter_75 : decode cX10_setter 75 = .ok (.iinc 2 1, 3) := by decide +kernel
theorem dX10_setter_78 : decode cX10_setter 78 = .ok (.iinc 4 1, 3) := by decide +kernel
theorem dX10_setter_81 : decode cX10_setter 81 = .ok (.goto (-50), 3) := by decide +kernel
theorem dX10_setter_84 : decode cX10_setter 84 = .ok (.iload_n 1, 1) := by decide +kernel
theorem dX10_setter_85 : decode cX10_setter 85 = .ok (.ifCond .ne 7, 3) := by decide +kernel
theorem dX10_setter_88 : decode cX10_setter 88 = .ok (.iload_n 2, 1) := by decide +kernel
theorem dX10_setter_89 : decode cX10_setter 89 = .ok (.goto 4, 3) := by decide +kernel
theorem dX10_setter_92 : decode cX10_setter 92 = .ok (.iload_n 3, 1) := by decide +kernel
theorem dX10_setter_93 : decode cX10_setter 93 = .ok (.ireturn, 1) := by decide +kernel
theorem dX10_child_0 : decode cX10_child 0 = .ok (.aload_n 0, 1) := by decide +kernel
theorem dX10_child_1 : decode cX10_child 1 = .ok (.getfield 23, 3) := by decide +kernel
theorem dX10_child_4 : decode cX10_child 4 = .ok (.iload_n 1, 1) := by decide +kernel
theorem dX10_child_5 : decode cX10_child 5 = .ok (.invokevirtual 113, 3) := by decide +kernel
theorem dX10_child_8 : decode cX10_child 8 = .ok (.ifCond .ne 5, 3) := by decide +kernel
theorem dX10_child_11 : decode cX10_child 11 = .ok (.iconst (-1), 1) := by decide +kernel
theorem dX10_child_12 : decode cX10_child 12 = .ok (.ireturn, 1) := by decide +kernel
theorem dX10_child_13 : decode cX10_child 13 = .ok (.bipush (-4), 2) := by decide +kernel
theorem dX10_child_15 : decode cX10_child 15 = .ok (.istore_n 2, 1) := by decide +kernel
theorem dX10_child_16 : decode cX10_child 16 = .ok (.iconst 0, 1) := by decide +kernel
theorem dX10_child_17 : decode cX10_child 17 = .ok (.istore_n 3, 1) := by decide +kernel
theorem dX10_child_18 : decode cX10_child 18 = .ok (.iconst 0, 1) := by decide +kernel
theorem dX10_child_19 : decode cX10_child 19 = .ok (.istore 4, 2) := by decide +kernel
theorem dX10_child_21 : decode cX10_child 21 = .ok (.iload 4, 2) := by decide +kernel
theorem dX10_child_23 : decode cX10_child 23 = .ok (.aload_n 0, 1) := by decide +kernel
theorem dX10_child_24 : decode cX10_child 24 = .ok (.getfield 23, 3) := by decide +kernel
theorem dX10_child_27 : decode cX10_child 27 = .ok (.getfield 104, 3) := by decide +kernel
theorem dX10_child_30 : decode cX10_child 30 = .ok (.if_icmp .ge 45, 3) := by decide +kernel
theorem dX10_child_33 : decode cX10_child 33 = .ok (.aload_n 0, 1) := by decide +kernel
theorem dX10_child_34 : decode cX10_child 34 = .ok (.getfield 31, 3) := by decide +kernel
theorem dX10_child_37 : decode cX10_child 37 = .ok (.iload_n 1, 1) := by decide +kernel
theorem dX10_child_38 : decode cX10_child 38 = .ok (.iload 4, 2) := by decide +kernel
theorem dX10_child_40 : decode cX10_child 40 = .ok (.invokevirtual 227, 3) := by decide +kernel
theorem dX10_child_43 : decode cX10_child 43 = .ok (.istore 5, 2) := by decide +kernel
theorem dX10_child_45 : decode cX10_child 45 = .ok (.iload 4, 2) := by decide +kernel
theorem dX10_child_47 : decode cX10_child 47 = .ok (.iload_n 1, 1) := by decide +kernel
theorem dX10_child_48 : decode cX10_child 48 = .ok (.if_icmp .eq 21, 3) := by decide +kernel
theorem dX10_child_51 : decode cX10_child 51 = .ok (.iload_n 2, 1) := by decide +kernel
theorem dX10_child_52 : decode cX10_child 52 = .ok (.bipush (-4), 2) := by decide +kernel
theorem dX10_child_54 : decode cX10_child 54 = .ok (.if_icmp .eq 9, 3) := by decide +kernel
theorem dX10_child_57 : decode cX10_child 57 = .ok (.iload 5, 2) := by decide +kernel
theorem dX10_child_59 : decode cX10_child 59 = .ok (.iload_n 3, 1) := by decide +kernel
theorem dX10_child_60 : decode cX10_child 60 = .ok (.if_icmp .ge 9, 3) := by decide +kernel
theorem dX10_child_63 : decode cX10_child 63 = .ok (.iload 4, 2) := by decide +kernel
theorem dX10_child_65 : decode cX10_child 65 = .ok (.istore_n 2, 1) := by decide +kernel
theorem dX10_child_66 : decode cX10_child 66 = .ok (.iload 5, 2) := by decide +kernel
theorem dX10_child_68 : decode cX10_child 68 = .ok (.istore_n 3, 1) := by decide +kernel
theorem dX10_child_69 : decode cX10_child 69 = .ok (.iinc 4 1, 3) := by decide +kernel
theorem dX10_child_72 : decode cX10_child 72 = .ok (.goto (-51), 3) := by decide +kernel
theorem dX10_child_75 : decode cX10_child 75 = .ok (.iload_n 2, 1) := by decide +kernel
theorem dX10_child_76 : decode cX10_child 76 = .ok (.ireturn, 1) := by decide +kernel
theorem dX10_draughts_0 : decode cX10_draughts 0 = .ok (.aload_n 0, 1) := by decide +kernel
theorem dX10_draughts_1 : decode cX10_draughts 1 = .ok (.getfield 23, 3) := by decide +kernel
theorem dX10_draughts_4 : decode cX10_draughts 4 = .ok (.iload_n 1, 1) := by decide +kernel
theorem dX10_draughts_5 : decode cX10_draughts 5 = .ok (.invokevirtual 113, 3) := by decide +kernel
theorem dX10_draughts_8 : decode cX10_draughts 8 = .ok (.ifCond .eq 34, 3) := by decide +kernel
theorem dX10_draughts_11 : decode cX10_draughts 11 = .ok (.iload_n 2, 1) := by decide +kernel
theorem dX10_draughts_12 : decode cX10_draughts 12 = .ok (.ifCond .lt 30, 3) := by decide +kernel
theorem dX10_draughts_15 : decode cX10_draughts 15 = .ok (.iload_n 2, 1) := by decide +kernel
theorem dX10_draughts_16 : decode cX10_draughts 16 = .ok (.bipush 6, 2) := by decide +kernel
theorem dX10_draughts_18 : decode cX10_draughts 18 = .ok (.if_icmp .gt 24, 3) := by decide +kernel
theorem dX10_draughts_21 : decode cX10_draughts 21 = .ok (.iload_n 3, 1) := by decide +kernel
theorem dX10_draughts_22 : decode cX10_draughts 22 = .ok (.ifCond .lt 20, 3) := by decide +kernel
theorem dX10_draughts_25 : decode cX10_draughts 25 = .ok (.iload_n 3, 1) := by decide +kernel
theorem dX10_draughts_26 : decode cX10_draughts 26 = .ok (.bipush 10, 2) := by decide +kernel
theorem dX10_draughts_28 : decode cX10_draughts 28 = .ok (.if_icmp .gt 14, 3) := by decide +kernel
theorem dX10_draughts_31 : decode cX10_draughts 31 = .ok (.iload 4, 2) := by decide +kernel
theorem dX10_draughts_33 : decode cX10_draughts 33 = .ok (.ifCond .lt 9, 3) := by decide +kernel
theorem dX10_draughts_36 : decode cX10_draughts 36 = .ok (.iload 4, 2) := by decide +kernel
theorem dX10_draughts_38 : decode cX10_draughts 38 = .ok (.iconst 1, 1) := by decide +kernel
theorem dX10_draughts_39 : decode cX10_draughts 39 = .ok (.if_icmp .le 5, 3) := by decide +kernel
theorem dX10_draughts_42 : decode cX10_draughts 42 = .ok (.iconst (-1), 1) := by decide +kernel
theorem dX10_draughts_43 : decode cX10_draughts 43 = .ok (.ireturn, 1) := by decide +kernel
theorem dX10_draughts_44 : decode cX10_draughts 44 = .ok (.iconst 0, 1) := by decide +kernel
theorem dX10_draughts_45 : decode cX10_draughts 45 = .ok (.istore 5, 2) := by decide +kernel
theorem dX10_draughts_47 : decode cX10_draughts 47 = .ok (.iconst 0, 1) := by decide +kernel
theorem dX10_draughts_48 : decode cX10_draughts 48 = .ok (.istore 6, 2) := by decide +kernel
theorem dX10_draughts_50 : decode cX10_draughts 50 = .ok (.iload 6, 2) := by decide +kernel
theorem dX10_draughts_52 : decode cX10_draughts 52 = .ok (.iconst 1, 1) := by decide +kernel
theorem dX10_draughts_53 : decode cX10_draughts 53 = .ok (.iload_n 2, 1) := by decide +kernel
theorem dX10_draughts_54 : decode cX10_draughts 54 = .ok (.ishl, 1) := by decide +kernel
theorem dX10_draughts_55 : decode cX10_draughts 55 = .ok (.if_icmp .ge 113, 3) := by decide +kernel
theorem dX10_draughts_58 : decode cX10_draughts 58 = .ok (.aload_n 0, 1) := by decide +kernel
theorem dX10_draughts_59 : decode cX10_draughts 59 = .ok (.getfield 35, 3) := by decide +kernel
theorem dX10_draughts_62 : decode cX10_draughts 62 = .ok (.aload_n 0, 1) := by decide +kernel
theorem dX10_draughts_63 : decode cX10_draughts 63 = .ok (.getfield 31, 3) := by decide +kernel
theorem dX10_draughts_66 : decode cX10_draughts 66 = .ok (.invokevirtual 166, 3) := by decide +kernel
theorem dX10_draughts_69 : decode cX10_draughts 69 = .ok (.iconst 1, 1) := by decide +kernel
theorem dX10_draughts_70 : decode cX10_draughts 70 = .ok (.istore 7, 2) := by decide +kernel
theorem dX10_draughts_72 : decode cX10_draughts 72 = .ok (.iconst 0, 1) := by decide +kernel
theorem dX10_draughts_73 : decode cX10_draughts 73 = .ok (.istore 8, 2) := by decide +kernel
theorem dX10_draughts_75 : decode cX10_draughts 75 = .ok (.iload 8, 2) := by decide +kernel
theorem dX10_draughts_77 : decode cX10_draughts 77 = .ok (.iload_n 2, 1) := by decide +kernel
theorem dX10_draughts_78 : decode cX10_draughts 78 = .ok (.if_icmp .ge 62, 3) := by decide +kernel
theorem dX10_draughts_81 : decode cX10_draughts 81 = .ok (.iload 6, 2) := by decide +kernel
theorem dX10_draughts_83 : decode cX10_draughts 83 = .ok (.iload 8, 2) := by decide +kernel
theorem dX10_draughts_85 : decode cX10_draughts 85 = .ok (.ishr, 1) := by decide +kernel
theorem dX10_draughts_86 : decode cX10_draughts 86 = .ok (.iconst 1, 1) := by decide +kernel
theorem dX10_draughts_87 : decode cX10_draughts 87 = .ok (.iand, 1) := by decide +kernel
theorem dX10_draughts_88 : decode cX10_draughts 88 = .ok (.iconst 1, 1) := by decide +kernel
theorem dX10_draughts_89 : decode cX10_draughts 89 = .ok (.if_icmp .ne 7, 3) := by decide +kernel
theorem dX10_draughts_92 : decode cX10_draughts 92 = .ok (.iconst 1, 1) := by decide +kernel
theorem dX10_draughts_93 : decode cX10_draughts 93 = .ok (.goto 4, 3) := by decide +kernel
theorem dX10_draughts_96 : decode cX10_draughts 96 = .ok (.iconst 0, 1) := by decide +kernel
theorem dX10_draughts_97 : decode cX10_draughts 97 = .ok (.istore 9, 2) := by decide +kernel
theorem dX10_draughts_99 : decode cX10_draughts 99 = .ok (.iload 7, 2) := by decide +kernel
theorem dX10_draughts_101 : decode cX10_draughts 101 = .ok (.iload 9, 2) := by decide +kernel
theorem dX10_draughts_103 : decode cX10_draughts 103 = .ok (.ifCond .eq 7, 3) := by decide +kernel
theorem dX10_draughts_106 : decode cX10_draughts 106 = .ok (.iload_n 3, 1) := by decide +kernel
theorem dX10_draughts_107 : decode cX10_draughts 107 = .ok (.goto 7, 3) := by decide +kernel
theorem dX10_draughts_110 : decode cX10_draughts 110 = .ok (.bipush 10, 2) := by decide +kernel
theorem dX10_draughts_112 : decode cX10_draughts 112 = .ok (.iload_n 3, 1) := by decide +kernel
theorem dX10_draughts_113 : decode cX10_draughts 113 = .ok (.isub, 1) := by decide +kernel
theorem dX10_draughts_114 : decode cX10_draughts 114 = .ok (.imul, 1) := by decide +kernel
theorem dX10_draughts_115 : decode cX10_draughts 115 = .ok (.istore 7, 2) := by decide +kernel
theorem dX10_draughts_117 : decode cX10_draughts 117 = .ok (.aload_n 0, 1) := by decide +kernel
theorem dX10_draughts_118 : decode cX10_draughts 118 = .ok (.getfield 35, 3) := by decide +kernel
theorem dX10_draughts_121 : decode cX10_draughts 121 = .ok (.iload 9, 2) := by decide +kernel
theorem dX10_draughts_123 : decode cX10_draughts 123 = .ok (.ifCond .ne 7, 3) := by decide +kernel
theorem dX10_draughts_126 : decode cX10_draughts 126 = .ok (.iconst 1, 1) := by decide +kernel
theorem dX10_draughts_127 : decode cX10_draughts 127 = .ok (.goto 4, 3) := by decide +kernel
theorem dX10_draughts_130 : decode cX10_draughts 130 = .ok (.iconst 0, 1) := by decide +kernel
theorem dX10_draughts_131 : decode cX10_draughts 131 = .ok (.invokevirtual 230, 3) := by decide +kernel
theorem dX10_draughts_134 : decode cX10_draughts 134 = .ok (.iinc 8 1, 3) := by decide +kernel
theorem dX10_draughts_137 : decode cX10_draughts 137 = .ok (.goto (-62), 3) := by decide +kernel
theorem dX10_draughts_140 : decode cX10_draughts 140 = .ok (.iload 5, 2) := by decide +kernel
theorem dX10_draughts_142 : decode cX10_draughts 142 = .ok (.aload_n 0, 1) := by decide +kernel
theorem dX10_draughts_143 : decode cX10_draughts 143 = .ok (.getfield 35, 3) := by decide +kernel
theorem dX10_draughts_146 : decode cX10_draughts 146 = .ok (.iload_n 1, 1) := by decide +kernel
theorem dX10_draughts_147 : decode cX10_draughts 147 = .ok (.invokevirtual 121, 3) := by decide +kernel
theorem dX10_draughts_150 : decode cX10_draughts 150 = .ok (.ifCond .ne 8, 3) := by decide +kernel
theorem dX10_draughts_153 : decode cX10_draughts 153 = .ok (.iload 7, 2) := by decide +kernel
theorem dX10_draughts_155 : decode cX10_draughts 155 = .ok (.goto 4, 3) := by decide +kernel
theorem dX10_draughts_158 : decode cX10_draughts 158 = .ok (.iconst 0, 1) := by decide +kernel
theorem dX10_draughts_159 : decode cX10_draughts 159 = .ok (.iadd, 1) := by decide +kernel
theorem dX10_draughts_160 : decode cX10_draughts 160 = .ok (.istore 5, 2) := by decide +kernel
theorem dX10_draughts_162 : decode cX10_draughts 162 = .ok (.iinc 6 1, 3) := by decide +kernel
theorem dX10_draughts_165 : decode cX10_draughts 165 = .ok (.goto (-115), 3) := by decide +kernel
theorem dX10_draughts_168 : decode cX10_draughts 168 = .ok (.iload 5, 2) := by decide +kernel
theorem dX10_draughts_170 : decode cX10_draughts 170 = .ok (.iload_n 2, 1) := by decide +kernel
theorem dX10_draughts_171 : decode cX10_draughts 171 = .ok (.iload 4, 2) := by decide +kernel
theorem dX10_draughts_173 : decode cX10_draughts 173 = .ok (.invokestatic 234, 3) := by decide +kernel
theorem dX10_draughts_176 : decode cX10_draughts 176 = .ok (.ireturn, 1) := by decide +kernel
theorem dX10_year_0 : decode cX10_year 0 = .ok (.aload_n 0, 1) := by decide +kernel
theorem dX10_year_1 : decode cX10_year 1 = .ok (.getfield 23, 3) := by decide +kernel
theorem dX10_year_4 : decode cX10_year 4 = .ok (.getfield 104, 3) := by decide +kernel
theorem dX10_year_7 : decode cX10_year 7 = .ok (.istore 4, 2) := by decide +kernel
theorem dX10_year_9 : decode cX10_year 9 = .ok (.iload_n 1, 1) := by decide +kernel
theorem dX10_year_10 : decode cX10_year 10 = .ok (.ifCond .lt 36, 3) := by decide +kernel
theorem dX10_year_13 : decode cX10_year 13 = .ok (.iload_n 1, 1) := by decide +kernel
theorem dX10_year_14 : decode cX10_year 14 = .ok (.sipush 9999, 3) := by decide +kernel
theorem dX10_year_17 : decode cX10_year 17 = .ok (.if_icmp .gt 29, 3) := by decide +kernel
theorem dX10_year_20 : decode cX10_year 20 = .ok (.iload_n 2, 1) := by decide +kernel
theorem dX10_year_21 : decode cX10_year 21 = .ok (.iconst 1, 1) := by decide +kernel
theorem dX10_year_22 : decode cX10_year 22 = .ok (.if_icmp .lt 24, 3) := by decide +kernel
theorem dX10_year_25 : decode cX10_year 25 = .ok (.iload_n 2, 1) := by decide +kernel
theorem dX10_year_26 : decode cX10_year 26 = .ok (.bipush 60, 2) := by decide +kernel
theorem dX10_year_28 : decode cX10_year 28 = .ok (.if_icmp .gt 18, 3) := by decide +kernel
theorem dX10_year_31 : decode cX10_year 31 = .ok (.iload_n 3, 1) := by decide +kernel
theorem dX10_year_32 : decode cX10_year 32 = .ok (.ifCond .lt 14, 3) := by decide +kernel
theorem dX10_year_35 : decode cX10_year 35 = .ok (.iload_n 3, 1) := by decide +kernel
theorem dX10_year_36 : decode cX10_year 36 = .ok (.iconst 1, 1) := by decide +kernel
theorem dX10_year_37 : decode cX10_year 37 = .ok (.if_icmp .gt 9, 3) := by decide +kernel
theorem dX10_year_40 : decode cX10_year 40 = .ok (.iload 4, 2) := by decide +kernel
theorem dX10_year_42 : decode cX10_year 42 = .ok (.iconst 1, 1) := by decide +kernel
theorem dX10_year_43 : decode cX10_year 43 = .ok (.if_icmp .ge 5, 3) := by decide +kernel
theorem dX10_year_46 : decode cX10_year 46 = .ok (.iconst (-1), 1) := by decide +kernel
theorem dX10_year_47 : decode cX10_year 47 = .ok (.ireturn, 1) := by decide +kernel
theorem dX10_year_48 : decode cX10_year 48 = .ok (.aload_n 0, 1) := by decide +kernel
theorem dX10_year_49 : decode cX10_year 49 = .ok (.getfield 35, 3) := by decide +kernel
theorem dX10_year_52 : decode cX10_year 52 = .ok (.aload_n 0, 1) := by decide +kernel
theorem dX10_year_53 : decode cX10_year 53 = .ok (.getfield 31, 3) := by decide +kernel
theorem dX10_year_56 : decode cX10_year 56 = .ok (.invokevirtual 166, 3) := by decide +kernel
theorem dX10_year_59 : decode cX10_year 59 = .ok (.iconst 0, 1) := by decide +kernel
theorem dX10_year_60 : decode cX10_year 60 = .ok (.istore 5, 2) := by decide +kernel
theorem dX10_year_62 : decode cX10_year 62 = .ok (.iload 5, 2) := by decide +kernel
theorem dX10_year_64 : decode cX10_year 64 = .ok (.iload_n 2, 1) := by decide +kernel
theorem dX10_year_65 : decode cX10_year 65 = .ok (.if_icmp .ge 72, 3) := by decide +kernel
theorem dX10_year_68 : decode cX10_year 68 = .ok (.iload_n 1, 1) := by decide +kernel
theorem dX10_year_69 : decode cX10_year 69 = .ok (.iload 5, 2) := by decide +kernel
theorem dX10_year_71 : decode cX10_year 71 = .ok (.invokestatic 238, 3) := by decide +kernel
theorem dX10_year_74 : decode cX10_year 74 = .ok (.istore 6, 2) := by decide +kernel
theorem dX10_year_76 : decode cX10_year 76 = .ok (.iload 6, 2) := by decide +kernel
theorem dX10_year_78 : decode cX10_year 78 = .ok (.iload 4, 2) := by decide +kernel
theorem dX10_year_80 : decode cX10_year 80 = .ok (.irem, 1) := by decide +kernel
theorem dX10_year_81 : decode cX10_year 81 = .ok (.istore 7, 2) := by decide +kernel
theorem dX10_year_83 : decode cX10_year 83 = .ok (.iload 6, 2) := by decide +kernel
theorem dX10_year_85 : decode cX10_year 85 = .ok (.bipush 8, 2) := by decide +kernel
theorem dX10_year_87 : decode cX10_year 87 = .ok (.idiv, 1) := by decide +kernel
theorem dX10_year_88 : decode cX10_year 88 = .ok (.iload 4, 2) := by decide +kernel
theorem dX10_year_90 : decode cX10_year 90 = .ok (.irem, 1) := by decide +kernel
theorem dX10_year_91 : decode cX10_year 91 = .ok (.istore 8, 2) := by decide +kernel
theorem dX10_year_93 : decode cX10_year 93 = .ok (.iload 7, 2) := by decide +kernel
theorem dX10_year_95 : decode cX10_year 95 = .ok (.iload 8, 2) := by decide +kernel
theorem dX10_year_97 : decode cX10_year 97 = .ok (.if_icmp .eq 26, 3) := by decide +kernel
theorem dX10_year_100 : decode cX10_year 100 = .ok (.aload_n 0, 1) := by decide +kernel
theorem dX10_year_101 : decode cX10_year 101 = .ok (.getfield 35, 3) := by decide +kernel
theorem dX10_year_104 : decode cX10_year 104 = .ok (.iload 8, 2) := by decide +kernel
theorem dX10_year_106 : decode cX10_year 106 = .ok (.invokevirtual 150, 3) := by decide +kernel
theorem dX10_year_109 : decode cX10_year 109 = .ok (.ifCond .eq 14, 3) := by decide +kernel
theorem dX10_year_112 : decode cX10_year 112 = .ok (.aload_n 0, 1) := by decide +kernel
theorem dX10_year_113 : decode cX10_year 113 = .ok (.getfield 35, 3) := by decide +kernel
theorem dX10_year_116 : decode cX10_year 116 = .ok (.iload 7, 2) := by decide +kernel
theorem dX10_year_118 : decode cX10_year 118 = .ok (.iload 8, 2) := by decide +kernel
theorem dX10_year_120 : decode cX10_year 120 = .ok (.invokevirtual 153, 3) := by decide +kernel
theorem dX10_year_123 : decode cX10_year 123 = .ok (.aload_n 0, 1) := by decide +kernel
theorem dX10_year_124 : decode cX10_year 124 = .ok (.getfield 35, 3) := by decide +kernel
theorem dX10_year_127 : decode cX10_year 127 = .ok (.iconst 1, 1) := by decide +kernel
theorem dX10_year_128 : decode cX10_year 128 = .ok (.invokevirtual 230, 3) := by decide +kernel
theorem dX10_year_131 : decode cX10_year 131 = .ok (.iinc 5 1, 3) := by decide +kernel
theorem dX10_year_134 : decode cX10_year 134 = .ok (.goto (-72), 3) := by decide +kernel
theorem dX10_year_137 : decode cX10_year 137 = .ok (.iload_n 3, 1) := by decide +kernel
theorem dX10_year_138 : decode cX10_year 138 = .ok (.ifCond .ne 17, 3) := by decide +kernel
theorem dX10_year_141 : decode cX10_year 141 = .ok (.aload_n 0, 1) := by decide +kernel
theorem dX10_year_142 : decode cX10_year 142 = .ok (.getfield 35, 3) := by decide +kernel
theorem dX10_year_145 : decode cX10_year 145 = .ok (.invokevirtual 137, 3) := by decide +kernel
theorem dX10_year_148 : decode cX10_year 148 = .ok (.sipush 600, 3) := by decide +kernel
theorem dX10_year_151 : decode cX10_year 151 = .ok (.iadd, 1) := by decide +kernel
theorem dX10_year_152 : decode cX10_year 152 = .ok (.goto 10, 3) := by decide +kernel
theorem dX10_year_155 : decode cX10_year 155 = .ok (.aload_n 0, 1) := by decide +kernel
theorem dX10_year_156 : decode cX10_year 156 = .ok (.getfield 35, 3) := by decide +kernel
theorem dX10_year_159 : decode cX10_year 159 = .ok (.invokevirtual 241, 3) := by decide +kernel
theorem dX10_year_162 : decode cX10_year 162 = .ok (.ireturn, 1) := by decide +kernel
theorem dX10_keep_0 : decode cX10_keep 0 = .ok (.aload_n 0, 1) := by decide +kernel
theorem dX10_keep_1 : decode cX10_keep 1 = .ok (.getfield 47, 3) := by decide +kernel
theorem dX10_keep_4 : decode cX10_keep 4 = .ok (.getfield 110, 3) := by decide +kernel
theorem dX10_keep_7 : decode cX10_keep 7 = .ok (.iconst 2, 1) := by decide +kernel
theorem dX10_keep_8 : decode cX10_keep 8 = .ok (.if_icmp .lt 6, 3) := by decide +kernel
theorem dX10_keep_11 : decode cX10_keep 11 = .ok (.bipush (-3), 2) := by decide +kernel
theorem dX10_keep_13 : decode cX10_keep 13 = .ok (.ireturn, 1) := by decide +kernel
theorem dX10_keep_14 : decode cX10_keep 14 = .ok (.aload_n 0, 1) := by decide +kernel
theorem dX10_keep_15 : decode cX10_keep 15 = .ok (.getfield 47, 3) := by decide +kernel
theorem dX10_keep_18 : decode cX10_keep 18 = .ok (.aload_n 0, 1) := by decide +kernel
theorem dX10_keep_19 : decode cX10_keep 19 = .ok (.getfield 31, 3) := by decide +kernel
theorem dX10_keep_22 : decode cX10_keep 22 = .ok (.invokevirtual 140, 3) := by decide +kernel
theorem dX10_keep_25 : decode cX10_keep 25 = .ok (.aload_n 0, 1) := by decide +kernel
theorem dX10_keep_26 : decode cX10_keep 26 = .ok (.getfield 47, 3) := by decide +kernel
theorem dX10_keep_29 : decode cX10_keep 29 = .ok (.getfield 110, 3) := by decide +kernel
theorem dX10_keep_32 : decode cX10_keep 32 = .ok (.ireturn, 1) := by decide +kernel
theorem dX10_back_0 : decode cX10_back 0 = .ok (.aload_n 0, 1) := by decide +kernel
theorem dX10_back_1 : decode cX10_back 1 = .ok (.getfield 47, 3) := by decide +kernel
theorem dX10_back_4 : decode cX10_back 4 = .ok (.getfield 110, 3) := by decide +kernel
theorem dX10_back_7 : decode cX10_back 7 = .ok (.ifCond .ne 6, 3) := by decide +kernel
theorem dX10_back_10 : decode cX10_back 10 = .ok (.bipush (-2), 2) := by decide +kernel
theorem dX10_back_12 : decode cX10_back 12 = .ok (.ireturn, 1) := by decide +kernel
theorem dX10_back_13 : decode cX10_back 13 = .ok (.aload_n 0, 1) := by decide +kernel
theorem dX10_back_14 : decode cX10_back 14 = .ok (.getfield 47, 3) := by decide +kernel
theorem dX10_back_17 : decode cX10_back 17 = .ok (.aload_n 0, 1) := by decide +kernel
theorem dX10_back_18 : decode cX10_back 18 = .ok (.getfield 31, 3) := by decide +kernel
theorem dX10_back_21 : decode cX10_back 21 = .ok (.invokevirtual 163, 3) := by decide +kernel
theorem dX10_back_24 : decode cX10_back 24 = .ok (.aload_n 0, 1) := by decide +kernel
theorem dX10_back_25 : decode cX10_back 25 = .ok (.getfield 43, 3) := by decide +kernel
theorem dX10_back_28 : decode cX10_back 28 = .ok (.iconst 0, 1) := by decide +kernel
theorem dX10_back_29 : decode cX10_back 29 = .ok (.putfield 110, 3) := by decide +kernel
theorem dX10_back_32 : decode cX10_back 32 = .ok (.aload_n 0, 1) := by decide +kernel
theorem dX10_back_33 : decode cX10_back 33 = .ok (.getfield 47, 3) := by decide +kernel
theorem dX10_back_36 : decode cX10_back 36 = .ok (.getfield 110, 3) := by decide +kernel
theorem dX10_back_39 : decode cX10_back 39 = .ok (.ireturn, 1) := by decide +kernel
theorem dX10_count_0 : decode cX10_count 0 = .ok (.iload_n 1, 1) := by decide +kernel
theorem dX10_count_1 : decode cX10_count 1 = .ok (.tableswitch 123 0 8 #[51, 59, 67, 75, 83, 91, 99, 107, 115], 51) := by decide +kernel
theorem dX10_count_52 : decode cX10_count 52 = .ok (.aload_n 0, 1) := by decide +kernel
theorem dX10_count_53 : decode cX10_count 53 = .ok (.getfield 23, 3) := by decide +kernel
theorem dX10_count_56 : decode cX10_count 56 = .ok (.getfield 104, 3) := by decide +kernel
theorem dX10_count_59 : decode cX10_count 59 = .ok (.ireturn, 1) := by decide +kernel
theorem dX10_count_60 : decode cX10_count 60 = .ok (.aload_n 0, 1) := by decide +kernel
theorem dX10_count_61 : decode cX10_count 61 = .ok (.getfield 23, 3) := by decide +kernel
theorem dX10_count_64 : decode cX10_count 64 = .ok (.getfield 244, 3) := by decide +kernel
theorem dX10_count_67 : decode cX10_count 67 = .ok (.ireturn, 1) := by decide +kernel
theorem dX10_count_68 : decode cX10_count 68 = .ok (.aload_n 0, 1) := by decide +kernel
theorem dX10_count_69 : decode cX10_count 69 = .ok (.getfield 23, 3) := by decide +kernel
theorem dX10_count_72 : decode cX10_count 72 = .ok (.getfield 247, 3) := by decide +kernel
theorem dX10_count_75 : decode cX10_count 75 = .ok (.ireturn, 1) := by decide +kernel
theorem dX10_count_76 : decode cX10_count 76 = .ok (.aload_n 0, 1) := by decide +kernel
theorem dX10_count_77 : decode cX10_count 77 = .ok (.getfield 31, 3) := by decide +kernel
theorem dX10_count_80 : decode cX10_count 80 = .ok (.getfield 147, 3) := by decide +kernel
theorem dX10_count_83 : decode cX10_count 83 = .ok (.ireturn, 1) := by decide +kernel
theorem dX10_count_84 : decode cX10_count 84 = .ok (.aload_n 0, 1) := by decide +kernel
theorem dX10_count_85 : decode cX10_count 85 = .ok (.getfield 31, 3) := by decide +kernel
theorem dX10_count_88 : decode cX10_count 88 = .ok (.invokevirtual 241, 3) := by decide +kernel
theorem dX10_count_91 : decode cX10_count 91 = .ok (.ireturn, 1) := by decide +kernel
theorem dX10_count_92 : decode cX10_count 92 = .ok (.aload_n 0, 1) := by decide +kernel
theorem dX10_count_93 : decode cX10_count 93 = .ok (.getfield 53, 3) := by decide +kernel
theorem dX10_count_96 : decode cX10_count 96 = .ok (.getfield 107, 3) := by decide +kernel
theorem dX10_count_99 : decode cX10_count 99 = .ok (.ireturn, 1) := by decide +kernel
theorem dX10_count_100 : decode cX10_count 100 = .ok (.aload_n 0, 1) := by decide +kernel
theorem dX10_count_101 : decode cX10_count 101 = .ok (.getfield 43, 3) := by decide +kernel
theorem dX10_count_104 : decode cX10_count 104 = .ok (.getfield 110, 3) := by decide +kernel
theorem dX10_count_107 : decode cX10_count 107 = .ok (.ireturn, 1) := by decide +kernel
theorem dX10_count_108 : decode cX10_count 108 = .ok (.aload_n 0, 1) := by decide +kernel
theorem dX10_count_109 : decode cX10_count 109 = .ok (.getfield 47, 3) := by decide +kernel
theorem dX10_count_112 : decode cX10_count 112 = .ok (.getfield 110, 3) := by decide +kernel
theorem dX10_count_115 : decode cX10_count 115 = .ok (.ireturn, 1) := by decide +kernel
theorem dX10_count_116 : decode cX10_count 116 = .ok (.aload_n 0, 1) := by decide +kernel
theorem dX10_count_117 : decode cX10_count 117 = .ok (.getfield 10, 3) := by decide +kernel
theorem dX10_count_120 : decode cX10_count 120 = .ok (.getfield 101, 3) := by decide +kernel
theorem dX10_count_123 : decode cX10_count 123 = .ok (.ireturn, 1) := by decide +kernel
theorem dX10_count_124 : decode cX10_count 124 = .ok (.iconst (-1), 1) := by decide +kernel
theorem dX10_count_125 : decode cX10_count 125 = .ok (.ireturn, 1) := by decide +kernel
theorem dX10_isHeardWhenTaught_0 : decode cX10_isHeardWhenTaught 0 = .ok (.aload_n 0, 1) := by decide +kernel
theorem dX10_isHeardWhenTaught_1 : decode cX10_isHeardWhenTaught 1 = .ok (.getfield 35, 3) := by decide +kernel
theorem dX10_isHeardWhenTaught_4 : decode cX10_isHeardWhenTaught 4 = .ok (.iload_n 2, 1) := by decide +kernel
theorem dX10_isHeardWhenTaught_5 : decode cX10_isHeardWhenTaught 5 = .ok (.invokevirtual 121, 3) := by decide +kernel
theorem dX10_isHeardWhenTaught_8 : decode cX10_isHeardWhenTaught 8 = .ok (.istore_n 3, 1) := by decide +kernel
theorem dX10_isHeardWhenTaught_9 : decode cX10_isHeardWhenTaught 9 = .ok (.aload_n 0, 1) := by decide +kernel
theorem dX10_isHeardWhenTaught_10 : decode cX10_isHeardWhenTaught 10 = .ok (.getfield 35, 3) := by decide +kernel
theorem dX10_isHeardWhenTaught_13 : decode cX10_isHeardWhenTaught 13 = .ok (.iload_n 1, 1) := by decide +kernel
theorem dX10_isHeardWhenTaught_14 : decode cX10_isHeardWhenTaught 14 = .ok (.iload_n 2, 1) := by decide +kernel
theorem dX10_isHeardWhenTaught_15 : decode cX10_isHeardWhenTaught 15 = .ok (.invokevirtual 153, 3) := by decide +kernel
theorem dX10_isHeardWhenTaught_18 : decode cX10_isHeardWhenTaught 18 = .ok (.aload_n 0, 1) := by decide +kernel
theorem dX10_isHeardWhenTaught_19 : decode cX10_isHeardWhenTaught 19 = .ok (.getfield 53, 3) := by decide +kernel
theorem dX10_isHeardWhenTaught_22 : decode cX10_isHeardWhenTaught 22 = .ok (.aload_n 0, 1) := by decide +kernel
theorem dX10_isHeardWhenTaught_23 : decode cX10_isHeardWhenTaught 23 = .ok (.getfield 35, 3) := by decide +kernel
theorem dX10_isHeardWhenTaught_26 : decode cX10_isHeardWhenTaught 26 = .ok (.invokevirtual 223, 3) := by decide +kernel
theorem dX10_isHeardWhenTaught_29 : decode cX10_isHeardWhenTaught 29 = .ok (.istore 4, 2) := by decide +kernel
theorem dX10_isHeardWhenTaught_31 : decode cX10_isHeardWhenTaught 31 = .ok (.aload_n 0, 1) := by decide +kernel
theorem dX10_isHeardWhenTaught_32 : decode cX10_isHeardWhenTaught 32 = .ok (.getfield 35, 3) := by decide +kernel
theorem dX10_isHeardWhenTaught_35 : decode cX10_isHeardWhenTaught 35 = .ok (.iload_n 2, 1) := by decide +kernel
theorem dX10_isHeardWhenTaught_36 : decode cX10_isHeardWhenTaught 36 = .ok (.iload_n 3, 1) := by decide +kernel
theorem dX10_isHeardWhenTaught_37 : decode cX10_isHeardWhenTaught 37 = .ok (.invokevirtual 157, 3) := by decide +kernel
theorem dX10_isHeardWhenTaught_40 : decode cX10_isHeardWhenTaught 40 = .ok (.iload 4, 2) := by decide +kernel
theorem dX10_isHeardWhenTaught_42 : decode cX10_isHeardWhenTaught 42 = .ok (.ireturn, 1) := by decide +kernel
theorem dX10_partInLowestTerms_0 : decode cX10_partInLowestTerms 0 = .ok (.iconst 1, 1) := by decide +kernel
theorem dX10_partInLowestTerms_1 : decode cX10_partInLowestTerms 1 = .ok (.istore_n 3, 1) := by decide +kernel
theorem dX10_partInLowestTerms_2 : decode cX10_partInLowestTerms 2 = .ok (.iconst 0, 1) := by decide +kernel
theorem dX10_partInLowestTerms_3 : decode cX10_partInLowestTerms 3 = .ok (.istore 4, 2) := by decide +kernel
theorem dX10_partInLowestTerms_5 : decode cX10_partInLowestTerms 5 = .ok (.iload 4, 2) := by decide +kernel
theorem dX10_partInLowestTerms_7 : decode cX10_partInLowestTerms 7 = .ok (.iload_n 1, 1) := by decide +kernel
theorem dX10_partInLowestTerms_8 : decode cX10_partInLowestTerms 8 = .ok (.if_icmp .ge 14, 3) := by decide +kernel
theorem dX10_partInLowestTerms_11 : decode cX10_partInLowestTerms 11 = .ok (.iload_n 3, 1) := by decide +kernel
theorem dX10_partInLowestTerms_12 : decode cX10_partInLowestTerms 12 = .ok (.bipush 10, 2) := by decide +kernel
theorem dX10_partInLowestTerms_14 : decode cX10_partInLowestTerms 14 = .ok (.imul, 1) := by decide +kernel
theorem dX10_partInLowestTerms_15 : decode cX10_partInLowestTerms 15 = .ok (.istore_n 3, 1) := by decide +kernel
theorem dX10_partInLowestTerms_16 : decode cX10_partInLowestTerms 16 = .ok (.iinc 4 1, 3) := by decide +kernel
theorem dX10_partInLowestTerms_19 : decode cX10_partInLowestTerms 19 = .ok (.goto (-14), 3) := by decide +kernel
theorem dX10_partInLowestTerms_22 : decode cX10_partInLowestTerms 22 = .ok (.iconst 0, 1) := by decide +kernel
theorem dX10_partInLowestTerms_23 : decode cX10_partInLowestTerms 23 = .ok (.istore 4, 2) := by decide +kernel
theorem dX10_partInLowestTerms_25 : decode cX10_partInLowestTerms 25 = .ok (.iload 4, 2) := by decide +kernel
theorem dX10_partInLowestTerms_27 : decode cX10_partInLowestTerms 27 = .ok (.iload_n 1, 1) := by decide +kernel
theorem dX10_partInLowestTerms_28 : decode cX10_partInLowestTerms 28 = .ok (.if_icmp .ge 49, 3) := by decide +kernel
theorem dX10_partInLowestTerms_31 : decode cX10_partInLowestTerms 31 = .ok (.iload_n 0, 1) := by decide +kernel
theorem dX10_partInLowestTerms_32 : decode cX10_partInLowestTerms 32 = .ok (.iconst 2, 1) := by decide +kernel
theorem dX10_partInLowestTerms_33 : decode cX10_partInLowestTerms 33 = .ok (.irem, 1) := by decide +kernel
theorem dX10_partInLowestTerms_34 : decode cX10_partInLowestTerms 34 = .ok (.ifCond .ne 17, 3) := by decide +kernel
theorem dX10_partInLowestTerms_37 : decode cX10_partInLowestTerms 37 = .ok (.iload_n 3, 1) := by decide +kernel
theorem dX10_partInLowestTerms_38 : decode cX10_partInLowestTerms 38 = .ok (.iconst 2, 1) := by decide +kernel
theorem dX10_partInLowestTerms_39 : decode cX10_partInLowestTerms 39 = .ok (.irem, 1) := by decide +kernel
theorem dX10_partInLowestTerms_40 : decode cX10_partInLowestTerms 40 = .ok (.ifCond .ne 11, 3) := by decide +kernel
theorem dX10_partInLowestTerms_43 : decode cX10_partInLowestTerms 43 = .ok (.iload_n 0, 1) := by decide +kernel
theorem dX10_partInLowestTerms_44 : decode cX10_partInLowestTerms 44 = .ok (.iconst 2, 1) := by decide +kernel
theorem dX10_partInLowestTerms_45 : decode cX10_partInLowestTerms 45 = .ok (.idiv, 1) := by decide +kernel
theorem dX10_partInLowestTerms_46 : decode cX10_partInLowestTerms 46 = .ok (.istore_n 0, 1) := by decide +kernel
theorem dX10_partInLowestTerms_47 : decode cX10_partInLowestTerms 47 = .ok (.iload_n 3, 1) := by decide +kernel
theorem dX10_partInLowestTerms_48 : decode cX10_partInLowestTerms 48 = .ok (.iconst 2, 1) := by decide +kernel
theorem dX10_partInLowestTerms_49 : decode cX10_partInLowestTerms 49 = .ok (.idiv, 1) := by decide +kernel
theorem dX10_partInLowestTerms_50 : decode cX10_partInLowestTerms 50 = .ok (.istore_n 3, 1) := by decide +kernel
theorem dX10_partInLowestTerms_51 : decode cX10_partInLowestTerms 51 = .ok (.iload_n 0, 1) := by decide +kernel
theorem dX10_partInLowestTerms_52 : decode cX10_partInLowestTerms 52 = .ok (.iconst 5, 1) := by decide +kernel
theorem dX10_partInLowestTerms_53 : decode cX10_partInLowestTerms 53 = .ok (.irem, 1) := by decide +kernel
theorem dX10_partInLowestTerms_54 : decode cX10_partInLowestTerms 54 = .ok (.ifCond .ne 17, 3) := by decide +kernel
theorem dX10_partInLowestTerms_57 : decode cX10_partInLowestTerms 57 = .ok (.iload_n 3, 1) := by decide +kernel
theorem dX10_partInLowestTerms_58 : decode cX10_partInLowestTerms 58 = .ok (.iconst 5, 1) := by decide +kernel
theorem dX10_partInLowestTerms_59 : decode cX10_partInLowestTerms 59 = .ok (.irem, 1) := by decide +kernel
theorem dX10_partInLowestTerms_60 : decode cX10_partInLowestTerms 60 = .ok (.ifCond .ne 11, 3) := by decide +kernel
theorem dX10_partInLowestTerms_63 : decode cX10_partInLowestTerms 63 = .ok (.iload_n 0, 1) := by decide +kernel
theorem dX10_partInLowestTerms_64 : decode cX10_partInLowestTerms 64 = .ok (.iconst 5, 1) := by decide +kernel
theorem dX10_partInLowestTerms_65 : decode cX10_partInLowestTerms 65 = .ok (.idiv, 1) := by decide +kernel
theorem dX10_partInLowestTerms_66 : decode cX10_partInLowestTerms 66 = .ok (.istore_n 0, 1) := by decide +kernel
theorem dX10_partInLowestTerms_67 : decode cX10_partInLowestTerms 67 = .ok (.iload_n 3, 1) := by decide +kernel
theorem dX10_partInLowestTerms_68 : decode cX10_partInLowestTerms 68 = .ok (.iconst 5, 1) := by decide +kernel
theorem dX10_partInLowestTerms_69 : decode cX10_partInLowestTerms 69 = .ok (.idiv, 1) := by decide +kernel
theorem dX10_partInLowestTerms_70 : decode cX10_partInLowestTerms 70 = .ok (.istore_n 3, 1) := by decide +kernel
theorem dX10_partInLowestTerms_71 : decode cX10_partInLowestTerms 71 = .ok (.iinc 4 1, 3) := by decide +kernel
theorem dX10_partInLowestTerms_74 : decode cX10_partInLowestTerms 74 = .ok (.goto (-49), 3) := by decide +kernel
theorem dX10_partInLowestTerms_77 : decode cX10_partInLowestTerms 77 = .ok (.iload_n 2, 1) := by decide +kernel
theorem dX10_partInLowestTerms_78 : decode cX10_partInLowestTerms 78 = .ok (.ifCond .ne 7, 3) := by decide +kernel
theorem dX10_partInLowestTerms_81 : decode cX10_partInLowestTerms 81 = .ok (.iload_n 0, 1) := by decide +kernel
theorem dX10_partInLowestTerms_82 : decode cX10_partInLowestTerms 82 = .ok (.goto 4, 3) := by decide +kernel
theorem dX10_partInLowestTerms_85 : decode cX10_partInLowestTerms 85 = .ok (.iload_n 3, 1) := by decide +kernel
theorem dX10_partInLowestTerms_86 : decode cX10_partInLowestTerms 86 = .ok (.ireturn, 1) := by decide +kernel
theorem dX10_draw_0 : decode cX10_draw 0 = .ok (.ldc2_w 248, 3) := by decide +kernel
theorem dX10_draw_3 : decode cX10_draw 3 = .ok (.iload_n 0, 1) := by decide +kernel
theorem dX10_draw_4 : decode cX10_draw 4 = .ok (.i2l, 1) := by decide +kernel
theorem dX10_draw_5 : decode cX10_draw 5 = .ok (.lmul, 1) := by decide +kernel
theorem dX10_draw_6 : decode cX10_draw 6 = .ok (.ldc2_w 250, 3) := by decide +kernel
theorem dX10_draw_9 : decode cX10_draw 9 = .ok (.iload_n 1, 1) := by decide +kernel
theorem dX10_draw_10 : decode cX10_draw 10 = .ok (.i2l, 1) := by decide +kernel
theorem dX10_draw_11 : decode cX10_draw 11 = .ok (.lmul, 1) := by decide +kernel
theorem dX10_draw_12 : decode cX10_draw 12 = .ok (.ladd, 1) := by decide +kernel
theorem dX10_draw_13 : decode cX10_draw 13 = .ok (.lconst 1, 1) := by decide +kernel
theorem dX10_draw_14 : decode cX10_draw 14 = .ok (.ladd, 1) := by decide +kernel
theorem dX10_draw_15 : decode cX10_draw 15 = .ok (.lstore_n 2, 1) := by decide +kernel
theorem dX10_draw_16 : decode cX10_draw 16 = .ok (.lload_n 2, 1) := by decide +kernel
theorem dX10_draw_17 : decode cX10_draw 17 = .ok (.lload_n 2, 1) := by decide +kernel
theorem dX10_draw_18 : decode cX10_draw 18 = .ok (.lmul, 1) := by decide +kernel
theorem dX10_draw_19 : decode cX10_draw 19 = .ok (.ldc2_w 252, 3) := by decide +kernel
theorem dX10_draw_22 : decode cX10_draw 22 = .ok (.lrem, 1) := by decide +kernel
theorem dX10_draw_23 : decode cX10_draw 23 = .ok (.ldc2_w 254, 3) := by decide +kernel
theorem dX10_draw_26 : decode cX10_draw 26 = .ok (.ldiv, 1) := by decide +kernel
theorem dX10_draw_27 : decode cX10_draw 27 = .ok (.l2i, 1) := by decide +kernel
theorem dX10_draw_28 : decode cX10_draw 28 = .ok (.ireturn, 1) := by decide +kernel
theorem dX10_lessonNumber_0 : decode cX10_lessonNumber 0 = .ok (.bipush 10, 2) := by decide +kernel
theorem dX10_lessonNumber_2 : decode cX10_lessonNumber 2 = .ok (.iload_n 0, 1) := by decide +kernel
theorem dX10_lessonNumber_3 : decode cX10_lessonNumber 3 = .ok (.imul, 1) := by decide +kernel
theorem dX10_lessonNumber_4 : decode cX10_lessonNumber 4 = .ok (.iload_n 1, 1) := by decide +kernel
theorem dX10_lessonNumber_5 : decode cX10_lessonNumber 5 = .ok (.iadd, 1) := by decide +kernel
theorem dX10_lessonNumber_6 : decode cX10_lessonNumber 6 = .ok (.ireturn, 1) := by decide +kernel
theorem dX10_at_0 : decode cX10_at 0 = .ok (.iload_n 1, 1) := by decide +kernel
theorem dX10_at_1 : decode cX10_at 1 = .ok (.ifCond .lt 15, 3) := by decide +kernel
theorem dX10_at_4 : decode cX10_at 4 = .ok (.iload_n 1, 1) := by decide +kernel
theorem dX10_at_5 : decode cX10_at 5 = .ok (.aload_n 0, 1) := by decide +kernel
theorem dX10_at_6 : decode cX10_at 6 = .ok (.arraylength, 1) := by decide +kernel
theorem dX10_at_7 : decode cX10_at 7 = .ok (.if_icmp .ge 9, 3) := by decide +kernel
theorem dX10_at_10 : decode cX10_at 10 = .ok (.aload_n 0, 1) := by decide +kernel
theorem dX10_at_11 : decode cX10_at 11 = .ok (.iload_n 1, 1) := by decide +kernel
theorem dX10_at_12 : decode cX10_at 12 = .ok (.iaload, 1) := by decide +kernel
theorem dX10_at_13 : decode cX10_at 13 = .ok (.goto 4, 3) := by decide +kernel
theorem dX10_at_16 : decode cX10_at 16 = .ok (.iconst 0, 1) := by decide +kernel
theorem dX10_at_17 : decode cX10_at 17 = .ok (.ireturn, 1) := by decide +kernel
theorem dX10_put_0 : decode cX10_put 0 = .ok (.iload_n 1, 1) := by decide +kernel
theorem dX10_put_1 : decode cX10_put 1 = .ok (.ifCond .lt 13, 3) := by decide +kernel
theorem dX10_put_4 : decode cX10_put 4 = .ok (.iload_n 1, 1) := by decide +kernel
theorem dX10_put_5 : decode cX10_put 5 = .ok (.aload_n 0, 1) := by decide +kernel
theorem dX10_put_6 : decode cX10_put 6 = .ok (.arraylength, 1) := by decide +kernel
theorem dX10_put_7 : decode cX10_put 7 = .ok (.if_icmp .ge 7, 3) := by decide +kernel
theorem dX10_put_10 : decode cX10_put 10 = .ok (.aload_n 0, 1) := by decide +kernel
theorem dX10_put_11 : decode cX10_put 11 = .ok (.iload_n 1, 1) := by decide +kernel
theorem dX10_put_12 : decode cX10_put 12 = .ok (.iload_n 2, 1) := by decide +kernel
theorem dX10_put_13 : decode cX10_put 13 = .ok (.iastore, 1) := by decide +kernel
theorem dX10_put_14 : decode cX10_put 14 = .ok (.return_, 1) := by decide +kernel
theorem dX11_init_0 : decode cX11_init 0 = .ok (.aload_n 0, 1) := by decide +kernel
theorem dX11_init_1 : decode cX11_init 1 = .ok (.invokespecial 1, 3) := by decide +kernel
theorem dX11_init_4 : decode cX11_init 4 = .ok (.aload_n 0, 1) := by decide +kernel
theorem dX11_init_5 : decode cX11_init 5 = .ok (.sipush 200, 3) := by decide +kernel
theorem dX11_init_8 : decode cX11_init 8 = .ok (.newarray .int, 2) := by decide +kernel
theorem dX11_init_10 : decode cX11_init 10 = .ok (.putfield 7, 3) := by decide +kernel
theorem dX11_init_13 : decode cX11_init 13 = .ok (.aload_n 0, 1) := by decide +kernel
theorem dX11_init_14 : decode cX11_init 14 = .ok (.iconst 3, 1) := by decide +kernel
theorem dX11_init_15 : decode cX11_init 15 = .ok (.newarray .int, 2) := by decide +kernel
theorem dX11_init_17 : decode cX11_init 17 = .ok (.putfield 13, 3) := by decide +kernel
theorem dX11_init_20 : decode cX11_init 20 = .ok (.aload_n 0, 1) := by decide +kernel
theorem dX11_init_21 : decode cX11_init 21 = .ok (.bipush 21, 2) := by decide +kernel
theorem dX11_init_23 : decode cX11_init 23 = .ok (.newarray .int, 2) := by decide +kernel
theorem dX11_init_25 : decode cX11_init 25 = .ok (.putfield 16, 3) := by decide +kernel
theorem dX11_init_28 : decode cX11_init 28 = .ok (.aload_n 0, 1) := by decide +kernel
theorem dX11_init_29 : decode cX11_init 29 = .ok (.bipush 7, 2) := by decide +kernel
theorem dX11_init_31 : decode cX11_init 31 = .ok (.newarray .int, 2) := by decide +kernel
theorem dX11_init_33 : decode cX11_init 33 = .ok (.putfield 19, 3) := by decide +kernel
theorem dX11_init_36 : decode cX11_init 36 = .ok (.aload_n 0, 1) := by decide +kernel
theorem dX11_init_37 : decode cX11_init 37 = .ok (.bipush 27, 2) := by decide +kernel
theorem dX11_init_39 : decode cX11_init 39 = .ok (.newarray .int, 2) := by decide +kernel
theorem dX11_init_41 : decode cX11_init 41 = .ok (.putfield 22, 3) := by decide +kernel
theorem dX11_init_44 : decode cX11_init 44 = .ok (.aload_n 0, 1) := by decide +kernel
theorem dX11_init_45 : decode cX11_init 45 = .ok (.bipush 7, 2) := by decide +kernel
theorem dX11_init_47 : decode cX11_init 47 = .ok (.newarray .int, 2) := by decide +kernel
theorem dX11_init_49 : decode cX11_init 49 = .ok (.putfield 25, 3) := by decide +kernel
theorem dX11_init_52 : decode cX11_init 52 = .ok (.aload_n 0, 1) := by decide +kernel
theorem dX11_init_53 : decode cX11_init 53 = .ok (.bipush 7, 2) := by decide +kernel
theorem dX11_init_55 : decode cX11_init 55 = .ok (.newarray .int, 2) := by decide +kernel
theorem dX11_init_57 : decode cX11_init 57 = .ok (.putfield 28, 3) := by decide +kernel
theorem dX11_init_60 : decode cX11_init 60 = .ok (.aload_n 0, 1) := by decide +kernel
theorem dX11_init_61 : decode cX11_init 61 = .ok (.bipush 27, 2) := by decide +kernel
theorem dX11_init_63 : decode cX11_init 63 = .ok (.newarray .int, 2) := by decide +kernel
theorem dX11_init_65 : decode cX11_init 65 = .ok (.putfield 31, 3) := by decide +kernel
theorem dX11_init_68 : decode cX11_init 68 = .ok (.aload_n 0, 1) := by decide +kernel
theorem dX11_init_69 : decode cX11_init 69 = .ok (.bipush 15, 2) := by decide +kernel
theorem dX11_init_71 : decode cX11_init 71 = .ok (.newarray .int, 2) := by decide +kernel
theorem dX11_init_73 : decode cX11_init 73 = .ok (.putfield 34, 3) := by decide +kernel
theorem dX11_init_76 : decode cX11_init 76 = .ok (.aload_n 0, 1) := by decide +kernel
theorem dX11_init_77 : decode cX11_init 77 = .ok (.bipush 15, 2) := by decide +kernel
theorem dX11_init_79 : decode cX11_init 79 = .ok (.newarray .int, 2) := by decide +kernel
theorem dX11_init_81 : decode cX11_init 81 = .ok (.putfield 37, 3) := by decide +kernel
theorem dX11_init_84 : decode cX11_init 84 = .ok (.aload_n 0, 1) := by decide +kernel
theorem dX11_init_85 : decode cX11_init 85 = .ok (.bipush 15, 2) := by decide +kernel
theorem dX11_init_87 : decode cX11_init 87 = .ok (.newarray .int, 2) := by decide +kernel
theorem dX11_init_89 : decode cX11_init 89 = .ok (.putfield 40, 3) := by decide +kernel
theorem dX11_init_92 : decode cX11_init 92 = .ok (.aload_n 0, 1) := by decide +kernel
theorem dX11_init_93 : decode cX11_init 93 = .ok (.bipush 120, 2) := by decide +kernel
theorem dX11_init_95 : decode cX11_init 95 = .ok (.newarray .int, 2) := by decide +kernel
theorem dX11_init_97 : decode cX11_init 97 = .ok (.putfield 43, 3) := by decide +kernel
theorem dX11_init_100 : decode cX11_init 100 = .ok (.aload_n 0, 1) := by decide +kernel
theorem dX11_init_101 : decode cX11_init 101 = .ok (.bipush 30, 2) := by decide +kernel
theorem dX11_init_103 : decode cX11_init 103 = .ok (.newarray .int, 2) := by decide +kernel
theorem dX11_init_105 : decode cX11_init 105 = .ok (.putfield 46, 3) := by decide +kernel
theorem dX11_init_108 : decode cX11_init 108 = .ok (.aload_n 0, 1) := by decide +kernel
theorem dX11_init_109 : decode cX11_init 109 = .ok (.bipush 12, 2) := by decide +kernel
theorem dX11_init_111 : decode cX11_init 111 = .ok (.newarray .int, 2) := by decide +kernel
theorem dX11_init_113 : decode cX11_init 113 = .ok (.putfield 49, 3) := by decide +kernel
theorem dX11_init_116 : decode cX11_init 116 = .ok (.aload_n 0, 1) := by decide +kernel
theorem dX11_init_117 : decode cX11_init 117 = .ok (.iconst 2, 1) := by decide +kernel
theorem dX11_init_118 : decode cX11_init 118 = .ok (.newarray .int, 2) := by decide +kernel
theorem dX11_init_120 : decode cX11_init 120 = .ok (.putfield 52, 3) := by decide +kernel
theorem dX11_init_123 : decode cX11_init 123 = .ok (.aload_n 0, 1) := by decide +kernel
theorem dX11_init_124 : decode cX11_init 124 = .ok (.bipush 7, 2) := by decide +kernel
theorem dX11_init_126 : decode cX11_init 126 = .ok (.newarray .int, 2) := by decide +kernel
theorem dX11_init_128 : decode cX11_init 128 = .ok (.putfield 55, 3) := by decide +kernel
theorem dX11_init_131 : decode cX11_init 131 = .ok (.aload_n 0, 1) := by decide +kernel
theorem dX11_init_132 : decode cX11_init 132 = .ok (.bipush 7, 2) := by decide +kernel
theorem dX11_init_134 : decode cX11_init 134 = .ok (.newarray .int, 2) := by decide +kernel
theorem dX11_init_136 : decode cX11_init 136 = .ok (.putfield 58, 3) := by decide +kernel
theorem dX11_init_139 : decode cX11_init 139 = .ok (.aload_n 0, 1) := by decide +kernel
theorem dX11_init_140 : decode cX11_init 140 = .ok (.bipush 7, 2) := by decide +kernel
theorem dX11_init_142 : decode cX11_init 142 = .ok (.newarray .int, 2) := by decide +kernel
theorem dX11_init_144 : decode cX11_init 144 = .ok (.putfield 61, 3) := by decide +kernel
theorem dX11_init_147 : decode cX11_init 147 = .ok (.aload_n 0, 1) := by decide +kernel
theorem dX11_init_148 : decode cX11_init 148 = .ok (.bipush 7, 2) := by decide +kernel
theorem dX11_init_150 : decode cX11_init 150 = .ok (.newarray .int, 2) := by decide +kernel
theorem dX11_init_152 : decode cX11_init 152 = .ok (.putfield 64, 3) := by decide +kernel
theorem dX11_init_155 : decode cX11_init 155 = .ok (.aload_n 0, 1) := by decide +kernel
theorem dX11_init_156 : decode cX11_init 156 = .ok (.bipush 7, 2) := by decide +kernel
theorem dX11_init_158 : decode cX11_init 158 = .ok (.newarray .int, 2) := by decide +kernel
theorem dX11_init_160 : decode cX11_init 160 = .ok (.putfield 67, 3) := by decide +kernel
theorem dX11_init_163 : decode cX11_init 163 = .ok (.aload_n 0, 1) := by decide +kernel
theorem dX11_init_164 : decode cX11_init 164 = .ok (.iconst 0, 1) := by decide +kernel
theorem dX11_init_165 : decode cX11_init 165 = .ok (.iconst 0, 1) := by decide +kernel
theorem dX11_init_166 : decode cX11_init 166 = .ok (.bipush 100, 2) := by decide +kernel
theorem dX11_init_168 : decode cX11_init 168 = .ok (.bipush 10, 2) := by decide +kernel
theorem dX11_init_170 : decode cX11_init 170 = .ok (.invokevirtual 70, 3) := by decide +kernel
theorem dX11_init_173 : decode cX11_init 173 = .ok (.aload_n 0, 1) := by decide +kernel
theorem dX11_init_174 : decode cX11_init 174 = .ok (.iconst 1, 1) := by decide +kernel
theorem dX11_init_175 : decode cX11_init 175 = .ok (.iconst 1, 1) := by decide +kernel
theorem dX11_init_176 : decode cX11_init 176 = .ok (.bipush 112, 2) := by decide +kernel
theorem dX11_init_178 : decode cX11_init 178 = .ok (.bipush 11, 2) := by decide +kernel
theorem dX11_init_180 : decode cX11_init 180 = .ok (.invokevirtual 70, 3) := by decide +kernel
theorem dX11_init_183 : decode cX11_init 183 = .ok (.aload_n 0, 1) := by decide +kernel
theorem dX11_init_184 : decode cX11_init 184 = .ok (.iconst 2, 1) := by decide +kernel
theorem dX11_init_185 : decode cX11_init 185 = .ok (.iconst 2, 1) := by decide +kernel
theorem dX11_init_186 : decode cX11_init 186 = .ok (.bipush 95, 2) := by decide +kernel
theorem dX11_init_188 : decode cX11_init 188 = .ok (.bipush 10, 2) := by decide +kernel
theorem dX11_init_190 : decode cX11_init 190 = .ok (.invokevirtual 70, 3) := by decide +kernel
theorem dX11_init_193 : decode cX11_init 193 = .ok (.aload_n 0, 1) := by decide +kernel
theorem dX11_init_194 : decode cX11_init 194 = .ok (.iconst 3, 1) := by decide +kernel
theorem dX11_init_195 : decode cX11_init 195 = .ok (.iconst 3, 1) := by decide +kernel
theorem dX11_init_196 : decode cX11_init 196 = .ok (.sipush 130, 3) := by decide +kernel
theorem dX11_init_199 : decode cX11_init 199 = .ok (.bipush 9, 2) := by decide +kernel
theorem dX11_init_201 : decode cX11_init 201 = .ok (.invokevirtual 70, 3) := by decide +kernel
theorem dX11_init_204 : decode cX11_init 204 = .ok (.aload_n 0, 1) := by decide +kernel
theorem dX11_init_205 : decode cX11_init 205 = .ok (.iconst 4, 1) := by decide +kernel
theorem dX11_init_206 : decode cX11_init 206 = .ok (.iconst 4, 1) := by decide +kernel
theorem dX11_init_207 : decode cX11_init 207 = .ok (.bipush 80, 2) := by decide +kernel
theorem dX11_init_209 : decode cX11_init 209 = .ok (.bipush 12, 2) := by decide +kernel
theorem dX11_init_211 : decode cX11_init 211 = .ok (.invokevirtual 70, 3) := by decide +kernel
theorem dX11_init_214 : decode cX11_init 214 = .ok (.aload_n 0, 1) := by decide +kernel
theorem dX11_init_215 : decode cX11_init 215 = .ok (.iconst 5, 1) := by decide +kernel
theorem dX11_init_216 : decode cX11_init 216 = .ok (.putfield 74, 3) := by decide +kernel
theorem dX11_init_219 : decode cX11_init 219 = .ok (.aload_n 0, 1) := by decide +kernel
theorem dX11_init_220 : decode cX11_init 220 = .ok (.iconst 0, 1) := by decide +kernel
theorem dX11_init_221 : decode cX11_init 221 = .ok (.iconst 1, 1) := by decide +kernel
theorem dX11_init_222 : decode cX11_init 222 = .ok (.invokevirtual 78, 3) := by decide +kernel
theorem dX11_init_225 : decode cX11_init 225 = .ok (.aload_n 0, 1) := by decide +kernel
theorem dX11_init_226 : decode cX11_init 226 = .ok (.iconst 1, 1) := by decide +kernel
theorem dX11_init_227 : decode cX11_init 227 = .ok (.iconst 2, 1) := by decide +kernel
theorem dX11_init_228 : decode cX11_init 228 = .ok (.invokevirtual 78, 3) := by decide +kernel
theorem dX11_init_231 : decode cX11_init 231 = .ok (.aload_n 0, 1) := by decide +kernel
theorem dX11_init_232 : decode cX11_init 232 = .ok (.iconst 3, 1) := by decide +kernel
theorem dX11_init_233 : decode cX11_init 233 = .ok (.iconst 4, 1) := by decide +kernel
theorem dX11_init_234 : decode cX11_init 234 = .ok (.invokevirtual 78, 3) := by decide +kernel
theorem dX11_init_237 : decode cX11_init 237 = .ok (.aload_n 0, 1) := by decide +kernel
theorem dX11_init_238 : decode cX11_init 238 = .ok (.iconst 0, 1) := by decide +kernel
theorem dX11_init_239 : decode cX11_init 239 = .ok (.iconst 0, 1) := by decide +kernel
theorem dX11_init_240 : decode cX11_init 240 = .ok (.iconst 0, 1) := by decide +kernel
theorem dX11_init_241 : decode cX11_init 241 = .ok (.iconst 1, 1) := by decide +kernel
theorem dX11_init_242 : decode cX11_init 242 = .ok (.invokevirtual 82, 3) := by decide +kernel
theorem dX11_init_245 : decode cX11_init 245 = .ok (.aload_n 0, 1) := by decide +kernel
theorem dX11_init_246 : decode cX11_init 246 = .ok (.iconst 1, 1) := by decide +kernel
theorem dX11_init_247 : decode cX11_init 247 = .ok (.iconst 1, 1) := by decide +kernel
theorem dX11_init_248 : decode cX11_init 248 = .ok (.iconst 1, 1) := by decide +kernel
theorem dX11_init_249 : decode cX11_init 249 = .ok (.iconst 2, 1) := by decide +kernel
theorem dX11_init_250 : decode cX11_init 250 = .ok (.invokevirtual 82, 3) := by decide +kernel
theorem dX11_init_253 : decode cX11_init 253 = .ok (.aload_n 0, 1) := by decide +kernel
theorem dX11_init_254 : decode cX11_init 254 = .ok (.iconst 2, 1) := by decide +kernel
theorem dX11_init_255 : decode cX11_init 255 = .ok (.iconst 2, 1) := by decide +kernel
theorem dX11_init_256 : decode cX11_init 256 = .ok (.iconst 2, 1) := by decide +kernel
theorem dX11_init_257 : decode cX11_init 257 = .ok (.iconst 4, 1) := by decide +kernel
theorem dX11_init_258 : decode cX11_init 258 = .ok (.invokevirtual 82, 3) := by decide +kernel
theorem dX11_init_261 : decode cX11_init 261 = .ok (.aload_n 0, 1) := by decide +kernel
theorem dX11_init_262 : decode cX11_init 262 = .ok (.iconst 3, 1) := by decide +kernel
theorem dX11_init_263 : decode cX11_init 263 = .ok (.bipush 6, 2) := by decide +kernel
theorem dX11_init_265 : decode cX11_init 265 = .ok (.iconst 0, 1) := by decide +kernel
theorem dX11_init_266 : decode cX11_init 266 = .ok (.iconst 4, 1) := by decide +kernel
theorem dX11_init_267 : decode cX11_init 267 = .ok (.invokevirtual 82, 3) := by decide +kernel
theorem dX11_init_270 : decode cX11_init 270 = .ok (.aload_n 0, 1) := by decide +kernel
theorem dX11_init_271 : decode cX11_init 271 = .ok (.iconst 4, 1) := by decide +kernel
theorem dX11_init_272 : decode cX11_init 272 = .ok (.bipush 9, 2) := by decide +kernel
theorem dX11_init_274 : decode cX11_init 274 = .ok (.iconst 4, 1) := by decide +kernel
theorem dX11_init_275 : decode cX11_init 275 = .ok (.iconst 3, 1) := by decide +kernel
theorem dX11_init_276 : decode cX11_init 276 = .ok (.invokevirtual 82, 3) := by decide +kernel
theorem dX11_init_279 : decode cX11_init 279 = .ok (.aload_n 0, 1) := by decide +kernel
theorem dX11_init_280 : decode cX11_init 280 = .ok (.iconst 5, 1) := by decide +kernel
theorem dX11_init_281 : decode cX11_init 281 = .ok (.putfield 85, 3) := by decide +kernel
theorem dX11_init_284 : decode cX11_init 284 = .ok (.aload_n 0, 1) := by decide +kernel
theorem dX11_init_285 : decode cX11_init 285 = .ok (.invokevirtual 88, 3) := by decide +kernel
theorem dX11_init_288 : decode cX11_init 288 = .ok (.return_, 1) := by decide +kernel
theorem dX11_layClock_0 : decode cX11_layClock 0 = .ok (.aload_n 0, 1) := by decide +kernel
theorem dX11_layClock_1 : decode cX11_layClock 1 = .ok (.getfield 16, 3) := by decide +kernel
theorem dX11_layClock_4 : decode cX11_layClock 4 = .ok (.iconst 3, 1) := by decide +kernel
theorem dX11_layClock_5 : decode cX11_layClock 5 = .ok (.iload_n 1, 1) := by decide +kernel
theorem dX11_layClock_6 : decode cX11_layClock 6 = .ok (.imul, 1) := by decide +kernel
theorem dX11_layClock_7 : decode cX11_layClock 7 = .ok (.iload_n 2, 1) := by decide +kernel
theorem dX11_layClock_8 : decode cX11_layClock 8 = .ok (.iastore, 1) := by decide +kernel
theorem dX11_layClock_9 : decode cX11_layClock 9 = .ok (.aload_n 0, 1) := by decide +kernel
theorem dX11_layClock_10 : decode cX11_layClock 10 = .ok (.getfield 16, 3) := by decide +kernel
theorem dX11_layClock_13 : decode cX11_layClock 13 = .ok (.iconst 3, 1) := by decide +kernel
theorem dX11_layClock_14 : decode cX11_layClock 14 = .ok (.iload_n 1, 1) := by decide +kernel
theorem dX11_layClock_15 : decode cX11_layClock 15 = .ok (.imul, 1) := by decide +kernel
theorem dX11_layClock_16 : decode cX11_layClock 16 = .ok (.iconst 1, 1) := by decide +kernel
theorem dX11_layClock_17 : decode cX11_layClock 17 = .ok (.iadd, 1) := by decide +kernel
theorem dX11_layClock_18 : decode cX11_layClock 18 = .ok (.iload_n 3, 1) := by decide +kernel
theorem dX11_layClock_19 : decode cX11_layClock 19 = .ok (.iastore, 1) := by decide +kernel
theorem dX11_layClock_20 : decode cX11_layClock 20 = .ok (.aload_n 0, 1) := by decide +kernel
theorem dX11_layClock_21 : decode cX11_layClock 21 = .ok (.getfield 16, 3) := by decide +kernel
theorem dX11_layClock_24 : decode cX11_layClock 24 = .ok (.iconst 3, 1) := by decide +kernel
theorem dX11_layClock_25 : decode cX11_layClock 25 = .ok (.iload_n 1, 1) := by decide +kernel
theorem dX11_layClock_26 : decode cX11_layClock 26 = .ok (.imul, 1) := by decide +kernel
theorem dX11_layClock_27 : decode cX11_layClock 27 = .ok (.iconst 2, 1) := by decide +kernel
theorem dX11_layClock_28 : decode cX11_layClock 28 = .ok (.iadd, 1) := by decide +kernel
theorem dX11_layClock_29 : decode cX11_layClock 29 = .ok (.iload 4, 2) := by decide +kernel
theorem dX11_layClock_31 : decode cX11_layClock 31 = .ok (.iastore, 1) := by decide +kernel
theorem dX11_layClock_32 : decode cX11_layClock 32 = .ok (.return_, 1) := by decide +kernel
theorem dX11_layWall_0 : decode cX11_layWall 0 = .ok (.aload_n 0, 1) := by decide +kernel
theorem dX11_layWall_1 : decode cX11_layWall 1 = .ok (.getfield 19, 3) := by decide +kernel
theorem dX11_layWall_4 : decode cX11_layWall 4 = .ok (.iload_n 1, 1) := by decide +kernel
theorem dX11_layWall_5 : decode cX11_layWall 5 = .ok (.aload_n 0, 1) := by decide +kernel
theorem dX11_layWall_6 : decode cX11_layWall 6 = .ok (.getfield 19, 3) := by decide +kernel
theorem dX11_layWall_9 : decode cX11_layWall 9 = .ok (.iload_n 1, 1) := by decide +kernel
theorem dX11_layWall_10 : decode cX11_layWall 10 = .ok (.iaload, 1) := by decide +kernel
theorem dX11_layWall_11 : decode cX11_layWall 11 = .ok (.iconst 1, 1) := by decide +kernel
theorem dX11_layWall_12 : decode cX11_layWall 12 = .ok (.iload_n 2, 1) := by decide +kernel
theorem dX11_layWall_13 : decode cX11_layWall 13 = .ok (.ishl, 1) := by decide +kernel
theorem dX11_layWall_14 : decode cX11_layWall 14 = .ok (.ior, 1) := by decide +kernel
theorem dX11_layWall_15 : decode cX11_layWall 15 = .ok (.iastore, 1) := by decide +kernel
theorem dX11_layWall_16 : decode cX11_layWall 16 = .ok (.aload_n 0, 1) := by decide +kernel
theorem dX11_layWall_17 : decode cX11_layWall 17 = .ok (.getfield 19, 3) := by decide +kernel
theorem dX11_layWall_20 : decode cX11_layWall 20 = .ok (.iload_n 2, 1) := by decide +kernel
theorem dX11_layWall_21 : decode cX11_layWall 21 = .ok (.aload_n 0, 1) := by decide +kernel
theorem dX11_layWall_22 : decode cX11_layWall 22 = .ok (.getfield 19, 3) := by decide +kernel
theorem dX11_layWall_25 : decode cX11_layWall 25 = .ok (.iload_n 2, 1) := by decide +kernel
theorem dX11_layWall_26 : decode cX11_layWall 26 = .ok (.iaload, 1) := by decide +kernel
theorem dX11_layWall_27 : decode cX11_layWall 27 = .ok (.iconst 1, 1) := by decide +kernel
theorem dX11_layWall_28 : decode cX11_layWall 28 = .ok (.iload_n 1, 1) := by decide +kernel
theorem dX11_layWall_29 : decode cX11_layWall 29 = .ok (.ishl, 1) := by decide +kernel
theorem dX11_layWall_30 : decode cX11_layWall 30 = .ok (.ior, 1) := by decide +kernel
theorem dX11_layWall_31 : decode cX11_layWall 31 = .ok (.iastore, 1) := by decide +kernel
theorem dX11_layWall_32 : decode cX11_layWall 32 = .ok (.return_, 1) := by decide +kernel
theorem dX11_layLesson_0 : decode cX11_layLesson 0 = .ok (.aload_n 0, 1) := by decide +kernel
theorem dX11_layLesson_1 : decode cX11_layLesson 1 = .ok (.getfield 22, 3) := by decide +kernel
theorem dX11_layLesson_4 : decode cX11_layLesson 4 = .ok (.iconst 3, 1) := by decide +kernel
theorem dX11_layLesson_5 : decode cX11_layLesson 5 = .ok (.iload_n 1, 1) := by decide +kernel
theorem dX11_layLesson_6 : decode cX11_layLesson 6 = .ok (.imul, 1) := by decide +kernel
theorem dX11_layLesson_7 : decode cX11_layLesson 7 = .ok (.iload_n 2, 1) := by decide +kernel
theorem dX11_layLesson_8 : decode cX11_layLesson 8 = .ok (.iastore, 1) := by decide +kernel
theorem dX11_layLesson_9 : decode cX11_layLesson 9 = .ok (.aload_n 0, 1) := by decide +kernel
theorem dX11_layLesson_10 : decode cX11_layLesson 10 = .ok (.getfield 22, 3) := by decide +kernel
theorem dX11_layLesson_13 : decode cX11_layLesson 13 = .ok (.iconst 3, 1) := by decide +kernel
theorem dX11_layLesson_14 : decode cX11_layLesson 14 = .ok (.iload_n 1, 1) := by decide +kernel
theorem dX11_layLesson_15 : decode cX11_layLesson 15 = .ok (.imul, 1) := by decide +kernel
theorem dX11_layLesson_16 : decode cX11_layLesson 16 = .ok (.iconst 1, 1) := by decide +kernel
theorem dX11_layLesson_17 : decode cX11_layLesson 17 = .ok (.iadd, 1) := by decide +kernel
theorem dX11_layLesson_18 : decode cX11_layLesson 18 = .ok (.iload_n 3, 1) := by decide +kernel
theorem dX11_layLesson_19 : decode cX11_layLesson 19 = .ok (.iastore, 1) := by decide +kernel
theorem dX11_layLesson_20 : decode cX11_layLesson 20 = .ok (.aload_n 0, 1) := by decide +kernel
theorem dX11_layLesson_21 : decode cX11_layLesson 21 = .ok (.getfield 22, 3) := by decide +kernel
theorem dX11_layLesson_24 : decode cX11_layLesson 24 = .ok (.iconst 3, 1) := by decide +kernel
theorem dX11_layLesson_25 : decode cX11_layLesson 25 = .ok (.iload_n 1, 1) := by decide +kernel
theorem dX11_layLesson_26 : decode cX11_layLesson 26 = .ok (.imul, 1) := by decide +kernel
theorem dX11_layLesson_27 : decode cX11_layLesson 27 = .ok (.iconst 2, 1) := by decide +kernel
theorem dX11_layLesson_28 : decode cX11_layLesson 28 = .ok (.iadd, 1) := by decide +kernel
theorem dX11_layLesson_29 : decode cX11_layLesson 29 = .ok (.iload 4, 2) := by decide +kernel
theorem dX11_layLesson_31 : decode cX11_layLesson 31 = .ok (.iastore, 1) := by decide +kernel
theorem dX11_layLesson_32 : decode cX11_layLesson 32 = .ok (.return_, 1) := by decide +kernel
theorem dX11_in_0 : decode cX11_in 0 = .ok (.iload_n 0, 1) := by decide +kernel
theorem dX11_in_1 : decode cX11_in 1 = .ok (.iload_n 1, 1) := by decide +kernel
theorem dX11_in_2 : decode cX11_in 2 = .ok (.if_icmp .lt 12, 3) := by decide +kernel
theorem dX11_in_5 : decode cX11_in 5 = .ok (.iload_n 0, 1) := by decide +kernel
theorem dX11_in_6 : decode cX11_in 6 = .ok (.iload_n 2, 1) := by decide +kernel
theorem dX11_in_7 : decode cX11_in 7 = .ok (.if_icmp .gt 7, 3) := by decide +kernel
theorem dX11_in_10 : decode cX11_in 10 = .ok (.iconst 1, 1) := by decide +kernel
theorem dX11_in_11 : decode cX11_in 11 = .ok (.goto 4, 3) := by decide +kernel
theorem dX11_in_14 : decode cX11_in 14 = .ok (.iconst 0, 1) := by decide +kernel
theorem dX11_in_15 : decode cX11_in 15 = .ok (.ireturn, 1) := by decide +kernel
theorem dX11_has_0 : decode cX11_has 0 = .ok (.iload_n 0, 1) := by decide +kernel
theorem dX11_has_1 : decode cX11_has 1 = .ok (.iload_n 1, 1) := by decide +kernel
theorem dX11_has_2 : decode cX11_has 2 = .ok (.ishr, 1) := by decide +kernel
theorem dX11_has_3 : decode cX11_has 3 = .ok (.iconst 1, 1) := by decide +kernel
theorem dX11_has_4 : decode cX11_has 4 = .ok (.iand, 1) := by decide +kernel
theorem dX11_has_5 : decode cX11_has 5 = .ok (.iconst 1, 1) := by decide +kernel
theorem dX11_has_6 : decode cX11_has 6 = .ok (.if_icmp .ne 7, 3) := by decide +kernel
theorem dX11_has_9 : decode cX11_has 9 = .ok (.iconst 1, 1) := by decide +kernel
theorem dX11_has_10 : decode cX11_has 10 = .ok (.goto 4, 3) := by decide +kernel
theorem dX11_has_13 : decode cX11_has 13 = .ok (.iconst 0, 1) := by decide +kernel
theorem dX11_has_14 : decode cX11_has 14 = .ok (.ireturn, 1) := by decide +kernel
theorem dX11_far_0 : decode cX11_far 0 = .ok (.iload_n 0, 1) := by decide +kernel
theorem dX11_far_1 : decode cX11_far 1 = .ok (.ifCond .ge 8, 3) := by decide +kernel
theorem dX11_far_4 : decode cX11_far 4 = .ok (.iload_n 0, 1) := by decide +kernel
theorem dX11_far_5 : decode cX11_far 5 = .ok (.ineg, 1) := by decide +kernel
theorem dX11_far_6 : decode cX11_far 6 = .ok (.goto 4, 3) := by decide +kernel
theorem dX11_far_9 : decode cX11_far 9 = .ok (.iload_n 0, 1) := by decide +kernel
theorem dX11_far_10 : decode cX11_far 10 = .ok (.ireturn, 1) := by decide +kernel
theorem dX11_isClock_0 : decode cX11_isClock 0 = .ok (.iload_n 1, 1) := by decide +kernel
theorem dX11_isClock_1 : decode cX11_isClock 1 = .ok (.iconst 0, 1) := by decide +kernel
theorem dX11_isClock_2 : decode cX11_isClock 2 = .ok (.aload_n 0, 1) := by decide +kernel
theorem dX11_isClock_3 : decode cX11_isClock 3 = .ok (.getfield 91, 3) := by decide +kernel
theorem dX11_isClock_6 : decode cX11_isClock 6 = .ok (.iconst 1, 1) := by decide +kernel
theorem dX11_isClock_7 : decode cX11_isClock 7 = .ok (.isub, 1) := by decide +kernel
theorem dX11_isClock_8 : decode cX11_isClock 8 = .ok (.invokestatic 94, 3) := by decide +kernel
theorem dX11_isClock_11 : decode cX11_isClock 11 = .ok (.ireturn, 1) := by decide +kernel
theorem dX11_write_0 : decode cX11_write 0 = .ok (.iload_n 1, 1) := by decide +kernel
theorem dX11_write_1 : decode cX11_write 1 = .ok (.bipush 32, 2) := by decide +kernel
theorem dX11_write_3 : decode cX11_write 3 = .ok (.bipush 126, 2) := by decide +kernel
theorem dX11_write_5 : decode cX11_write 5 = .ok (.invokestatic 94, 3) := by decide +kernel
theorem dX11_write_8 : decode cX11_write 8 = .ok (.ifCond .ne 5, 3) := by decide +kernel
theorem dX11_write_11 : decode cX11_write 11 = .ok (.iconst (-1), 1) := by decide +kernel
theorem dX11_write_12 : decode cX11_write 12 = .ok (.ireturn, 1) := by decide +kernel
theorem dX11_write_13 : decode cX11_write 13 = .ok (.aload_n 0, 1) := by decide +kernel
theorem dX11_write_14 : decode cX11_write 14 = .ok (.getfield 98, 3) := by decide +kernel
theorem dX11_write_17 : decode cX11_write 17 = .ok (.sipush 200, 3) := by decide +kernel
theorem dX11_write_20 : decode cX11_write 20 = .ok (.if_icmp .ne 6, 3) := by decide +kernel
theorem dX11_write_23 : decode cX11_write 23 = .ok (.bipush (-3), 2) := by decide +kernel
theorem dX11_write_25 : decode cX11_write 25 = .ok (.ireturn, 1) := by decide +kernel
theorem dX11_write_26 : decode cX11_write 26 = .ok (.aload_n 0, 1) := by decide +kernel
theorem dX11_write_27 : decode cX11_write 27 = .ok (.getfield 7, 3) := by decide +kernel
theorem dX11_write_30 : decode cX11_write 30 = .ok (.aload_n 0, 1) := by decide +kernel
theorem dX11_write_31 : decode cX11_write 31 = .ok (.getfield 98, 3) := by decide +kernel
theorem dX11_write_34 : decode cX11_write 34 = .ok (.iload_n 1, 1) := by decide +kernel
theorem dX11_write_35 : decode cX11_write 35 = .ok (.iastore, 1) := by decide +kernel
theorem dX11_write_36 : decode cX11_write 36 = .ok (.aload_n 0, 1) := by decide +kernel
theorem dX11_write_37 : decode cX11_write 37 = .ok (.dup, 1) := by decide +kernel
theorem dX11_write_38 : decode cX11_write 38 = .ok (.getfield 98, 3) := by decide +kernel
theorem dX11_write_41 : decode cX11_write 41 = .ok (.iconst 1, 1) := by decide +kernel
theorem dX11_write_42 : decode cX11_write 42 = .ok (.iadd, 1) := by decide +kernel
theorem dX11_write_43 : decode cX11_write 43 = .ok (.putfield 98, 3) := by decide +kernel
theorem dX11_write_46 : decode cX11_write 46 = .ok (.aload_n 0, 1) := by decide +kernel
theorem dX11_write_47 : decode cX11_write 47 = .ok (.getfield 98, 3) := by decide +kernel
theorem dX11_write_50 : decode cX11_write 50 = .ok (.ireturn, 1) := by decide +kernel
theorem dX11_wipe_0 : decode cX11_wipe 0 = .ok (.aload_n 0, 1) := by decide +kernel
theorem dX11_wipe_1 : decode cX11_wipe 1 = .ok (.getfield 98, 3) := by decide +kernel
theorem dX11_wipe_4 : decode cX11_wipe 4 = .ok (.istore_n 1, 1) := by decide +kernel
theorem dX11_wipe_5 : decode cX11_wipe 5 = .ok (.aload_n 0, 1) := by decide +kernel
theorem dX11_wipe_6 : decode cX11_wipe 6 = .ok (.iconst 0, 1) := by decide +kernel
theorem dX11_wipe_7 : decode cX11_wipe 7 = .ok (.putfield 98, 3) := by decide +kernel
theorem dX11_wipe_10 : decode cX11_wipe 10 = .ok (.iload_n 1, 1) := by decide +kernel
theorem dX11_wipe_11 : decode cX11_wipe 11 = .ok (.ireturn, 1) := by decide +kernel
theorem dX11_letterAt_0 : decode cX11_letterAt 0 = .ok (.iload_n 1, 1) := by decide +kernel
theorem dX11_letterAt_1 : decode cX11_letterAt 1 = .ok (.aload_n 0, 1) := by decide +kernel
theorem dX11_letterAt_2 : decode cX11_letterAt 2 = .ok (.getfield 98, 3) := by decide +kernel
theorem dX11_letterAt_5 : decode cX11_letterAt 5 = .ok (.if_icmp .ge 12, 3) := by decide +kernel
theorem dX11_letterAt_8 : decode cX11_letterAt 8 = .ok (.aload_n 0, 1) := by decide +kernel
theorem dX11_letterAt_9 : decode cX11_letterAt 9 = .ok (.getfield 7, 3) := by decide +kernel
theorem dX11_letterAt_12 : decode cX11_letterAt 12 = .ok (.iload_n 1, 1) := by decide +kernel
theorem dX11_letterAt_13 : decode cX11_letterAt 13 = .ok (.iaload, 1) := by decide +kernel
theorem dX11_letterAt_14 : decode cX11_letterAt 14 = .ok (.goto 4, 3) := by decide +kernel
theorem dX11_letterAt_17 : decode cX11_letterAt 17 = .ok (.iconst (-1), 1) := by decide +kernel
theorem dX11_letterAt_18 : decode cX11_letterAt 18 = .ok (.ireturn, 1) := by decide +kernel
theorem dX11_isRow_0 : decode cX11_isRow 0 = .ok (.iconst 0, 1) := by decide +kernel
theorem dX11_isRow_1 : decode cX11_isRow 1 = .ok (.istore_n 2, 1) := by decide +kernel
theorem dX11_isRow_2 : decode cX11_isRow 2 = .ok (.iload_n 2, 1) := by decide +kernel
theorem dX11_isRow_3 : decode cX11_isRow 3 = .ok (.iload_n 1, 1) := by decide +kernel
theorem dX11_isRow_4 : decode cX11_isRow 4 = .ok (.if_icmp .ge 129, 3) := by decide +kernel
theorem dX11_isRow_7 : decode cX11_isRow 7 = .ok (.iconst 0, 1) := by decide +kernel
theorem dX11_isRow_8 : decode cX11_isRow 8 = .ok (.istore_n 3, 1) := by decide +kernel
theorem dX11_isRow_9 : decode cX11_isRow 9 = .ok (.aload_n 0, 1) := by decide +kernel
theorem dX11_isRow_10 : decode cX11_isRow 10 = .ok (.getfield 101, 3) := by decide +kernel
theorem dX11_isRow_13 : decode cX11_isRow 13 = .ok (.istore 4, 2) := by decide +kernel
theorem dX11_isRow_15 : decode cX11_isRow 15 = .ok (.aload_n 0, 1) := by decide +kernel
theorem dX11_isRow_16 : decode cX11_isRow 16 = .ok (.getfield 101, 3) := by decide +kernel
theorem dX11_isRow_19 : decode cX11_isRow 19 = .ok (.iload 4, 2) := by decide +kernel
theorem dX11_isRow_21 : decode cX11_isRow 21 = .ok (.iconst 3, 1) := by decide +kernel
theorem dX11_isRow_22 : decode cX11_isRow 22 = .ok (.iadd, 1) := by decide +kernel
theorem dX11_isRow_23 : decode cX11_isRow 23 = .ok (.if_icmp .ge 51, 3) := by decide +kernel
theorem dX11_isRow_26 : decode cX11_isRow 26 = .ok (.aload_n 0, 1) := by decide +kernel
theorem dX11_isRow_27 : decode cX11_isRow 27 = .ok (.aload_n 0, 1) := by decide +kernel
theorem dX11_isRow_28 : decode cX11_isRow 28 = .ok (.getfield 101, 3) := by decide +kernel
theorem dX11_isRow_31 : decode cX11_isRow 31 = .ok (.invokevirtual 104, 3) := by decide +kernel
theorem dX11_isRow_34 : decode cX11_isRow 34 = .ok (.bipush 48, 2) := by decide +kernel
theorem dX11_isRow_36 : decode cX11_isRow 36 = .ok (.bipush 57, 2) := by decide +kernel
theorem dX11_isRow_38 : decode cX11_isRow 38 = .ok (.invokestatic 94, 3) := by decide +kernel
theorem dX11_isRow_41 : decode cX11_isRow 41 = .ok (.ifCond .eq 33, 3) := by decide +kernel
theorem dX11_isRow_44 : decode cX11_isRow 44 = .ok (.bipush 10, 2) := by decide +kernel
theorem dX11_isRow_46 : decode cX11_isRow 46 = .ok (.iload_n 3, 1) := by decide +kernel
theorem dX11_isRow_47 : decode cX11_isRow 47 = .ok (.imul, 1) := by decide +kernel
theorem dX11_isRow_48 : decode cX11_isRow 48 = .ok (.aload_n 0, 1) := by decide +kernel
theorem dX11_isRow_49 : decode cX11_isRow 49 = .ok (.aload_n 0, 1) := by decide +kernel
theorem dX11_isRow_50 : decode cX11_isRow 50 = .ok (.getfield 101, 3) := by decide +kernel
theorem dX11_isRow_53 : decode cX11_isRow 53 = .ok (.invokevirtual 104, 3) := by decide +kernel
theorem dX11_isRow_56 : decode cX11_isRow 56 = .ok (.iadd, 1) := by decide +kernel
theorem dX11_isRow_57 : decode cX11_isRow 57 = .ok (.bipush 48, 2) := by decide +kernel
theorem dX11_isRow_59 : decode cX11_isRow 59 = .ok (.isub, 1) := by decide +kernel
theorem dX11_isRow_60 : decode cX11_isRow 60 = .ok (.istore_n 3, 1) := by decide +kernel
theorem dX11_isRow_61 : decode cX11_isRow 61 = .ok (.aload_n 0, 1) := by decide +kernel
theorem dX11_isRow_62 : decode cX11_isRow 62 = .ok (.dup, 1) := by decide +kernel
theorem dX11_isRow_63 : decode cX11_isRow 63 = .ok (.getfield 101, 3) := by decide +kernel
theorem dX11_isRow_66 : decode cX11_isRow 66 = .ok (.iconst 1, 1) := by decide +kernel
theorem dX11_isRow_67 : decode cX11_isRow 67 = .ok (.iadd, 1) := by decide +kernel
theorem dX11_isRow_68 : decode cX11_isRow 68 = .ok (.putfield 101, 3) := by decide +kernel
theorem dX11_isRow_71 : decode cX11_isRow 71 = .ok (.goto (-56), 3) := by decide +kernel
theorem dX11_isRow_74 : decode cX11_isRow 74 = .ok (.aload_n 0, 1) := by decide +kernel
theorem dX11_isRow_75 : decode cX11_isRow 75 = .ok (.getfield 101, 3) := by decide +kernel
theorem dX11_isRow_78 : decode cX11_isRow 78 = .ok (.iload 4, 2) := by decide +kernel
theorem dX11_isRow_80 : decode cX11_isRow 80 = .ok (.if_icmp .eq 28, 3) := by decide +kernel
theorem dX11_isRow_83 : decode cX11_isRow 83 = .ok (.aload_n 0, 1) := by decide +kernel
theorem dX11_isRow_84 : decode cX11_isRow 84 = .ok (.aload_n 0, 1) := by decide +kernel
theorem dX11_isRow_85 : decode cX11_isRow 85 = .ok (.getfield 101, 3) := by decide +kernel
theorem dX11_isRow_88 : decode cX11_isRow 88 = .ok (.invokevirtual 104, 3) := by decide +kernel
theorem dX11_isRow_91 : decode cX11_isRow 91 = .ok (.iload_n 2, 1) := by decide +kernel
theorem dX11_isRow_92 : decode cX11_isRow 92 = .ok (.iload_n 1, 1) := by decide +kernel
theorem dX11_isRow_93 : decode cX11_isRow 93 = .ok (.iconst 1, 1) := by decide +kernel
theorem dX11_isRow_94 : decode cX11_isRow 94 = .ok (.isub, 1) := by decide +kernel
theorem dX11_isRow_95 : decode cX11_isRow 95 = .ok (.if_icmp .ne 8, 3) := by decide +kernel
theorem dX11_isRow_98 : decode cX11_isRow 98 = .ok (.bipush 59, 2) := by decide +kernel
theorem dX11_isRow_100 : decode cX11_isRow 100 = .ok (.goto 5, 3) := by decide +kernel
theorem dX11_isRow_103 : decode cX11_isRow 103 = .ok (.bipush 44, 2) := by decide +kernel
theorem dX11_isRow_105 : decode cX11_isRow 105 = .ok (.if_icmp .eq 5, 3) := by decide +kernel
theorem dX11_isRow_108 : decode cX11_isRow 108 = .ok (.iconst 0, 1) := by decide +kernel
theorem dX11_isRow_109 : decode cX11_isRow 109 = .ok (.ireturn, 1) := by decide +kernel
theorem dX11_isRow_110 : decode cX11_isRow 110 = .ok (.aload_n 0, 1) := by decide +kernel
theorem dX11_isRow_111 : decode cX11_isRow 111 = .ok (.dup, 1) := by decide +kernel
theorem dX11_isRow_112 : decode cX11_isRow 112 = .ok (.getfield 101, 3) := by decide +kernel
theorem dX11_isRow_115 : decode cX11_isRow 115 = .ok (.iconst 1, 1) := by decide +kernel
theorem dX11_isRow_116 : decode cX11_isRow 116 = .ok (.iadd, 1) := by decide +kernel
theorem dX11_isRow_117 : decode cX11_isRow 117 = .ok (.putfield 101, 3) := by decide +kernel
theorem dX11_isRow_120 : decode cX11_isRow 120 = .ok (.aload_n 0, 1) := by decide +kernel
theorem dX11_isRow_121 : decode cX11_isRow 121 = .ok (.getfield 13, 3) := by decide +kernel
theorem dX11_isRow_124 : decode cX11_isRow 124 = .ok (.iload_n 2, 1) := by decide +kernel
theorem dX11_isRow_125 : decode cX11_isRow 125 = .ok (.iload_n 3, 1) := by decide +kernel
theorem dX11_isRow_126 : decode cX11_isRow 126 = .ok (.iastore, 1) := by decide +kernel
theorem dX11_isRow_127 : decode cX11_isRow 127 = .ok (.iinc 2 1, 3) := by decide +kernel
theorem dX11_isRow_130 : decode cX11_isRow 130 = .ok (.goto (-128), 3) := by decide +kernel
theorem dX11_isRow_133 : decode cX11_isRow 133 = .ok (.iconst 1, 1) := by decide +kernel
theorem dX11_isRow_134 : decode cX11_isRow 134 = .ok (.ireturn, 1) := by decide +kernel
theorem dX11_isItem_0 : decode cX11_isItem 0 = .ok (.aload_n 0, 1) := by decide +kernel
theorem dX11_isItem_1 : decode cX11_isItem 1 = .ok (.aload_n 0, 1) := by decide +kernel
theorem dX11_isItem_2 : decode cX11_isItem 2 = .ok (.getfield 101, 3) := by decide +kernel
theorem dX11_isItem_5 : decode cX11_isItem 5 = .ok (.invokevirtual 104, 3) := by decide +kernel
theorem dX11_isItem_8 : decode cX11_isItem 8 = .ok (.istore_n 1, 1) := by decide +kernel
theorem dX11_isItem_9 : decode cX11_isItem 9 = .ok (.aload_n 0, 1) := by decide +kernel
theorem dX11_isItem_10 : decode cX11_isItem 10 = .ok (.dup, 1) := by decide +kernel
theorem dX11_isItem_11 : decode cX11_isItem 11 = .ok (.getfield 101, 3) := by decide +kernel
theorem dX11_isItem_14 : decode cX11_isItem 14 = .ok (.iconst 1, 1) := by decide +kernel
theorem dX11_isItem_15 : decode cX11_isItem 15 = .ok (.iadd, 1) := by decide +kernel
theorem dX11_isItem_16 : decode cX11_isItem 16 = .ok (.putfield 101, 3) := by decide +kernel
theorem dX11_isItem_19 : decode cX11_isItem 19 = .ok (.iload_n 1, 1) := by decide +kernel
theorem dX11_isItem_20 : decode cX11_isItem 20 = .ok (.bipush 99, 2) := by decide +kernel
theorem dX11_isItem_22 : decode cX11_isItem 22 = .ok (.if_icmp .ne 103, 3) := by decide +kernel
theorem dX11_isItem_25 : decode cX11_isItem 25 = .ok (.aload_n 0, 1) := by decide +kernel
theorem dX11_isItem_26 : decode cX11_isItem 26 = .ok (.getfield 74, 3) := by decide +kernel
theorem dX11_isItem_29 : decode cX11_isItem 29 = .ok (.bipush 7, 2) := by decide +kernel
theorem dX11_isItem_31 : decode cX11_isItem 31 = .ok (.if_icmp .eq 44, 3) := by decide +kernel
theorem dX11_isItem_34 : decode cX11_isItem 34 = .ok (.aload_n 0, 1) := by decide +kernel
theorem dX11_isItem_35 : decode cX11_isItem 35 = .ok (.iconst 3, 1) := by decide +kernel
theorem dX11_isItem_36 : decode cX11_isItem 36 = .ok (.invokevirtual 108, 3) := by decide +kernel
theorem dX11_isItem_39 : decode cX11_isItem 39 = .ok (.ifCond .eq 36, 3) := by decide +kernel
theorem dX11_isItem_42 : decode cX11_isItem 42 = .ok (.aload_n 0, 1) := by decide +kernel
theorem dX11_isItem_43 : decode cX11_isItem 43 = .ok (.getfield 13, 3) := by decide +kernel
theorem dX11_isItem_46 : decode cX11_isItem 46 = .ok (.iconst 0, 1) := by decide +kernel
theorem dX11_isItem_47 : decode cX11_isItem 47 = .ok (.iaload, 1) := by decide +kernel
theorem dX11_isItem_48 : decode cX11_isItem 48 = .ok (.iconst 4, 1) := by decide +kernel
theorem dX11_isItem_49 : decode cX11_isItem 49 = .ok (.if_icmp .gt 26, 3) := by decide +kernel
theorem dX11_isItem_52 : decode cX11_isItem 52 = .ok (.aload_n 0, 1) := by decide +kernel
theorem dX11_isItem_53 : decode cX11_isItem 53 = .ok (.getfield 13, 3) := by decide +kernel
theorem dX11_isItem_56 : decode cX11_isItem 56 = .ok (.iconst 1, 1) := by decide +kernel
theorem dX11_isItem_57 : decode cX11_isItem 57 = .ok (.iaload, 1) := by decide +kernel
theorem dX11_isItem_58 : decode cX11_isItem 58 = .ok (.sipush 200, 3) := by decide +kernel
theorem dX11_isItem_61 : decode cX11_isItem 61 = .ok (.if_icmp .gt 14, 3) := by decide +kernel
theorem dX11_isItem_64 : decode cX11_isItem 64 = .ok (.aload_n 0, 1) := by decide +kernel
theorem dX11_isItem_65 : decode cX11_isItem 65 = .ok (.getfield 13, 3) := by decide +kernel
theorem dX11_isItem_68 : decode cX11_isItem 68 = .ok (.iconst 2, 1) := by decide +kernel
theorem dX11_isItem_69 : decode cX11_isItem 69 = .ok (.iaload, 1) := by decide +kernel
theorem dX11_isItem_70 : decode cX11_isItem 70 = .ok (.bipush 20, 2) := by decide +kernel
theorem dX11_isItem_72 : decode cX11_isItem 72 = .ok (.if_icmp .le 5, 3) := by decide +kernel
theorem dX11_isItem_75 : decode cX11_isItem 75 = .ok (.iconst 0, 1) := by decide +kernel
theorem dX11_isItem_76 : decode cX11_isItem 76 = .ok (.ireturn, 1) := by decide +kernel
theorem dX11_isItem_77 : decode cX11_isItem 77 = .ok (.aload_n 0, 1) := by decide +kernel
theorem dX11_isItem_78 : decode cX11_isItem 78 = .ok (.aload_n 0, 1) := by decide +kernel
theorem dX11_isItem_79 : decode cX11_isItem 79 = .ok (.getfield 74, 3) := by decide +kernel
theorem dX11_isItem_82 : decode cX11_isItem 82 = .ok (.aload_n 0, 1) := by decide +kernel
theorem dX11_isItem_83 : decode cX11_isItem 83 = .ok (.getfield 13, 3) := by decide +kernel
theorem dX11_isItem_86 : decode cX11_isItem 86 = .ok (.iconst 0, 1) := by decide +kernel
theorem dX11_isItem_87 : decode cX11_isItem 87 = .ok (.iaload, 1) := by decide +kernel
theorem dX11_isItem_88 : decode cX11_isItem 88 = .ok (.aload_n 0, 1) := by decide +kernel
theorem dX11_isItem_89 : decode cX11_isItem 89 = .ok (.getfield 13, 3) := by decide +kernel
theorem dX11_isItem_92 : decode cX11_isItem 92 = .ok (.iconst 1, 1) := by decide +kernel
theorem dX11_isItem_93 : decode cX11_isItem 93 = .ok (.iaload, 1) := by decide +kernel
theorem dX11_isItem_94 : decode cX11_isItem 94 = .ok (.aload_n 0, 1) := by decide +kernel
theorem dX11_isItem_95 : decode cX11_isItem 95 = .ok (.getfield 13, 3) := by decide +kernel
theorem dX11_isItem_98 : decode cX11_isItem 98 = .ok (.iconst 2, 1) := by decide +kernel
theorem dX11_isItem_99 : decode cX11_isItem 99 = .ok (.iaload, 1) := by decide +kernel
theorem dX11_isItem_100 : decode cX11_isItem 100 = .ok (.invokevirtual 70, 3) := by decide +kernel
theorem dX11_isItem_103 : decode cX11_isItem 103 = .ok (.aload_n 0, 1) := by decide +kernel
theorem dX11_isItem_104 : decode cX11_isItem 104 = .ok (.getfield 19, 3) := by decide +kernel
theorem dX11_isItem_107 : decode cX11_isItem 107 = .ok (.aload_n 0, 1) := by decide +kernel
theorem dX11_isItem_108 : decode cX11_isItem 108 = .ok (.getfield 74, 3) := by decide +kernel
theorem dX11_isItem_111 : decode cX11_isItem 111 = .ok (.iconst 0, 1) := by decide +kernel
theorem dX11_isItem_112 : decode cX11_isItem 112 = .ok (.iastore, 1) := by decide +kernel
theorem dX11_isItem_113 : decode cX11_isItem 113 = .ok (.aload_n 0, 1) := by decide +kernel
theorem dX11_isItem_114 : decode cX11_isItem 114 = .ok (.dup, 1) := by decide +kernel
theorem dX11_isItem_115 : decode cX11_isItem 115 = .ok (.getfield 74, 3) := by decide +kernel
theorem dX11_isItem_118 : decode cX11_isItem 118 = .ok (.iconst 1, 1) := by decide +kernel
theorem dX11_isItem_119 : decode cX11_isItem 119 = .ok (.iadd, 1) := by decide +kernel
theorem dX11_isItem_120 : decode cX11_isItem 120 = .ok (.putfield 74, 3) := by decide +kernel
theorem dX11_isItem_123 : decode cX11_isItem 123 = .ok (.iconst 1, 1) := by decide +kernel
theorem dX11_isItem_124 : decode cX11_isItem 124 = .ok (.ireturn, 1) := by decide +kernel
theorem dX11_isItem_125 : decode cX11_isItem 125 = .ok (.iload_n 1, 1) := by decide +kernel
theorem dX11_isItem_126 : decode cX11_isItem 126 = .ok (.bipush 119, 2) := by decide +kernel
theorem dX11_isItem_128 : decode cX11_isItem 128 = .ok (.if_icmp .ne 72, 3) := by decide +kernel
theorem dX11_isItem_131 : decode cX11_isItem 131 = .ok (.aload_n 0, 1) := by decide +kernel
theorem dX11_isItem_132 : decode cX11_isItem 132 = .ok (.iconst 2, 1) := by decide +kernel
theorem dX11_isItem_133 : decode cX11_isItem 133 = .ok (.invokevirtual 108, 3) := by decide +kernel
theorem dX11_isItem_136 : decode cX11_isItem 136 = .ok (.ifCond .eq 44, 3) := by decide +kernel
theorem dX11_isItem_139 : decode cX11_isItem 139 = .ok (.aload_n 0, 1) := by decide +kernel
theorem dX11_isItem_140 : decode cX11_isItem 140 = .ok (.getfield 13, 3) := by decide +kernel
theorem dX11_isItem_143 : decode cX11_isItem 143 = .ok (.iconst 0, 1) := by decide +kernel
theorem dX11_isItem_144 : decode cX11_isItem 144 = .ok (.iaload, 1) := by decide +kernel
theorem dX11_isItem_145 : decode cX11_isItem 145 = .ok (.aload_n 0, 1) := by decide +kernel
theorem dX11_isItem_146 : decode cX11_isItem 146 = .ok (.getfield 13, 3) := by decide +kernel
theorem dX11_isItem_149 : decode cX11_isItem 149 = .ok (.iconst 1, 1) := by decide +kernel
theorem dX11_isItem_150 : decode cX11_isItem 150 = .ok (.iaload, 1) := by decide +kernel
theorem dX11_isItem_151 : decode cX11_isItem 151 = .ok (.if_icmp .eq 29, 3) := by decide +kernel
theorem dX11_isItem_154 : decode cX11_isItem 154 = .ok (.aload_n 0, 1) := by decide +kernel
theorem dX11_isItem_155 : decode cX11_isItem 155 = .ok (.getfield 13, 3) := by decide +kernel
theorem dX11_isItem_158 : decode cX11_isItem 158 = .ok (.iconst 0, 1) := by decide +kernel
theorem dX11_isItem_159 : decode cX11_isItem 159 = .ok (.iaload, 1) := by decide +kernel
theorem dX11_isItem_160 : decode cX11_isItem 160 = .ok (.aload_n 0, 1) := by decide +kernel
theorem dX11_isItem_161 : decode cX11_isItem 161 = .ok (.getfield 74, 3) := by decide +kernel
theorem dX11_isItem_164 : decode cX11_isItem 164 = .ok (.if_icmp .ge 16, 3) := by decide +kernel
theorem dX11_isItem_167 : decode cX11_isItem 167 = .ok (.aload_n 0, 1) := by decide +kernel
theorem dX11_isItem_168 : decode cX11_isItem 168 = .ok (.getfield 13, 3) := by decide +kernel
theorem dX11_isItem_171 : decode cX11_isItem 171 = .ok (.iconst 1, 1) := by decide +kernel
theorem dX11_isItem_172 : decode cX11_isItem 172 = .ok (.iaload, 1) := by decide +kernel
theorem dX11_isItem_173 : decode cX11_isItem 173 = .ok (.aload_n 0, 1) := by decide +kernel
theorem dX11_isItem_174 : decode cX11_isItem 174 = .ok (.getfield 74, 3) := by decide +kernel
theorem dX11_isItem_177 : decode cX11_isItem 177 = .ok (.if_icmp .lt 5, 3) := by decide +kernel
theorem dX11_isItem_180 : decode cX11_isItem 180 = .ok (.iconst 0, 1) := by decide +kernel
theorem dX11_isItem_181 : decode cX11_isItem 181 = .ok (.ireturn, 1) := by decide +kernel
theorem dX11_isItem_182 : decode cX11_isItem 182 = .ok (.aload_n 0, 1) := by decide +kernel
theorem dX11_isItem_183 : decode cX11_isItem 183 = .ok (.aload_n 0, 1) := by decide +kernel
theorem dX11_isItem_184 : decode cX11_isItem 184 = .ok (.getfield 13, 3) := by decide +kernel
theorem dX11_isItem_187 : decode cX11_isItem 187 = .ok (.iconst 0, 1) := by decide +kernel
theorem dX11_isItem_188 : decode cX11_isItem 188 = .ok (.iaload, 1) := by decide +kernel
theorem dX11_isItem_189 : decode cX11_isItem 189 = .ok (.aload_n 0, 1) := by decide +kernel
theorem dX11_isItem_190 : decode cX11_isItem 190 = .ok (.getfield 13, 3) := by decide +kernel
theorem dX11_isItem_193 : decode cX11_isItem 193 = .ok (.iconst 1, 1) := by decide +kernel
theorem dX11_isItem_194 : decode cX11_isItem 194 = .ok (.iaload, 1) := by decide +kernel
theorem dX11_isItem_195 : decode cX11_isItem 195 = .ok (.invokevirtual 78, 3) := by decide +kernel
theorem dX11_isItem_198 : decode cX11_isItem 198 = .ok (.iconst 1, 1) := by decide +kernel
theorem dX11_isItem_199 : decode cX11_isItem 199 = .ok (.ireturn, 1) := by decide +kernel
theorem dX11_isItem_200 : decode cX11_isItem 200 = .ok (.iload_n 1, 1) := by decide +kernel
theorem dX11_isItem_201 : decode cX11_isItem 201 = .ok (.bipush 108, 2) := by decide +kernel
theorem dX11_isItem_203 : decode cX11_isItem 203 = .ok (.if_icmp .ne 31, 3) := by decide +kernel
theorem dX11_isItem_206 : decode cX11_isItem 206 = .ok (.aload_n 0, 1) := by decide +kernel
theorem dX11_isItem_207 : decode cX11_isItem 207 = .ok (.getfield 85, 3) := by decide +kernel
theorem dX11_isItem_210 : decode cX11_isItem 210 = .ok (.bipush 9, 2) := by decide +kernel
theorem dX11_isItem_212 : decode cX11_isItem 212 = .ok (.if_icmp .eq 22, 3) := by decide +kernel
theorem dX11_isItem_215 : decode cX11_isItem 215 = .ok (.aload_n 0, 1) := by decide +kernel
theorem dX11_isItem_216 : decode cX11_isItem 216 = .ok (.iconst 3, 1) := by decide +kernel
theorem dX11_isItem_217 : decode cX11_isItem 217 = .ok (.invokevirtual 108, 3) := by decide +kernel
theorem dX11_isItem_220 : decode cX11_isItem 220 = .ok (.ifCond .eq 14, 3) := by decide +kernel
theorem dX11_isItem_223 : decode cX11_isItem 223 = .ok (.aload_n 0, 1) := by decide +kernel
theorem dX11_isItem_224 : decode cX11_isItem 224 = .ok (.getfield 13, 3) := by decide +kernel
theorem dX11_isItem_227 : decode cX11_isItem 227 = .ok (.iconst 0, 1) := by decide +kernel
theorem dX11_isItem_228 : decode cX11_isItem 228 = .ok (.iaload, 1) := by decide +kernel
theorem dX11_isItem_229 : decode cX11_isItem 229 = .ok (.bipush 13, 2) := by decide +kernel
theorem dX11_isItem_231 : decode cX11_isItem 231 = .ok (.if_icmp .le 5, 3) := by decide +kernel
theorem dX11_isItem_234 : decode cX11_isItem 234 = .ok (.iconst 0, 1) := by decide +kernel
theorem dX11_isItem_235 : decode cX11_isItem 235 = .ok (.ireturn, 1) := by decide +kernel
theorem dX11_isItem_236 : decode cX11_isItem 236 = .ok (.aload_n 0, 1) := by decide +kernel
theorem dX11_isItem_237 : decode cX11_isItem 237 = .ok (.getfield 13, 3) := by decide +kernel
theorem dX11_isItem_240 : decode cX11_isItem 240 = .ok (.iconst 1, 1) := by decide +kernel
theorem dX11_isItem_241 : decode cX11_isItem 241 = .ok (.iaload, 1) := by decide +kernel
theorem dX11_isItem_242 : decode cX11_isItem 242 = .ok (.aload_n 0, 1) := by decide +kernel
theorem dX11_isItem_243 : decode cX11_isItem 243 = .ok (.getfield 13, 3) := by decide +kernel
theorem dX11_isItem_246 : decode cX11_isItem 246 = .ok (.iconst 2, 1) := by decide +kernel
theorem dX11_isItem_247 : decode cX11_isItem 247 = .ok (.iaload, 1) := by decide +kernel
theorem dX11_isItem_248 : decode cX11_isItem 248 = .ok (.if_icmp .eq 29, 3) := by decide +kernel
theorem dX11_isItem_251 : decode cX11_isItem 251 = .ok (.aload_n 0, 1) := by decide +kernel
theorem dX11_isItem_252 : decode cX11_isItem 252 = .ok (.getfield 13, 3) := by decide +kernel
theorem dX11_isItem_255 : decode cX11_isItem 255 = .ok (.iconst 1, 1) := by decide +kernel
theorem dX11_isItem_256 : decode cX11_isItem 256 = .ok (.iaload, 1) := by decide +kernel
theorem dX11_isItem_257 : decode cX11_isItem 257 = .ok (.aload_n 0, 1) := by decide +kernel
theorem dX11_isItem_258 : decode cX11_isItem 258 = .ok (.getfield 74, 3) := by decide +kernel
theorem dX11_isItem_261 : decode cX11_isItem 261 = .ok (.if_icmp .ge 16, 3) := by decide +kernel
theorem dX11_isItem_264 : decode cX11_isItem 264 = .ok (.aload_n 0, 1) := by decide +kernel
theorem dX11_isItem_265 : decode cX11_isItem 265 = .ok (.getfield 13, 3) := by decide +kernel
theorem dX11_isItem_268 : decode cX11_isItem 268 = .ok (.iconst 2, 1) := by decide +kernel
theorem dX11_isItem_269 : decode cX11_isItem 269 = .ok (.iaload, 1) := by decide +kernel
theorem dX11_isItem_270 : decode cX11_isItem 270 = .ok (.aload_n 0, 1) := by decide +kernel
theorem dX11_isItem_271 : decode cX11_isItem 271 = .ok (.getfield 74, 3) := by decide +kernel
theorem dX11_isItem_274 : decode cX11_isItem 274 = .ok (.if_icmp .lt 5, 3) := by decide +kernel
theorem dX11_isItem_277 : decode cX11_isItem 277 = .ok (.iconst 0, 1) := by decide +kernel
theorem dX11_isItem_278 : decode cX11_isItem 278 = .ok (.ireturn, 1) := by decide +kernel
theorem dX11_isItem_279 : decode cX11_isItem 279 = .ok (.aload_n 0, 1) := by decide +kernel
theorem dX11_isItem_280 : decode cX11_isItem 280 = .ok (.aload_n 0, 1) := by decide +kernel
theorem dX11_isItem_281 : decode cX11_isItem 281 = .ok (.getfield 85, 3) := by decide +kernel
theorem dX11_isItem_284 : decode cX11_isItem 284 = .ok (.aload_n 0, 1) := by decide +kernel
theorem dX11_isItem_285 : decode cX11_isItem 285 = .ok (.getfield 13, 3) := by decide +kernel
theorem dX11_isItem_288 : decode cX11_isItem 288 = .ok (.iconst 0, 1) := by decide +kernel
theorem dX11_isItem_289 : decode cX11_isItem 289 = .ok (.iaload, 1) := by decide +kernel
theorem dX11_isItem_290 : decode cX11_isItem 290 = .ok (.aload_n 0, 1) := by decide +kernel
theorem dX11_isItem_291 : decode cX11_isItem 291 = .ok (.getfield 13, 3) := by decide +kernel
theorem dX11_isItem_294 : decode cX11_isItem 294 = .ok (.iconst 1, 1) := by decide +kernel
theorem dX11_isItem_295 : decode cX11_isItem 295 = .ok (.iaload, 1) := by decide +kernel
theorem dX11_isItem_296 : decode cX11_isItem 296 = .ok (.aload_n 0, 1) := by decide +kernel
theorem dX11_isItem_297 : decode cX11_isItem 297 = .ok (.getfield 13, 3) := by decide +kernel
theorem dX11_isItem_300 : decode cX11_isItem 300 = .ok (.iconst 2, 1) := by decide +kernel
theorem dX11_isItem_301 : decode cX11_isItem 301 = .ok (.iaload, 1) := by decide +kernel
theorem dX11_isItem_302 : decode cX11_isItem 302 = .ok (.invokevirtual 82, 3) := by decide +kernel
theorem dX11_isItem_305 : decode cX11_isItem 305 = .ok (.aload_n 0, 1) := by decide +kernel
theorem dX11_isItem_306 : decode cX11_isItem 306 = .ok (.dup, 1) := by decide +kernel
theorem dX11_isItem_307 : decode cX11_isItem 307 = .ok (.getfield 85, 3) := by decide +kernel
theorem dX11_isItem_310 : decode cX11_isItem 310 = .ok (.iconst 1, 1) := by decide +kernel
theorem dX11_isItem_311 : decode cX11_isItem 311 = .ok (.iadd, 1) := by decide +kernel
theorem dX11_isItem_312 : decode cX11_isItem 312 = .ok (.putfield 85, 3) := by decide +kernel
theorem dX11_isItem_315 : decode cX11_isItem 315 = .ok (.iconst 1, 1) := by decide +kernel
theorem dX11_isItem_316 : decode cX11_isItem 316 = .ok (.ireturn, 1) := by decide +kernel
theorem dX11_isRead_0 : decode cX11_isRead 0 = .ok (.aload_n 0, 1) := by decide +kernel
theorem dX11_isRead_1 : decode cX11_isRead 1 = .ok (.iconst 0, 1) := by decide +kernel
theorem dX11_isRead_2 : decode cX11_isRead 2 = .ok (.putfield 101, 3) := by decide +kernel
theorem dX11_isRead_5 : decode cX11_isRead 5 = .ok (.aload_n 0, 1) := by decide +kernel
theorem dX11_isRead_6 : decode cX11_isRead 6 = .ok (.iconst 0, 1) := by decide +kernel
theorem dX11_isRead_7 : decode cX11_isRead 7 = .ok (.putfield 74, 3) := by decide +kernel
theorem dX11_isRead_10 : decode cX11_isRead 10 = .ok (.aload_n 0, 1) := by decide +kernel
theorem dX11_isRead_11 : decode cX11_isRead 11 = .ok (.iconst 0, 1) := by decide +kernel
theorem dX11_isRead_12 : decode cX11_isRead 12 = .ok (.putfield 85, 3) := by decide +kernel
theorem dX11_isRead_15 : decode cX11_isRead 15 = .ok (.aload_n 0, 1) := by decide +kernel
theorem dX11_isRead_16 : decode cX11_isRead 16 = .ok (.getfield 101, 3) := by decide +kernel
theorem dX11_isRead_19 : decode cX11_isRead 19 = .ok (.aload_n 0, 1) := by decide +kernel
theorem dX11_isRead_20 : decode cX11_isRead 20 = .ok (.getfield 98, 3) := by decide +kernel
theorem dX11_isRead_23 : decode cX11_isRead 23 = .ok (.if_icmp .ge 20, 3) := by decide +kernel
theorem dX11_isRead_26 : decode cX11_isRead 26 = .ok (.aload_n 0, 1) := by decide +kernel
theorem dX11_isRead_27 : decode cX11_isRead 27 = .ok (.aload_n 0, 1) := by decide +kernel
theorem dX11_isRead_28 : decode cX11_isRead 28 = .ok (.getfield 101, 3) := by decide +kernel
theorem dX11_isRead_31 : decode cX11_isRead 31 = .ok (.putfield 112, 3) := by decide +kernel
theorem dX11_isRead_34 : decode cX11_isRead 34 = .ok (.aload_n 0, 1) := by decide +kernel
theorem dX11_isRead_35 : decode cX11_isRead 35 = .ok (.invokevirtual 115, 3) := by decide +kernel
theorem dX11_isRead_38 : decode cX11_isRead 38 = .ok (.ifCond .ne (-23), 3) := by decide +kernel
theorem dX11_isRead_41 : decode cX11_isRead 41 = .ok (.iconst 0, 1) := by decide +kernel
theorem dX11_isRead_42 : decode cX11_isRead 42 = .ok (.ireturn, 1) := by decide +kernel
theorem dX11_isRead_43 : decode cX11_isRead 43 = .ok (.iconst 1, 1) := by decide +kernel
theorem dX11_isRead_44 : decode cX11_isRead 44 = .ok (.ireturn, 1) := by decide +kernel
theorem dX11_fault_0 : decode cX11_fault 0 = .ok (.aload_n 0, 1) := by decide +kernel
theorem dX11_fault_1 : decode cX11_fault 1 = .ok (.invokevirtual 119, 3) := by decide +kernel
theorem dX11_fault_4 : decode cX11_fault 4 = .ok (.ifCond .eq 8, 3) := by decide +kernel
theorem dX11_fault_7 : decode cX11_fault 7 = .ok (.bipush (-4), 2) := by decide +kernel
theorem dX11_fault_9 : decode cX11_fault 9 = .ok (.goto 7, 3) := by decide +kernel
theorem dX11_fault_12 : decode cX11_fault 12 = .ok (.aload_n 0, 1) := by decide +kernel
theorem dX11_fault_13 : decode cX11_fault 13 = .ok (.getfield 112, 3) := by decide +kernel
theorem dX11_fault_16 : decode cX11_fault 16 = .ok (.ireturn, 1) := by decide +kernel
theorem dX11_layRead_0 : decode cX11_layRead 0 = .ok (.aload_n 0, 1) := by decide +kernel
theorem dX11_layRead_1 : decode cX11_layRead 1 = .ok (.aload_n 0, 1) := by decide +kernel
theorem dX11_layRead_2 : decode cX11_layRead 2 = .ok (.getfield 74, 3) := by decide +kernel
theorem dX11_layRead_5 : decode cX11_layRead 5 = .ok (.putfield 91, 3) := by decide +kernel
theorem dX11_layRead_8 : decode cX11_layRead 8 = .ok (.aload_n 0, 1) := by decide +kernel
theorem dX11_layRead_9 : decode cX11_layRead 9 = .ok (.aload_n 0, 1) := by decide +kernel
theorem dX11_layRead_10 : decode cX11_layRead 10 = .ok (.getfield 85, 3) := by decide +kernel
theorem dX11_layRead_13 : decode cX11_layRead 13 = .ok (.putfield 122, 3) := by decide +kernel
theorem dX11_layRead_16 : decode cX11_layRead 16 = .ok (.aload_n 0, 1) := by decide +kernel
theorem dX11_layRead_17 : decode cX11_layRead 17 = .ok (.getfield 34, 3) := by decide +kernel
theorem dX11_layRead_20 : decode cX11_layRead 20 = .ok (.iconst 0, 1) := by decide +kernel
theorem dX11_layRead_21 : decode cX11_layRead 21 = .ok (.iconst 0, 1) := by decide +kernel
theorem dX11_layRead_22 : decode cX11_layRead 22 = .ok (.iastore, 1) := by decide +kernel
theorem dX11_layRead_23 : decode cX11_layRead 23 = .ok (.iconst 0, 1) := by decide +kernel
theorem dX11_layRead_24 : decode cX11_layRead 24 = .ok (.istore_n 1, 1) := by decide +kernel
theorem dX11_layRead_25 : decode cX11_layRead 25 = .ok (.iload_n 1, 1) := by decide +kernel
theorem dX11_layRead_26 : decode cX11_layRead 26 = .ok (.aload_n 0, 1) := by decide +kernel
theorem dX11_layRead_27 : decode cX11_layRead 27 = .ok (.getfield 91, 3) := by decide +kernel
theorem dX11_layRead_30 : decode cX11_layRead 30 = .ok (.if_icmp .ge 78, 3) := by decide +kernel
theorem dX11_layRead_33 : decode cX11_layRead 33 = .ok (.aload_n 0, 1) := by decide +kernel
theorem dX11_layRead_34 : decode cX11_layRead 34 = .ok (.getfield 25, 3) := by decide +kernel
theorem dX11_layRead_37 : decode cX11_layRead 37 = .ok (.iload_n 1, 1) := by decide +kernel
theorem dX11_layRead_38 : decode cX11_layRead 38 = .ok (.aload_n 0, 1) := by decide +kernel
theorem dX11_layRead_39 : decode cX11_layRead 39 = .ok (.getfield 16, 3) := by decide +kernel
theorem dX11_layRead_42 : decode cX11_layRead 42 = .ok (.iconst 3, 1) := by decide +kernel
theorem dX11_layRead_43 : decode cX11_layRead 43 = .ok (.iload_n 1, 1) := by decide +kernel
theorem dX11_layRead_44 : decode cX11_layRead 44 = .ok (.imul, 1) := by decide +kernel
theorem dX11_layRead_45 : decode cX11_layRead 45 = .ok (.iaload, 1) := by decide +kernel
theorem dX11_layRead_46 : decode cX11_layRead 46 = .ok (.iastore, 1) := by decide +kernel
theorem dX11_layRead_47 : decode cX11_layRead 47 = .ok (.aload_n 0, 1) := by decide +kernel
theorem dX11_layRead_48 : decode cX11_layRead 48 = .ok (.getfield 34, 3) := by decide +kernel
theorem dX11_layRead_51 : decode cX11_layRead 51 = .ok (.iconst 1, 1) := by decide +kernel
theorem dX11_layRead_52 : decode cX11_layRead 52 = .ok (.iload_n 1, 1) := by decide +kernel
theorem dX11_layRead_53 : decode cX11_layRead 53 = .ok (.iadd, 1) := by decide +kernel
theorem dX11_layRead_54 : decode cX11_layRead 54 = .ok (.aload_n 0, 1) := by decide +kernel
theorem dX11_layRead_55 : decode cX11_layRead 55 = .ok (.getfield 16, 3) := by decide +kernel
theorem dX11_layRead_58 : decode cX11_layRead 58 = .ok (.iconst 3, 1) := by decide +kernel
theorem dX11_layRead_59 : decode cX11_layRead 59 = .ok (.iload_n 1, 1) := by decide +kernel
theorem dX11_layRead_60 : decode cX11_layRead 60 = .ok (.imul, 1) := by decide +kernel
theorem dX11_layRead_61 : decode cX11_layRead 61 = .ok (.iconst 1, 1) := by decide +kernel
theorem dX11_layRead_62 : decode cX11_layRead 62 = .ok (.iadd, 1) := by decide +kernel
theorem dX11_layRead_63 : decode cX11_layRead 63 = .ok (.iaload, 1) := by decide +kernel
theorem dX11_layRead_64 : decode cX11_layRead 64 = .ok (.bipush 100, 2) := by decide +kernel
theorem dX11_layRead_66 : decode cX11_layRead 66 = .ok (.isub, 1) := by decide +kernel
theorem dX11_layRead_67 : decode cX11_layRead 67 = .ok (.iastore, 1) := by decide +kernel
theorem dX11_layRead_68 : decode cX11_layRead 68 = .ok (.aload_n 0, 1) := by decide +kernel
theorem dX11_layRead_69 : decode cX11_layRead 69 = .ok (.getfield 34, 3) := by decide +kernel
theorem dX11_layRead_72 : decode cX11_layRead 72 = .ok (.bipush 8, 2) := by decide +kernel
theorem dX11_layRead_74 : decode cX11_layRead 74 = .ok (.iload_n 1, 1) := by decide +kernel
theorem dX11_layRead_75 : decode cX11_layRead 75 = .ok (.iadd, 1) := by decide +kernel
theorem dX11_layRead_76 : decode cX11_layRead 76 = .ok (.aload_n 0, 1) := by decide +kernel
theorem dX11_layRead_77 : decode cX11_layRead 77 = .ok (.getfield 16, 3) := by decide +kernel
theorem dX11_layRead_80 : decode cX11_layRead 80 = .ok (.iconst 3, 1) := by decide +kernel
theorem dX11_layRead_81 : decode cX11_layRead 81 = .ok (.iload_n 1, 1) := by decide +kernel
theorem dX11_layRead_82 : decode cX11_layRead 82 = .ok (.imul, 1) := by decide +kernel
theorem dX11_layRead_83 : decode cX11_layRead 83 = .ok (.iconst 2, 1) := by decide +kernel
theorem dX11_layRead_84 : decode cX11_layRead 84 = .ok (.iadd, 1) := by decide +kernel
theorem dX11_layRead_85 : decode cX11_layRead 85 = .ok (.iaload, 1) := by decide +kernel
theorem dX11_layRead_86 : decode cX11_layRead 86 = .ok (.bipush 10, 2) := by decide +kernel
theorem dX11_layRead_88 : decode cX11_layRead 88 = .ok (.isub, 1) := by decide +kernel
theorem dX11_layRead_89 : decode cX11_layRead 89 = .ok (.iastore, 1) := by decide +kernel
theorem dX11_layRead_90 : decode cX11_layRead 90 = .ok (.aload_n 0, 1) := by decide +kernel
theorem dX11_layRead_91 : decode cX11_layRead 91 = .ok (.getfield 28, 3) := by decide +kernel
theorem dX11_layRead_94 : decode cX11_layRead 94 = .ok (.iload_n 1, 1) := by decide +kernel
theorem dX11_layRead_95 : decode cX11_layRead 95 = .ok (.aload_n 0, 1) := by decide +kernel
theorem dX11_layRead_96 : decode cX11_layRead 96 = .ok (.getfield 19, 3) := by decide +kernel
theorem dX11_layRead_99 : decode cX11_layRead 99 = .ok (.iload_n 1, 1) := by decide +kernel
theorem dX11_layRead_100 : decode cX11_layRead 100 = .ok (.iaload, 1) := by decide +kernel
theorem dX11_layRead_101 : decode cX11_layRead 101 = .ok (.iastore, 1) := by decide +kernel
theorem dX11_layRead_102 : decode cX11_layRead 102 = .ok (.iinc 1 1, 3) := by decide +kernel
theorem dX11_layRead_105 : decode cX11_layRead 105 = .ok (.goto (-80), 3) := by decide +kernel
theorem dX11_layRead_108 : decode cX11_layRead 108 = .ok (.iconst 0, 1) := by decide +kernel
theorem dX11_layRead_109 : decode cX11_layRead 109 = .ok (.istore_n 1, 1) := by decide +kernel
theorem dX11_layRead_110 : decode cX11_layRead 110 = .ok (.iload_n 1, 1) := by decide +kernel
theorem dX11_layRead_111 : decode cX11_layRead 111 = .ok (.iconst 3, 1) := by decide +kernel
theorem dX11_layRead_112 : decode cX11_layRead 112 = .ok (.aload_n 0, 1) := by decide +kernel
theorem dX11_layRead_113 : decode cX11_layRead 113 = .ok (.getfield 122, 3) := by decide +kernel
theorem dX11_layRead_116 : decode cX11_layRead 116 = .ok (.imul, 1) := by decide +kernel
theorem dX11_layRead_117 : decode cX11_layRead 117 = .ok (.if_icmp .ge 21, 3) := by decide +kernel
theorem dX11_layRead_120 : decode cX11_layRead 120 = .ok (.aload_n 0, 1) := by decide +kernel
theorem dX11_layRead_121 : decode cX11_layRead 121 = .ok (.getfield 31, 3) := by decide +kernel
theorem dX11_layRead_124 : decode cX11_layRead 124 = .ok (.iload_n 1, 1) := by decide +kernel
theorem dX11_layRead_125 : decode cX11_layRead 125 = .ok (.aload_n 0, 1) := by decide +kernel
theorem dX11_layRead_126 : decode cX11_layRead 126 = .ok (.getfield 22, 3) := by decide +kernel
theorem dX11_layRead_129 : decode cX11_layRead 129 = .ok (.iload_n 1, 1) := by decide +kernel
theorem dX11_layRead_130 : decode cX11_layRead 130 = .ok (.iaload, 1) := by decide +kernel
theorem dX11_layRead_131 : decode cX11_layRead 131 = .ok (.iastore, 1) := by decide +kernel
theorem dX11_layRead_132 : decode cX11_layRead 132 = .ok (.iinc 1 1, 3) := by decide +kernel
theorem dX11_layRead_135 : decode cX11_layRead 135 = .ok (.goto (-25), 3) := by decide +kernel
theorem dX11_layRead_138 : decode cX11_layRead 138 = .ok (.aload_n 0, 1) := by decide +kernel
theorem dX11_layRead_139 : decode cX11_layRead 139 = .ok (.iconst 0, 1) := by decide +kernel
theorem dX11_layRead_140 : decode cX11_layRead 140 = .ok (.putfield 125, 3) := by decide +kernel
theorem dX11_layRead_143 : decode cX11_layRead 143 = .ok (.aload_n 0, 1) := by decide +kernel
theorem dX11_layRead_144 : decode cX11_layRead 144 = .ok (.iconst 0, 1) := by decide +kernel
theorem dX11_layRead_145 : decode cX11_layRead 145 = .ok (.putfield 128, 3) := by decide +kernel
theorem dX11_layRead_148 : decode cX11_layRead 148 = .ok (.aload_n 0, 1) := by decide +kernel
theorem dX11_layRead_149 : decode cX11_layRead 149 = .ok (.iconst 0, 1) := by decide +kernel
theorem dX11_layRead_150 : decode cX11_layRead 150 = .ok (.putfield 131, 3) := by decide +kernel
theorem dX11_layRead_153 : decode cX11_layRead 153 = .ok (.return_, 1) := by decide +kernel
theorem dX11_lay_0 : decode cX11_lay 0 = .ok (.aload_n 0, 1) := by decide +kernel
theorem dX11_lay_1 : decode cX11_lay 1 = .ok (.invokevirtual 119, 3) := by decide +kernel
theorem dX11_lay_4 : decode cX11_lay 4 = .ok (.ifCond .eq 10, 3) := by decide +kernel
theorem dX11_lay_7 : decode cX11_lay 7 = .ok (.aload_n 0, 1) := by decide +kernel
theorem dX11_lay_8 : decode cX11_lay 8 = .ok (.getfield 74, 3) := by decide +kernel
theorem dX11_lay_11 : decode cX11_lay 11 = .ok (.ifCond .ne 6, 3) := by decide +kernel
theorem dX11_lay_14 : decode cX11_lay 14 = .ok (.bipush (-2), 2) := by decide +kernel
theorem dX11_lay_16 : decode cX11_lay 16 = .ok (.ireturn, 1) := by decide +kernel
theorem dX11_lay_17 : decode cX11_lay 17 = .ok (.aload_n 0, 1) := by decide +kernel
theorem dX11_lay_18 : decode cX11_lay 18 = .ok (.invokevirtual 88, 3) := by decide +kernel
theorem dX11_lay_21 : decode cX11_lay 21 = .ok (.aload_n 0, 1) := by decide +kernel
theorem dX11_lay_22 : decode cX11_lay 22 = .ok (.getfield 91, 3) := by decide +kernel
theorem dX11_lay_25 : decode cX11_lay 25 = .ok (.ireturn, 1) := by decide +kernel
theorem dX11_bits_0 : decode cX11_bits 0 = .ok (.iconst 0, 1) := by decide +kernel
theorem dX11_bits_1 : decode cX11_bits 1 = .ok (.istore_n 1, 1) := by decide +kernel
theorem dX11_bits_2 : decode cX11_bits 2 = .ok (.iconst 0, 1) := by decide +kernel
theorem dX11_bits_3 : decode cX11_bits 3 = .ok (.istore_n 2, 1) := by decide +kernel
theorem dX11_bits_4 : decode cX11_bits 4 = .ok (.iload_n 2, 1) := by decide +kernel
theorem dX11_bits_5 : decode cX11_bits 5 = .ok (.bipush 7, 2) := by decide +kernel
theorem dX11_bits_7 : decode cX11_bits 7 = .ok (.if_icmp .ge 17, 3) := by decide +kernel
theorem dX11_bits_10 : decode cX11_bits 10 = .ok (.iload_n 1, 1) := by decide +kernel
theorem dX11_bits_11 : decode cX11_bits 11 = .ok (.iload_n 0, 1) := by decide +kernel
theorem dX11_bits_12 : decode cX11_bits 12 = .ok (.iload_n 2, 1) := by decide +kernel
theorem dX11_bits_13 : decode cX11_bits 13 = .ok (.ishr, 1) := by decide +kernel
theorem dX11_bits_14 : decode cX11_bits 14 = .ok (.iconst 1, 1) := by decide +kernel
theorem dX11_bits_15 : decode cX11_bits 15 = .ok (.iand, 1) := by decide +kernel
theorem dX11_bits_16 : decode cX11_bits 16 = .ok (.iadd, 1) := by decide +kernel
theorem dX11_bits_17 : decode cX11_bits 17 = .ok (.istore_n 1, 1) := by decide +kernel
theorem dX11_bits_18 : decode cX11_bits 18 = .ok (.iinc 2 1, 3) := by decide +kernel
theorem dX11_bits_21 : decode cX11_bits 21 = .ok (.goto (-17), 3) := by decide +kernel
theorem dX11_bits_24 : decode cX11_bits 24 = .ok (.iload_n 1, 1) := by decide +kernel
theorem dX11_bits_25 : decode cX11_bits 25 = .ok (.ireturn, 1) := by decide +kernel
theorem dX11_clock_0 : decode cX11_clock 0 = .ok (.aload_n 0, 1) := by decide +kernel
theorem dX11_clock_1 : decode cX11_clock 1 = .ok (.iload_n 1, 1) := by decide +kernel
theorem dX11_clock_2 : decode cX11_clock 2 = .ok (.invokevirtual 134, 3) := by decide +kernel
theorem dX11_clock_5 : decode cX11_clock 5 = .ok (.ifCond .eq 12, 3) := by decide +kernel
theorem dX11_clock_8 : decode cX11_clock 8 = .ok (.iload_n 2, 1) := by decide +kernel
theorem dX11_clock_9 : decode cX11_clock 9 = .ok (.iconst 0, 1) := by decide +kernel
theorem dX11_clock_10 : decode cX11_clock 10 = .ok (.iconst 3, 1) := by decide +kernel
theorem dX11_clock_11 : decode cX11_clock 11 = .ok (.invokestatic 94, 3) := by decide +kernel
theorem dX11_clock_14 : decode cX11_clock 14 = .ok (.ifCond .ne 5, 3) := by decide +kernel
theorem dX11_clock_17 : decode cX11_clock 17 = .ok (.iconst (-1), 1) := by decide +kernel
theorem dX11_clock_18 : decode cX11_clock 18 = .ok (.ireturn, 1) := by decide +kernel
theorem dX11_clock_19 : decode cX11_clock 19 = .ok (.iload_n 2, 1) := by decide +kernel
theorem dX11_clock_20 : decode cX11_clock 20 = .ok (.ifCond .ne 12, 3) := by decide +kernel
theorem dX11_clock_23 : decode cX11_clock 23 = .ok (.aload_n 0, 1) := by decide +kernel
theorem dX11_clock_24 : decode cX11_clock 24 = .ok (.getfield 25, 3) := by decide +kernel
theorem dX11_clock_27 : decode cX11_clock 27 = .ok (.iload_n 1, 1) := by decide +kernel
theorem dX11_clock_28 : decode cX11_clock 28 = .ok (.iaload, 1) := by decide +kernel
theorem dX11_clock_29 : decode cX11_clock 29 = .ok (.goto 52, 3) := by decide +kernel
theorem dX11_clock_32 : decode cX11_clock 32 = .ok (.iload_n 2, 1) := by decide +kernel
theorem dX11_clock_33 : decode cX11_clock 33 = .ok (.iconst 1, 1) := by decide +kernel
theorem dX11_clock_34 : decode cX11_clock 34 = .ok (.if_icmp .ne 18, 3) := by decide +kernel
theorem dX11_clock_37 : decode cX11_clock 37 = .ok (.aload_n 0, 1) := by decide +kernel
theorem dX11_clock_38 : decode cX11_clock 38 = .ok (.getfield 34, 3) := by decide +kernel
theorem dX11_clock_41 : decode cX11_clock 41 = .ok (.iconst 1, 1) := by decide +kernel
theorem dX11_clock_42 : decode cX11_clock 42 = .ok (.iload_n 1, 1) := by decide +kernel
theorem dX11_clock_43 : decode cX11_clock 43 = .ok (.iadd, 1) := by decide +kernel
theorem dX11_clock_44 : decode cX11_clock 44 = .ok (.iaload, 1) := by decide +kernel
theorem dX11_clock_45 : decode cX11_clock 45 = .ok (.sipush 600, 3) := by decide +kernel
theorem dX11_clock_48 : decode cX11_clock 48 = .ok (.iadd, 1) := by decide +kernel
theorem dX11_clock_49 : decode cX11_clock 49 = .ok (.goto 32, 3) := by decide +kernel
theorem dX11_clock_52 : decode cX11_clock 52 = .ok (.iload_n 2, 1) := by decide +kernel
theorem dX11_clock_53 : decode cX11_clock 53 = .ok (.iconst 2, 1) := by decide +kernel
theorem dX11_clock_54 : decode cX11_clock 54 = .ok (.if_icmp .ne 18, 3) := by decide +kernel
theorem dX11_clock_57 : decode cX11_clock 57 = .ok (.aload_n 0, 1) := by decide +kernel
theorem dX11_clock_58 : decode cX11_clock 58 = .ok (.getfield 34, 3) := by decide +kernel
theorem dX11_clock_61 : decode cX11_clock 61 = .ok (.bipush 8, 2) := by decide +kernel
theorem dX11_clock_63 : decode cX11_clock 63 = .ok (.iload_n 1, 1) := by decide +kernel
theorem dX11_clock_64 : decode cX11_clock 64 = .ok (.iadd, 1) := by decide +kernel
theorem dX11_clock_65 : decode cX11_clock 65 = .ok (.iaload, 1) := by decide +kernel
theorem dX11_clock_66 : decode cX11_clock 66 = .ok (.bipush 10, 2) := by decide +kernel
theorem dX11_clock_68 : decode cX11_clock 68 = .ok (.iadd, 1) := by decide +kernel
theorem dX11_clock_69 : decode cX11_clock 69 = .ok (.goto 12, 3) := by decide +kernel
theorem dX11_clock_72 : decode cX11_clock 72 = .ok (.aload_n 0, 1) := by decide +kernel
theorem dX11_clock_73 : decode cX11_clock 73 = .ok (.getfield 28, 3) := by decide +kernel
theorem dX11_clock_76 : decode cX11_clock 76 = .ok (.iload_n 1, 1) := by decide +kernel
theorem dX11_clock_77 : decode cX11_clock 77 = .ok (.iaload, 1) := by decide +kernel
theorem dX11_clock_78 : decode cX11_clock 78 = .ok (.invokestatic 137, 3) := by decide +kernel
theorem dX11_clock_81 : decode cX11_clock 81 = .ok (.ireturn, 1) := by decide +kernel
theorem dX11_wall_0 : decode cX11_wall 0 = .ok (.aload_n 0, 1) := by decide +kernel
theorem dX11_wall_1 : decode cX11_wall 1 = .ok (.iload_n 1, 1) := by decide +kernel
theorem dX11_wall_2 : decode cX11_wall 2 = .ok (.invokevirtual 134, 3) := by decide +kernel
theorem dX11_wall_5 : decode cX11_wall 5 = .ok (.ifCond .eq 29, 3) := by decide +kernel
theorem dX11_wall_8 : decode cX11_wall 8 = .ok (.aload_n 0, 1) := by decide +kernel
theorem dX11_wall_9 : decode cX11_wall 9 = .ok (.iload_n 2, 1) := by decide +kernel
theorem dX11_wall_10 : decode cX11_wall 10 = .ok (.invokevirtual 134, 3) := by decide +kernel
theorem dX11_wall_13 : decode cX11_wall 13 = .ok (.ifCond .eq 21, 3) := by decide +kernel
theorem dX11_wall_16 : decode cX11_wall 16 = .ok (.iload_n 1, 1) := by decide +kernel
theorem dX11_wall_17 : decode cX11_wall 17 = .ok (.iload_n 2, 1) := by decide +kernel
theorem dX11_wall_18 : decode cX11_wall 18 = .ok (.if_icmp .eq 16, 3) := by decide +kernel
theorem dX11_wall_21 : decode cX11_wall 21 = .ok (.aload_n 0, 1) := by decide +kernel
theorem dX11_wall_22 : decode cX11_wall 22 = .ok (.getfield 28, 3) := by decide +kernel
theorem dX11_wall_25 : decode cX11_wall 25 = .ok (.iload_n 1, 1) := by decide +kernel
theorem dX11_wall_26 : decode cX11_wall 26 = .ok (.iaload, 1) := by decide +kernel
theorem dX11_wall_27 : decode cX11_wall 27 = .ok (.iload_n 2, 1) := by decide +kernel
theorem dX11_wall_28 : decode cX11_wall 28 = .ok (.ishr, 1) := by decide +kernel
theorem dX11_wall_29 : decode cX11_wall 29 = .ok (.iconst 1, 1) := by decide +kernel
theorem dX11_wall_30 : decode cX11_wall 30 = .ok (.iand, 1) := by decide +kernel
theorem dX11_wall_31 : decode cX11_wall 31 = .ok (.goto 4, 3) := by decide +kernel
theorem dX11_wall_34 : decode cX11_wall 34 = .ok (.iconst (-1), 1) := by decide +kernel
theorem dX11_wall_35 : decode cX11_wall 35 = .ok (.ireturn, 1) := by decide +kernel
theorem dX11_noonOf_0 : decode cX11_noonOf 0 = .ok (.iconst 0, 1) := by decide +kernel
theorem dX11_noonOf_1 : decode cX11_noonOf 1 = .ok (.istore_n 2, 1) := by decide +kernel
theorem dX11_noonOf_2 : decode cX11_noonOf 2 = .ok (.iload_n 2, 1) := by decide +kernel
theorem dX11_noonOf_3 : decode cX11_noonOf 3 = .ok (.aload_n 0, 1) := by decide +kernel
theorem dX11_noonOf_4 : decode cX11_noonOf 4 = .ok (.getfield 91, 3) := by decide +kernel
theorem dX11_noonOf_7 : decode cX11_noonOf 7 = .ok (.if_icmp .ge 62, 3) := by decide +kernel
theorem dX11_noonOf_10 : decode cX11_noonOf 10 = .ok (.iload_n 2, 1) := by decide +kernel
theorem dX11_noonOf_11 : decode cX11_noonOf 11 = .ok (.istore_n 3, 1) := by decide +kernel
theorem dX11_noonOf_12 : decode cX11_noonOf 12 = .ok (.iload_n 3, 1) := by decide +kernel
theorem dX11_noonOf_13 : decode cX11_noonOf 13 = .ok (.ifCond .le 39, 3) := by decide +kernel
theorem dX11_noonOf_16 : decode cX11_noonOf 16 = .ok (.aload_n 0, 1) := by decide +kernel
theorem dX11_noonOf_17 : decode cX11_noonOf 17 = .ok (.getfield 67, 3) := by decide +kernel
theorem dX11_noonOf_20 : decode cX11_noonOf 20 = .ok (.iload_n 3, 1) := by decide +kernel
theorem dX11_noonOf_21 : decode cX11_noonOf 21 = .ok (.iconst 1, 1) := by decide +kernel
theorem dX11_noonOf_22 : decode cX11_noonOf 22 = .ok (.isub, 1) := by decide +kernel
theorem dX11_noonOf_23 : decode cX11_noonOf 23 = .ok (.iaload, 1) := by decide +kernel
theorem dX11_noonOf_24 : decode cX11_noonOf 24 = .ok (.aload_n 1, 1) := by decide +kernel
theorem dX11_noonOf_25 : decode cX11_noonOf 25 = .ok (.iconst 1, 1) := by decide +kernel
theorem dX11_noonOf_26 : decode cX11_noonOf 26 = .ok (.iload_n 2, 1) := by decide +kernel
theorem dX11_noonOf_27 : decode cX11_noonOf 27 = .ok (.iadd, 1) := by decide +kernel
theorem dX11_noonOf_28 : decode cX11_noonOf 28 = .ok (.iaload, 1) := by decide +kernel
theorem dX11_noonOf_29 : decode cX11_noonOf 29 = .ok (.if_icmp .le 23, 3) := by decide +kernel
theorem dX11_noonOf_32 : decode cX11_noonOf 32 = .ok (.aload_n 0, 1) := by decide +kernel
theorem dX11_noonOf_33 : decode cX11_noonOf 33 = .ok (.getfield 67, 3) := by decide +kernel
theorem dX11_noonOf_36 : decode cX11_noonOf 36 = .ok (.iload_n 3, 1) := by decide +kernel
theorem dX11_noonOf_37 : decode cX11_noonOf 37 = .ok (.aload_n 0, 1) := by decide +kernel
theorem dX11_noonOf_38 : decode cX11_noonOf 38 = .ok (.getfield 67, 3) := by decide +kernel
theorem dX11_noonOf_41 : decode cX11_noonOf 41 = .ok (.iload_n 3, 1) := by decide +kernel
theorem dX11_noonOf_42 : decode cX11_noonOf 42 = .ok (.iconst 1, 1) := by decide +kernel
theorem dX11_noonOf_43 : decode cX11_noonOf 43 = .ok (.isub, 1) := by decide +kernel
theorem dX11_noonOf_44 : decode cX11_noonOf 44 = .ok (.iaload, 1) := by decide +kernel
theorem dX11_noonOf_45 : decode cX11_noonOf 45 = .ok (.iastore, 1) := by decide +kernel
theorem dX11_noonOf_46 : decode cX11_noonOf 46 = .ok (.iinc 3 (-1), 3) := by decide +kernel
theorem dX11_noonOf_49 : decode cX11_noonOf 49 = .ok (.goto (-37), 3) := by decide +kernel
theorem dX11_noonOf_52 : decode cX11_noonOf 52 = .ok (.aload_n 0, 1) := by decide +kernel
theorem dX11_noonOf_53 : decode cX11_noonOf 53 = .ok (.getfield 67, 3) := by decide +kernel
theorem dX11_noonOf_56 : decode cX11_noonOf 56 = .ok (.iload_n 3, 1) := by decide +kernel
theorem dX11_noonOf_57 : decode cX11_noonOf 57 = .ok (.aload_n 1, 1) := by decide +kernel
theorem dX11_noonOf_58 : decode cX11_noonOf 58 = .ok (.iconst 1, 1) := by decide +kernel
theorem dX11_noonOf_59 : decode cX11_noonOf 59 = .ok (.iload_n 2, 1) := by decide +kernel
theorem dX11_noonOf_60 : decode cX11_noonOf 60 = .ok (.iadd, 1) := by decide +kernel
theorem dX11_noonOf_61 : decode cX11_noonOf 61 = .ok (.iaload, 1) := by decide +kernel
theorem dX11_noonOf_62 : decode cX11_noonOf 62 = .ok (.iastore, 1) := by decide +kernel
theorem dX11_noonOf_63 : decode cX11_noonOf 63 = .ok (.iinc 2 1, 3) := by decide +kernel
theorem dX11_noonOf_66 : decode cX11_noonOf 66 = .ok (.goto (-64), 3) := by decide +kernel
theorem dX11_noonOf_69 : decode cX11_noonOf 69 = .ok (.aload_n 0, 1) := by decide +kernel
theorem dX11_noonOf_70 : decode cX11_noonOf 70 = .ok (.getfield 67, 3) := by decide +kernel
theorem dX11_noonOf_73 : decode cX11_noonOf 73 = .ok (.aload_n 0, 1) := by decide +kernel
theorem dX11_noonOf_74 : decode cX11_noonOf 74 = .ok (.getfield 91, 3) := by decide +kernel
theorem dX11_noonOf_77 : decode cX11_noonOf 77 = .ok (.iconst 1, 1) := by decide +kernel
theorem dX11_noonOf_78 : decode cX11_noonOf 78 = .ok (.isub, 1) := by decide +kernel
theorem dX11_noonOf_79 : decode cX11_noonOf 79 = .ok (.iconst 2, 1) := by decide +kernel
theorem dX11_noonOf_80 : decode cX11_noonOf 80 = .ok (.idiv, 1) := by decide +kernel
theorem dX11_noonOf_81 : decode cX11_noonOf 81 = .ok (.iaload, 1) := by decide +kernel
theorem dX11_noonOf_82 : decode cX11_noonOf 82 = .ok (.ireturn, 1) := by decide +kernel
theorem dX11_noon_0 : decode cX11_noon 0 = .ok (.aload_n 0, 1) := by decide +kernel
theorem dX11_noon_1 : decode cX11_noon 1 = .ok (.aload_n 0, 1) := by decide +kernel
theorem dX11_noon_2 : decode cX11_noon 2 = .ok (.getfield 34, 3) := by decide +kernel
theorem dX11_noon_5 : decode cX11_noon 5 = .ok (.invokevirtual 140, 3) := by decide +kernel
theorem dX11_noon_8 : decode cX11_noon 8 = .ok (.sipush 600, 3) := by decide +kernel
theorem dX11_noon_11 : decode cX11_noon 11 = .ok (.iadd, 1) := by decide +kernel
theorem dX11_noon_12 : decode cX11_noon 12 = .ok (.ireturn, 1) := by decide +kernel
theorem dX11_bound_0 : decode cX11_bound 0 = .ok (.iload_n 0, 1) := by decide +kernel
theorem dX11_bound_1 : decode cX11_bound 1 = .ok (.sipush 600, 3) := by decide +kernel
theorem dX11_bound_4 : decode cX11_bound 4 = .ok (.if_icmp .le 9, 3) := by decide +kernel
theorem dX11_bound_7 : decode cX11_bound 7 = .ok (.sipush 600, 3) := by decide +kernel
theorem dX11_bound_10 : decode cX11_bound 10 = .ok (.goto 17, 3) := by decide +kernel
theorem dX11_bound_13 : decode cX11_bound 13 = .ok (.iload_n 0, 1) := by decide +kernel
theorem dX11_bound_14 : decode cX11_bound 14 = .ok (.sipush (-600), 3) := by decide +kernel
theorem dX11_bound_17 : decode cX11_bound 17 = .ok (.if_icmp .ge 9, 3) := by decide +kernel
theorem dX11_bound_20 : decode cX11_bound 20 = .ok (.sipush (-600), 3) := by decide +kernel
theorem dX11_bound_23 : decode cX11_bound 23 = .ok (.goto 4, 3) := by decide +kernel
theorem dX11_bound_26 : decode cX11_bound 26 = .ok (.iload_n 0, 1) := by decide +kernel
theorem dX11_bound_27 : decode cX11_bound 27 = .ok (.ireturn, 1) := by decide +kernel
theorem dX11_isTaught_0 : decode cX11_isTaught 0 = .ok (.aload_n 0, 1) := by decide +kernel
theorem dX11_isTaught_1 : decode cX11_isTaught 1 = .ok (.getfield 25, 3) := by decide +kernel
theorem dX11_isTaught_4 : decode cX11_isTaught 4 = .ok (.iload_n 2, 1) := by decide +kernel
theorem dX11_isTaught_5 : decode cX11_isTaught 5 = .ok (.iaload, 1) := by decide +kernel
theorem dX11_isTaught_6 : decode cX11_isTaught 6 = .ok (.iconst 3, 1) := by decide +kernel
theorem dX11_isTaught_7 : decode cX11_isTaught 7 = .ok (.if_icmp .eq 28, 3) := by decide +kernel
theorem dX11_isTaught_10 : decode cX11_isTaught 10 = .ok (.aload_n 0, 1) := by decide +kernel
theorem dX11_isTaught_11 : decode cX11_isTaught 11 = .ok (.getfield 25, 3) := by decide +kernel
theorem dX11_isTaught_14 : decode cX11_isTaught 14 = .ok (.iload_n 2, 1) := by decide +kernel
theorem dX11_isTaught_15 : decode cX11_isTaught 15 = .ok (.iaload, 1) := by decide +kernel
theorem dX11_isTaught_16 : decode cX11_isTaught 16 = .ok (.iconst 4, 1) := by decide +kernel
theorem dX11_isTaught_17 : decode cX11_isTaught 17 = .ok (.if_icmp .ne 14, 3) := by decide +kernel
theorem dX11_isTaught_20 : decode cX11_isTaught 20 = .ok (.aload_n 1, 1) := by decide +kernel
theorem dX11_isTaught_21 : decode cX11_isTaught 21 = .ok (.iconst 0, 1) := by decide +kernel
theorem dX11_isTaught_22 : decode cX11_isTaught 22 = .ok (.iaload, 1) := by decide +kernel
theorem dX11_isTaught_23 : decode cX11_isTaught 23 = .ok (.bipush 7, 2) := by decide +kernel
theorem dX11_isTaught_25 : decode cX11_isTaught 25 = .ok (.irem, 1) := by decide +kernel
theorem dX11_isTaught_26 : decode cX11_isTaught 26 = .ok (.bipush 6, 2) := by decide +kernel
theorem dX11_isTaught_28 : decode cX11_isTaught 28 = .ok (.if_icmp .ne 7, 3) := by decide +kernel
theorem dX11_isTaught_31 : decode cX11_isTaught 31 = .ok (.iconst 1, 1) := by decide +kernel
theorem dX11_isTaught_32 : decode cX11_isTaught 32 = .ok (.goto 4, 3) := by decide +kernel
theorem dX11_isTaught_35 : decode cX11_isTaught 35 = .ok (.iconst 0, 1) := by decide +kernel
theorem dX11_isTaught_36 : decode cX11_isTaught 36 = .ok (.ireturn, 1) := by decide +kernel
theorem dX11_teachOn_0 : decode cX11_teachOn 0 = .ok (.aload_n 0, 1) := by decide +kernel
theorem dX11_teachOn_1 : decode cX11_teachOn 1 = .ok (.aload_n 1, 1) := by decide +kernel
theorem dX11_teachOn_2 : decode cX11_teachOn 2 = .ok (.iload_n 3, 1) := by decide +kernel
theorem dX11_teachOn_3 : decode cX11_teachOn 3 = .ok (.invokevirtual 144, 3) := by decide +kernel
theorem dX11_teachOn_6 : decode cX11_teachOn 6 = .ok (.ifCond .eq 67, 3) := by decide +kernel
theorem dX11_teachOn_9 : decode cX11_teachOn 9 = .ok (.aload_n 1, 1) := by decide +kernel
theorem dX11_teachOn_10 : decode cX11_teachOn 10 = .ok (.iconst 1, 1) := by decide +kernel
theorem dX11_teachOn_11 : decode cX11_teachOn 11 = .ok (.iload_n 2, 1) := by decide +kernel
theorem dX11_teachOn_12 : decode cX11_teachOn 12 = .ok (.iadd, 1) := by decide +kernel
theorem dX11_teachOn_13 : decode cX11_teachOn 13 = .ok (.iaload, 1) := by decide +kernel
theorem dX11_teachOn_14 : decode cX11_teachOn 14 = .ok (.istore 4, 2) := by decide +kernel
theorem dX11_teachOn_16 : decode cX11_teachOn 16 = .ok (.aload_n 1, 1) := by decide +kernel
theorem dX11_teachOn_17 : decode cX11_teachOn 17 = .ok (.iconst 1, 1) := by decide +kernel
theorem dX11_teachOn_18 : decode cX11_teachOn 18 = .ok (.iload_n 3, 1) := by decide +kernel
theorem dX11_teachOn_19 : decode cX11_teachOn 19 = .ok (.iadd, 1) := by decide +kernel
theorem dX11_teachOn_20 : decode cX11_teachOn 20 = .ok (.iaload, 1) := by decide +kernel
theorem dX11_teachOn_21 : decode cX11_teachOn 21 = .ok (.istore 5, 2) := by decide +kernel
theorem dX11_teachOn_23 : decode cX11_teachOn 23 = .ok (.aload_n 1, 1) := by decide +kernel
theorem dX11_teachOn_24 : decode cX11_teachOn 24 = .ok (.iconst 1, 1) := by decide +kernel
theorem dX11_teachOn_25 : decode cX11_teachOn 25 = .ok (.iload_n 3, 1) := by decide +kernel
theorem dX11_teachOn_26 : decode cX11_teachOn 26 = .ok (.iadd, 1) := by decide +kernel
theorem dX11_teachOn_27 : decode cX11_teachOn 27 = .ok (.aload_n 0, 1) := by decide +kernel
theorem dX11_teachOn_28 : decode cX11_teachOn 28 = .ok (.getfield 25, 3) := by decide +kernel
theorem dX11_teachOn_31 : decode cX11_teachOn 31 = .ok (.iload_n 3, 1) := by decide +kernel
theorem dX11_teachOn_32 : decode cX11_teachOn 32 = .ok (.iaload, 1) := by decide +kernel
theorem dX11_teachOn_33 : decode cX11_teachOn 33 = .ok (.iconst 1, 1) := by decide +kernel
theorem dX11_teachOn_34 : decode cX11_teachOn 34 = .ok (.if_icmp .ne 16, 3) := by decide +kernel
theorem dX11_teachOn_37 : decode cX11_teachOn 37 = .ok (.iload 5, 2) := by decide +kernel
theorem dX11_teachOn_39 : decode cX11_teachOn 39 = .ok (.iload 4, 2) := by decide +kernel
theorem dX11_teachOn_41 : decode cX11_teachOn 41 = .ok (.iload 5, 2) := by decide +kernel
theorem dX11_teachOn_43 : decode cX11_teachOn 43 = .ok (.isub, 1) := by decide +kernel
theorem dX11_teachOn_44 : decode cX11_teachOn 44 = .ok (.iconst 2, 1) := by decide +kernel
theorem dX11_teachOn_45 : decode cX11_teachOn 45 = .ok (.idiv, 1) := by decide +kernel
theorem dX11_teachOn_46 : decode cX11_teachOn 46 = .ok (.iadd, 1) := by decide +kernel
theorem dX11_teachOn_47 : decode cX11_teachOn 47 = .ok (.goto 25, 3) := by decide +kernel
theorem dX11_teachOn_50 : decode cX11_teachOn 50 = .ok (.aload_n 0, 1) := by decide +kernel
theorem dX11_teachOn_51 : decode cX11_teachOn 51 = .ok (.getfield 25, 3) := by decide +kernel
theorem dX11_teachOn_54 : decode cX11_teachOn 54 = .ok (.iload_n 3, 1) := by decide +kernel
theorem dX11_teachOn_55 : decode cX11_teachOn 55 = .ok (.iaload, 1) := by decide +kernel
theorem dX11_teachOn_56 : decode cX11_teachOn 56 = .ok (.iconst 2, 1) := by decide +kernel
theorem dX11_teachOn_57 : decode cX11_teachOn 57 = .ok (.if_icmp .ne 13, 3) := by decide +kernel
theorem dX11_teachOn_60 : decode cX11_teachOn 60 = .ok (.iload 4, 2) := by decide +kernel
theorem dX11_teachOn_62 : decode cX11_teachOn 62 = .ok (.iconst 1, 1) := by decide +kernel
theorem dX11_teachOn_63 : decode cX11_teachOn 63 = .ok (.iadd, 1) := by decide +kernel
theorem dX11_teachOn_64 : decode cX11_teachOn 64 = .ok (.invokestatic 148, 3) := by decide +kernel
theorem dX11_teachOn_67 : decode cX11_teachOn 67 = .ok (.goto 5, 3) := by decide +kernel
theorem dX11_teachOn_70 : decode cX11_teachOn 70 = .ok (.iload 4, 2) := by decide +kernel
theorem dX11_teachOn_72 : decode cX11_teachOn 72 = .ok (.iastore, 1) := by decide +kernel
theorem dX11_teachOn_73 : decode cX11_teachOn 73 = .ok (.return_, 1) := by decide +kernel
theorem dX11_hearOn_0 : decode cX11_hearOn 0 = .ok (.aload_n 1, 1) := by decide +kernel
theorem dX11_hearOn_1 : decode cX11_hearOn 1 = .ok (.iconst 1, 1) := by decide +kernel
theorem dX11_hearOn_2 : decode cX11_hearOn 2 = .ok (.iload_n 2, 1) := by decide +kernel
theorem dX11_hearOn_3 : decode cX11_hearOn 3 = .ok (.iadd, 1) := by decide +kernel
theorem dX11_hearOn_4 : decode cX11_hearOn 4 = .ok (.iaload, 1) := by decide +kernel
theorem dX11_hearOn_5 : decode cX11_hearOn 5 = .ok (.aload_n 1, 1) := by decide +kernel
theorem dX11_hearOn_6 : decode cX11_hearOn 6 = .ok (.iconst 1, 1) := by decide +kernel
theorem dX11_hearOn_7 : decode cX11_hearOn 7 = .ok (.iload_n 3, 1) := by decide +kernel
theorem dX11_hearOn_8 : decode cX11_hearOn 8 = .ok (.iadd, 1) := by decide +kernel
theorem dX11_hearOn_9 : decode cX11_hearOn 9 = .ok (.iaload, 1) := by decide +kernel
theorem dX11_hearOn_10 : decode cX11_hearOn 10 = .ok (.isub, 1) := by decide +kernel
theorem dX11_hearOn_11 : decode cX11_hearOn 11 = .ok (.istore 4, 2) := by decide +kernel
theorem dX11_hearOn_13 : decode cX11_hearOn 13 = .ok (.iload 4, 2) := by decide +kernel
theorem dX11_hearOn_15 : decode cX11_hearOn 15 = .ok (.ifCond .le 7, 3) := by decide +kernel
theorem dX11_hearOn_18 : decode cX11_hearOn 18 = .ok (.iload_n 2, 1) := by decide +kernel
theorem dX11_hearOn_19 : decode cX11_hearOn 19 = .ok (.goto 4, 3) := by decide +kernel
theorem dX11_hearOn_22 : decode cX11_hearOn 22 = .ok (.iload_n 3, 1) := by decide +kernel
theorem dX11_hearOn_23 : decode cX11_hearOn 23 = .ok (.istore 5, 2) := by decide +kernel
theorem dX11_hearOn_25 : decode cX11_hearOn 25 = .ok (.iload 4, 2) := by decide +kernel
theorem dX11_hearOn_27 : decode cX11_hearOn 27 = .ok (.ifCond .le 7, 3) := by decide +kernel
theorem dX11_hearOn_30 : decode cX11_hearOn 30 = .ok (.iload_n 3, 1) := by decide +kernel
theorem dX11_hearOn_31 : decode cX11_hearOn 31 = .ok (.goto 4, 3) := by decide +kernel
theorem dX11_hearOn_34 : decode cX11_hearOn 34 = .ok (.iload_n 2, 1) := by decide +kernel
theorem dX11_hearOn_35 : decode cX11_hearOn 35 = .ok (.istore 6, 2) := by decide +kernel
theorem dX11_hearOn_37 : decode cX11_hearOn 37 = .ok (.iload 4, 2) := by decide +kernel
theorem dX11_hearOn_39 : decode cX11_hearOn 39 = .ok (.ifCond .eq 20, 3) := by decide +kernel
theorem dX11_hearOn_42 : decode cX11_hearOn 42 = .ok (.aload_n 1, 1) := by decide +kernel
theorem dX11_hearOn_43 : decode cX11_hearOn 43 = .ok (.iconst 1, 1) := by decide +kernel
theorem dX11_hearOn_44 : decode cX11_hearOn 44 = .ok (.iload 5, 2) := by decide +kernel
theorem dX11_hearOn_46 : decode cX11_hearOn 46 = .ok (.iadd, 1) := by decide +kernel
theorem dX11_hearOn_47 : decode cX11_hearOn 47 = .ok (.aload_n 1, 1) := by decide +kernel
theorem dX11_hearOn_48 : decode cX11_hearOn 48 = .ok (.iconst 1, 1) := by decide +kernel
theorem dX11_hearOn_49 : decode cX11_hearOn 49 = .ok (.iload 5, 2) := by decide +kernel
theorem dX11_hearOn_51 : decode cX11_hearOn 51 = .ok (.iadd, 1) := by decide +kernel
theorem dX11_hearOn_52 : decode cX11_hearOn 52 = .ok (.iaload, 1) := by decide +kernel
theorem dX11_hearOn_53 : decode cX11_hearOn 53 = .ok (.iconst 1, 1) := by decide +kernel
theorem dX11_hearOn_54 : decode cX11_hearOn 54 = .ok (.isub, 1) := by decide +kernel
theorem dX11_hearOn_55 : decode cX11_hearOn 55 = .ok (.invokestatic 148, 3) := by decide +kernel
theorem dX11_hearOn_58 : decode cX11_hearOn 58 = .ok (.iastore, 1) := by decide +kernel
theorem dX11_hearOn_59 : decode cX11_hearOn 59 = .ok (.iload 4, 2) := by decide +kernel
theorem dX11_hearOn_61 : decode cX11_hearOn 61 = .ok (.invokestatic 151, 3) := by decide +kernel
theorem dX11_hearOn_64 : decode cX11_hearOn 64 = .ok (.iconst 1, 1) := by decide +kernel
theorem dX11_hearOn_65 : decode cX11_hearOn 65 = .ok (.if_icmp .le 20, 3) := by decide +kernel
theorem dX11_hearOn_68 : decode cX11_hearOn 68 = .ok (.aload_n 1, 1) := by decide +kernel
theorem dX11_hearOn_69 : decode cX11_hearOn 69 = .ok (.iconst 1, 1) := by decide +kernel
theorem dX11_hearOn_70 : decode cX11_hearOn 70 = .ok (.iload 6, 2) := by decide +kernel
theorem dX11_hearOn_72 : decode cX11_hearOn 72 = .ok (.iadd, 1) := by decide +kernel
theorem dX11_hearOn_73 : decode cX11_hearOn 73 = .ok (.aload_n 1, 1) := by decide +kernel
theorem dX11_hearOn_74 : decode cX11_hearOn 74 = .ok (.iconst 1, 1) := by decide +kernel
theorem dX11_hearOn_75 : decode cX11_hearOn 75 = .ok (.iload 6, 2) := by decide +kernel
theorem dX11_hearOn_77 : decode cX11_hearOn 77 = .ok (.iadd, 1) := by decide +kernel
theorem dX11_hearOn_78 : decode cX11_hearOn 78 = .ok (.iaload, 1) := by decide +kernel
theorem dX11_hearOn_79 : decode cX11_hearOn 79 = .ok (.iconst 1, 1) := by decide +kernel
theorem dX11_hearOn_80 : decode cX11_hearOn 80 = .ok (.iadd, 1) := by decide +kernel
theorem dX11_hearOn_81 : decode cX11_hearOn 81 = .ok (.invokestatic 148, 3) := by decide +kernel
theorem dX11_hearOn_84 : decode cX11_hearOn 84 = .ok (.iastore, 1) := by decide +kernel
theorem dX11_hearOn_85 : decode cX11_hearOn 85 = .ok (.return_, 1) := by decide +kernel
theorem dX11_passOn_0 : decode cX11_passOn 0 = .ok (.iconst 0, 1) := by decide +kernel
theorem dX11_passOn_1 : decode cX11_passOn 1 = .ok (.istore_n 3, 1) := by decide +kernel
theorem dX11_passOn_2 : decode cX11_passOn 2 = .ok (.iload_n 3, 1) := by decide +kernel
theorem dX11_passOn_3 : decode cX11_passOn 3 = .ok (.aload_n 0, 1) := by decide +kernel
theorem dX11_passOn_4 : decode cX11_passOn 4 = .ok (.getfield 122, 3) := by decide +kernel
theorem dX11_passOn_7 : decode cX11_passOn 7 = .ok (.if_icmp .ge 51, 3) := by decide +kernel
theorem dX11_passOn_10 : decode cX11_passOn 10 = .ok (.aload_n 0, 1) := by decide +kernel
theorem dX11_passOn_11 : decode cX11_passOn 11 = .ok (.getfield 31, 3) := by decide +kernel
theorem dX11_passOn_14 : decode cX11_passOn 14 = .ok (.iconst 3, 1) := by decide +kernel
theorem dX11_passOn_15 : decode cX11_passOn 15 = .ok (.iload_n 3, 1) := by decide +kernel
theorem dX11_passOn_16 : decode cX11_passOn 16 = .ok (.imul, 1) := by decide +kernel
theorem dX11_passOn_17 : decode cX11_passOn 17 = .ok (.iaload, 1) := by decide +kernel
theorem dX11_passOn_18 : decode cX11_passOn 18 = .ok (.aload_n 1, 1) := by decide +kernel
theorem dX11_passOn_19 : decode cX11_passOn 19 = .ok (.iconst 0, 1) := by decide +kernel
theorem dX11_passOn_20 : decode cX11_passOn 20 = .ok (.iaload, 1) := by decide +kernel
theorem dX11_passOn_21 : decode cX11_passOn 21 = .ok (.bipush 14, 2) := by decide +kernel
theorem dX11_passOn_23 : decode cX11_passOn 23 = .ok (.irem, 1) := by decide +kernel
theorem dX11_passOn_24 : decode cX11_passOn 24 = .ok (.if_icmp .ne 28, 3) := by decide +kernel
theorem dX11_passOn_27 : decode cX11_passOn 27 = .ok (.aload_n 0, 1) := by decide +kernel
theorem dX11_passOn_28 : decode cX11_passOn 28 = .ok (.aload_n 1, 1) := by decide +kernel
theorem dX11_passOn_29 : decode cX11_passOn 29 = .ok (.aload_n 0, 1) := by decide +kernel
theorem dX11_passOn_30 : decode cX11_passOn 30 = .ok (.getfield 31, 3) := by decide +kernel
theorem dX11_passOn_33 : decode cX11_passOn 33 = .ok (.iconst 3, 1) := by decide +kernel
theorem dX11_passOn_34 : decode cX11_passOn 34 = .ok (.iload_n 3, 1) := by decide +kernel
theorem dX11_passOn_35 : decode cX11_passOn 35 = .ok (.imul, 1) := by decide +kernel
theorem dX11_passOn_36 : decode cX11_passOn 36 = .ok (.iconst 1, 1) := by decide +kernel
theorem dX11_passOn_37 : decode cX11_passOn 37 = .ok (.iadd, 1) := by decide +kernel
theorem dX11_passOn_38 : decode cX11_passOn 38 = .ok (.iaload, 1) := by decide +kernel
theorem dX11_passOn_39 : decode cX11_passOn 39 = .ok (.aload_n 0, 1) := by decide +kernel
theorem dX11_passOn_40 : decode cX11_passOn 40 = .ok (.getfield 31, 3) := by decide +kernel
theorem dX11_passOn_43 : decode cX11_passOn 43 = .ok (.iconst 3, 1) := by decide +kernel
theorem dX11_passOn_44 : decode cX11_passOn 44 = .ok (.iload_n 3, 1) := by decide +kernel
theorem dX11_passOn_45 : decode cX11_passOn 45 = .ok (.imul, 1) := by decide +kernel
theorem dX11_passOn_46 : decode cX11_passOn 46 = .ok (.iconst 2, 1) := by decide +kernel
theorem dX11_passOn_47 : decode cX11_passOn 47 = .ok (.iadd, 1) := by decide +kernel
theorem dX11_passOn_48 : decode cX11_passOn 48 = .ok (.iaload, 1) := by decide +kernel
theorem dX11_passOn_49 : decode cX11_passOn 49 = .ok (.invokevirtual 154, 3) := by decide +kernel
theorem dX11_passOn_52 : decode cX11_passOn 52 = .ok (.iinc 3 1, 3) := by decide +kernel
theorem dX11_passOn_55 : decode cX11_passOn 55 = .ok (.goto (-53), 3) := by decide +kernel
theorem dX11_passOn_58 : decode cX11_passOn 58 = .ok (.iconst 0, 1) := by decide +kernel
theorem dX11_passOn_59 : decode cX11_passOn 59 = .ok (.istore_n 3, 1) := by decide +kernel
theorem dX11_passOn_60 : decode cX11_passOn 60 = .ok (.iload_n 3, 1) := by decide +kernel
theorem dX11_passOn_61 : decode cX11_passOn 61 = .ok (.aload_n 0, 1) := by decide +kernel
theorem dX11_passOn_62 : decode cX11_passOn 62 = .ok (.getfield 91, 3) := by decide +kernel
theorem dX11_passOn_65 : decode cX11_passOn 65 = .ok (.if_icmp .ge 55, 3) := by decide +kernel
theorem dX11_passOn_68 : decode cX11_passOn 68 = .ok (.iload_n 2, 1) := by decide +kernel
theorem dX11_passOn_69 : decode cX11_passOn 69 = .ok (.ifCond .eq 51, 3) := by decide +kernel
theorem dX11_passOn_72 : decode cX11_passOn 72 = .ok (.iload_n 3, 1) := by decide +kernel
theorem dX11_passOn_73 : decode cX11_passOn 73 = .ok (.iconst 1, 1) := by decide +kernel
theorem dX11_passOn_74 : decode cX11_passOn 74 = .ok (.iadd, 1) := by decide +kernel
theorem dX11_passOn_75 : decode cX11_passOn 75 = .ok (.istore 4, 2) := by decide +kernel
theorem dX11_passOn_77 : decode cX11_passOn 77 = .ok (.iload 4, 2) := by decide +kernel
theorem dX11_passOn_79 : decode cX11_passOn 79 = .ok (.aload_n 0, 1) := by decide +kernel
theorem dX11_passOn_80 : decode cX11_passOn 80 = .ok (.getfield 91, 3) := by decide +kernel
theorem dX11_passOn_83 : decode cX11_passOn 83 = .ok (.if_icmp .ge 31, 3) := by decide +kernel
theorem dX11_passOn_86 : decode cX11_passOn 86 = .ok (.aload_n 0, 1) := by decide +kernel
theorem dX11_passOn_87 : decode cX11_passOn 87 = .ok (.getfield 28, 3) := by decide +kernel
theorem dX11_passOn_90 : decode cX11_passOn 90 = .ok (.iload_n 3, 1) := by decide +kernel
theorem dX11_passOn_91 : decode cX11_passOn 91 = .ok (.iaload, 1) := by decide +kernel
theorem dX11_passOn_92 : decode cX11_passOn 92 = .ok (.iload 4, 2) := by decide +kernel
theorem dX11_passOn_94 : decode cX11_passOn 94 = .ok (.invokestatic 158, 3) := by decide +kernel
theorem dX11_passOn_97 : decode cX11_passOn 97 = .ok (.ifCond .eq 11, 3) := by decide +kernel
theorem dX11_passOn_100 : decode cX11_passOn 100 = .ok (.aload_n 0, 1) := by decide +kernel
theorem dX11_passOn_101 : decode cX11_passOn 101 = .ok (.aload_n 1, 1) := by decide +kernel
theorem dX11_passOn_102 : decode cX11_passOn 102 = .ok (.iload_n 3, 1) := by decide +kernel
theorem dX11_passOn_103 : decode cX11_passOn 103 = .ok (.iload 4, 2) := by decide +kernel
theorem dX11_passOn_105 : decode cX11_passOn 105 = .ok (.invokevirtual 162, 3) := by decide +kernel
theorem dX11_passOn_108 : decode cX11_passOn 108 = .ok (.iinc 4 1, 3) := by decide +kernel
theorem dX11_passOn_111 : decode cX11_passOn 111 = .ok (.goto (-34), 3) := by decide +kernel
theorem dX11_passOn_114 : decode cX11_passOn 114 = .ok (.iinc 3 1, 3) := by decide +kernel
theorem dX11_passOn_117 : decode cX11_passOn 117 = .ok (.goto (-57), 3) := by decide +kernel
theorem dX11_passOn_120 : decode cX11_passOn 120 = .ok (.iconst 0, 1) := by decide +kernel
theorem dX11_passOn_121 : decode cX11_passOn 121 = .ok (.istore_n 3, 1) := by decide +kernel
theorem dX11_passOn_122 : decode cX11_passOn 122 = .ok (.iload_n 3, 1) := by decide +kernel
theorem dX11_passOn_123 : decode cX11_passOn 123 = .ok (.aload_n 0, 1) := by decide +kernel
theorem dX11_passOn_124 : decode cX11_passOn 124 = .ok (.getfield 91, 3) := by decide +kernel
theorem dX11_passOn_127 : decode cX11_passOn 127 = .ok (.if_icmp .ge 29, 3) := by decide +kernel
theorem dX11_passOn_130 : decode cX11_passOn 130 = .ok (.aload_n 1, 1) := by decide +kernel
theorem dX11_passOn_131 : decode cX11_passOn 131 = .ok (.iconst 1, 1) := by decide +kernel
theorem dX11_passOn_132 : decode cX11_passOn 132 = .ok (.iload_n 3, 1) := by decide +kernel
theorem dX11_passOn_133 : decode cX11_passOn 133 = .ok (.iadd, 1) := by decide +kernel
theorem dX11_passOn_134 : decode cX11_passOn 134 = .ok (.aload_n 1, 1) := by decide +kernel
theorem dX11_passOn_135 : decode cX11_passOn 135 = .ok (.iconst 1, 1) := by decide +kernel
theorem dX11_passOn_136 : decode cX11_passOn 136 = .ok (.iload_n 3, 1) := by decide +kernel
theorem dX11_passOn_137 : decode cX11_passOn 137 = .ok (.iadd, 1) := by decide +kernel
theorem dX11_passOn_138 : decode cX11_passOn 138 = .ok (.iaload, 1) := by decide +kernel
theorem dX11_passOn_139 : decode cX11_passOn 139 = .ok (.aload_n 1, 1) := by decide +kernel
theorem dX11_passOn_140 : decode cX11_passOn 140 = .ok (.bipush 8, 2) := by decide +kernel
theorem dX11_passOn_142 : decode cX11_passOn 142 = .ok (.iload_n 3, 1) := by decide +kernel
theorem dX11_passOn_143 : decode cX11_passOn 143 = .ok (.iadd, 1) := by decide +kernel
theorem dX11_passOn_144 : decode cX11_passOn 144 = .ok (.iaload, 1) := by decide +kernel
theorem dX11_passOn_145 : decode cX11_passOn 145 = .ok (.iadd, 1) := by decide +kernel
theorem dX11_passOn_146 : decode cX11_passOn 146 = .ok (.invokestatic 148, 3) := by decide +kernel
theorem dX11_passOn_149 : decode cX11_passOn 149 = .ok (.iastore, 1) := by decide +kernel
theorem dX11_passOn_150 : decode cX11_passOn 150 = .ok (.iinc 3 1, 3) := by decide +kernel
theorem dX11_passOn_153 : decode cX11_passOn 153 = .ok (.goto (-31), 3) := by decide +kernel
theorem dX11_passOn_156 : decode cX11_passOn 156 = .ok (.aload_n 1, 1) := by decide +kernel
theorem dX11_passOn_157 : decode cX11_passOn 157 = .ok (.iconst 0, 1) := by decide +kernel
theorem dX11_passOn_158 : decode cX11_passOn 158 = .ok (.dup2, 1) := by decide +kernel
theorem dX11_passOn_159 : decode cX11_passOn 159 = .ok (.iaload, 1) := by decide +kernel
theorem dX11_passOn_160 : decode cX11_passOn 160 = .ok (.iconst 1, 1) := by decide +kernel
theorem dX11_passOn_161 : decode cX11_passOn 161 = .ok (.iadd, 1) := by decide +kernel
theorem dX11_passOn_162 : decode cX11_passOn 162 = .ok (.iastore, 1) := by decide +kernel
theorem dX11_passOn_163 : decode cX11_passOn 163 = .ok (.return_, 1) := by decide +kernel
theorem dX11_copy_0 : decode cX11_copy 0 = .ok (.iconst 0, 1) := by decide +kernel
theorem dX11_copy_1 : decode cX11_copy 1 = .ok (.istore 4, 2) := by decide +kernel
theorem dX11_copy_3 : decode cX11_copy 3 = .ok (.iload 4, 2) := by decide +kernel
theorem dX11_copy_5 : decode cX11_copy 5 = .ok (.bipush 15, 2) := by decide +kernel
theorem dX11_copy_7 : decode cX11_copy 7 = .ok (.if_icmp .ge 21, 3) := by decide +kernel
theorem dX11_copy_10 : decode cX11_copy 10 = .ok (.aload_n 2, 1) := by decide +kernel
theorem dX11_copy_11 : decode cX11_copy 11 = .ok (.iload_n 3, 1) := by decide +kernel
theorem dX11_copy_12 : decode cX11_copy 12 = .ok (.iload 4, 2) := by decide +kernel
theorem dX11_copy_14 : decode cX11_copy 14 = .ok (.iadd, 1) := by decide +kernel
theorem dX11_copy_15 : decode cX11_copy 15 = .ok (.aload_n 0, 1) := by decide +kernel
theorem dX11_copy_16 : decode cX11_copy 16 = .ok (.iload_n 1, 1) := by decide +kernel
theorem dX11_copy_17 : decode cX11_copy 17 = .ok (.iload 4, 2) := by decide +kernel
theorem dX11_copy_19 : decode cX11_copy 19 = .ok (.iadd, 1) := by decide +kernel
theorem dX11_copy_20 : decode cX11_copy 20 = .ok (.iaload, 1) := by decide +kernel
theorem dX11_copy_21 : decode cX11_copy 21 = .ok (.iastore, 1) := by decide +kernel
theorem dX11_copy_22 : decode cX11_copy 22 = .ok (.iinc 4 1, 3) := by decide +kernel
theorem dX11_copy_25 : decode cX11_copy 25 = .ok (.goto (-22), 3) := by decide +kernel
theorem dX11_copy_28 : decode cX11_copy 28 = .ok (.return_, 1) := by decide +kernel
theorem dX11_note_0 : decode cX11_note 0 = .ok (.aload_n 0, 1) := by decide +kernel
theorem dX11_note_1 : decode cX11_note 1 = .ok (.getfield 125, 3) := by decide +kernel
theorem dX11_note_4 : decode cX11_note 4 = .ok (.bipush 8, 2) := by decide +kernel
theorem dX11_note_6 : decode cX11_note 6 = .ok (.if_icmp .ne 42, 3) := by decide +kernel
theorem dX11_note_9 : decode cX11_note 9 = .ok (.iconst 0, 1) := by decide +kernel
theorem dX11_note_10 : decode cX11_note 10 = .ok (.istore_n 1, 1) := by decide +kernel
theorem dX11_note_11 : decode cX11_note 11 = .ok (.iload_n 1, 1) := by decide +kernel
theorem dX11_note_12 : decode cX11_note 12 = .ok (.bipush 105, 2) := by decide +kernel
theorem dX11_note_14 : decode cX11_note 14 = .ok (.if_icmp .ge 24, 3) := by decide +kernel
theorem dX11_note_17 : decode cX11_note 17 = .ok (.aload_n 0, 1) := by decide +kernel
theorem dX11_note_18 : decode cX11_note 18 = .ok (.getfield 43, 3) := by decide +kernel
theorem dX11_note_21 : decode cX11_note 21 = .ok (.iload_n 1, 1) := by decide +kernel
theorem dX11_note_22 : decode cX11_note 22 = .ok (.aload_n 0, 1) := by decide +kernel
theorem dX11_note_23 : decode cX11_note 23 = .ok (.getfield 43, 3) := by decide +kernel
theorem dX11_note_26 : decode cX11_note 26 = .ok (.iload_n 1, 1) := by decide +kernel
theorem dX11_note_27 : decode cX11_note 27 = .ok (.bipush 15, 2) := by decide +kernel
theorem dX11_note_29 : decode cX11_note 29 = .ok (.iadd, 1) := by decide +kernel
theorem dX11_note_30 : decode cX11_note 30 = .ok (.iaload, 1) := by decide +kernel
theorem dX11_note_31 : decode cX11_note 31 = .ok (.iastore, 1) := by decide +kernel
theorem dX11_note_32 : decode cX11_note 32 = .ok (.iinc 1 1, 3) := by decide +kernel
theorem dX11_note_35 : decode cX11_note 35 = .ok (.goto (-24), 3) := by decide +kernel
theorem dX11_note_38 : decode cX11_note 38 = .ok (.aload_n 0, 1) := by decide +kernel
theorem dX11_note_39 : decode cX11_note 39 = .ok (.dup, 1) := by decide +kernel
theorem dX11_note_40 : decode cX11_note 40 = .ok (.getfield 125, 3) := by decide +kernel
theorem dX11_note_43 : decode cX11_note 43 = .ok (.iconst 1, 1) := by decide +kernel
theorem dX11_note_44 : decode cX11_note 44 = .ok (.isub, 1) := by decide +kernel
theorem dX11_note_45 : decode cX11_note 45 = .ok (.putfield 125, 3) := by decide +kernel
theorem dX11_note_48 : decode cX11_note 48 = .ok (.aload_n 0, 1) := by decide +kernel
theorem dX11_note_49 : decode cX11_note 49 = .ok (.getfield 34, 3) := by decide +kernel
theorem dX11_note_52 : decode cX11_note 52 = .ok (.iconst 0, 1) := by decide +kernel
theorem dX11_note_53 : decode cX11_note 53 = .ok (.aload_n 0, 1) := by decide +kernel
theorem dX11_note_54 : decode cX11_note 54 = .ok (.getfield 43, 3) := by decide +kernel
theorem dX11_note_57 : decode cX11_note 57 = .ok (.bipush 15, 2) := by decide +kernel
theorem dX11_note_59 : decode cX11_note 59 = .ok (.aload_n 0, 1) := by decide +kernel
theorem dX11_note_60 : decode cX11_note 60 = .ok (.getfield 125, 3) := by decide +kernel
theorem dX11_note_63 : decode cX11_note 63 = .ok (.imul, 1) := by decide +kernel
theorem dX11_note_64 : decode cX11_note 64 = .ok (.invokestatic 165, 3) := by decide +kernel
theorem dX11_note_67 : decode cX11_note 67 = .ok (.aload_n 0, 1) := by decide +kernel
theorem dX11_note_68 : decode cX11_note 68 = .ok (.dup, 1) := by decide +kernel
theorem dX11_note_69 : decode cX11_note 69 = .ok (.getfield 125, 3) := by decide +kernel
theorem dX11_note_72 : decode cX11_note 72 = .ok (.iconst 1, 1) := by decide +kernel
theorem dX11_note_73 : decode cX11_note 73 = .ok (.iadd, 1) := by decide +kernel
theorem dX11_note_74 : decode cX11_note 74 = .ok (.putfield 125, 3) := by decide +kernel
theorem dX11_note_77 : decode cX11_note 77 = .ok (.return_, 1) := by decide +kernel
theorem dX11_pass_0 : decode cX11_pass 0 = .ok (.iload_n 1, 1) := by decide +kernel
theorem dX11_pass_1 : decode cX11_pass 1 = .ok (.iconst 1, 1) := by decide +kernel
theorem dX11_pass_2 : decode cX11_pass 2 = .ok (.bipush 20, 2) := by decide +kernel
theorem dX11_pass_4 : decode cX11_pass 4 = .ok (.invokestatic 94, 3) := by decide +kernel
theorem dX11_pass_7 : decode cX11_pass 7 = .ok (.ifCond .ne 5, 3) := by decide +kernel
theorem dX11_pass_10 : decode cX11_pass 10 = .ok (.iconst (-1), 1) := by decide +kernel
theorem dX11_pass_11 : decode cX11_pass 11 = .ok (.ireturn, 1) := by decide +kernel
theorem dX11_pass_12 : decode cX11_pass 12 = .ok (.aload_n 0, 1) := by decide +kernel
theorem dX11_pass_13 : decode cX11_pass 13 = .ok (.invokevirtual 169, 3) := by decide +kernel
theorem dX11_pass_16 : decode cX11_pass 16 = .ok (.iconst 0, 1) := by decide +kernel
theorem dX11_pass_17 : decode cX11_pass 17 = .ok (.istore_n 2, 1) := by decide +kernel
theorem dX11_pass_18 : decode cX11_pass 18 = .ok (.iload_n 2, 1) := by decide +kernel
theorem dX11_pass_19 : decode cX11_pass 19 = .ok (.iload_n 1, 1) := by decide +kernel
theorem dX11_pass_20 : decode cX11_pass 20 = .ok (.if_icmp .ge 18, 3) := by decide +kernel
theorem dX11_pass_23 : decode cX11_pass 23 = .ok (.aload_n 0, 1) := by decide +kernel
theorem dX11_pass_24 : decode cX11_pass 24 = .ok (.aload_n 0, 1) := by decide +kernel
theorem dX11_pass_25 : decode cX11_pass 25 = .ok (.getfield 34, 3) := by decide +kernel
theorem dX11_pass_28 : decode cX11_pass 28 = .ok (.iconst 1, 1) := by decide +kernel
theorem dX11_pass_29 : decode cX11_pass 29 = .ok (.invokevirtual 172, 3) := by decide +kernel
theorem dX11_pass_32 : decode cX11_pass 32 = .ok (.iinc 2 1, 3) := by decide +kernel
theorem dX11_pass_35 : decode cX11_pass 35 = .ok (.goto (-17), 3) := by decide +kernel
theorem dX11_pass_38 : decode cX11_pass 38 = .ok (.aload_n 0, 1) := by decide +kernel
theorem dX11_pass_39 : decode cX11_pass 39 = .ok (.getfield 34, 3) := by decide +kernel
theorem dX11_pass_42 : decode cX11_pass 42 = .ok (.iconst 0, 1) := by decide +kernel
theorem dX11_pass_43 : decode cX11_pass 43 = .ok (.iaload, 1) := by decide +kernel
theorem dX11_pass_44 : decode cX11_pass 44 = .ok (.ireturn, 1) := by decide +kernel
theorem dX11_teach_0 : decode cX11_teach 0 = .ok (.aload_n 0, 1) := by decide +kernel
theorem dX11_teach_1 : decode cX11_teach 1 = .ok (.iload_n 1, 1) := by decide +kernel
theorem dX11_teach_2 : decode cX11_teach 2 = .ok (.invokevirtual 134, 3) := by decide +kernel
theorem dX11_teach_5 : decode cX11_teach 5 = .ok (.ifCond .eq 16, 3) := by decide +kernel
theorem dX11_teach_8 : decode cX11_teach 8 = .ok (.aload_n 0, 1) := by decide +kernel
theorem dX11_teach_9 : decode cX11_teach 9 = .ok (.iload_n 2, 1) := by decide +kernel
theorem dX11_teach_10 : decode cX11_teach 10 = .ok (.invokevirtual 134, 3) := by decide +kernel
theorem dX11_teach_13 : decode cX11_teach 13 = .ok (.ifCond .eq 8, 3) := by decide +kernel
theorem dX11_teach_16 : decode cX11_teach 16 = .ok (.iload_n 1, 1) := by decide +kernel
theorem dX11_teach_17 : decode cX11_teach 17 = .ok (.iload_n 2, 1) := by decide +kernel
theorem dX11_teach_18 : decode cX11_teach 18 = .ok (.if_icmp .ne 5, 3) := by decide +kernel
theorem dX11_teach_21 : decode cX11_teach 21 = .ok (.iconst (-1), 1) := by decide +kernel
theorem dX11_teach_22 : decode cX11_teach 22 = .ok (.ireturn, 1) := by decide +kernel
theorem dX11_teach_23 : decode cX11_teach 23 = .ok (.aload_n 0, 1) := by decide +kernel
theorem dX11_teach_24 : decode cX11_teach 24 = .ok (.aload_n 0, 1) := by decide +kernel
theorem dX11_teach_25 : decode cX11_teach 25 = .ok (.getfield 34, 3) := by decide +kernel
theorem dX11_teach_28 : decode cX11_teach 28 = .ok (.iload_n 2, 1) := by decide +kernel
theorem dX11_teach_29 : decode cX11_teach 29 = .ok (.invokevirtual 144, 3) := by decide +kernel
theorem dX11_teach_32 : decode cX11_teach 32 = .ok (.ifCond .ne 6, 3) := by decide +kernel
theorem dX11_teach_35 : decode cX11_teach 35 = .ok (.bipush (-2), 2) := by decide +kernel
theorem dX11_teach_37 : decode cX11_teach 37 = .ok (.ireturn, 1) := by decide +kernel
theorem dX11_teach_38 : decode cX11_teach 38 = .ok (.aload_n 0, 1) := by decide +kernel
theorem dX11_teach_39 : decode cX11_teach 39 = .ok (.invokevirtual 169, 3) := by decide +kernel
theorem dX11_teach_42 : decode cX11_teach 42 = .ok (.aload_n 0, 1) := by decide +kernel
theorem dX11_teach_43 : decode cX11_teach 43 = .ok (.aload_n 0, 1) := by decide +kernel
theorem dX11_teach_44 : decode cX11_teach 44 = .ok (.getfield 34, 3) := by decide +kernel
theorem dX11_teach_47 : decode cX11_teach 47 = .ok (.iload_n 1, 1) := by decide +kernel
theorem dX11_teach_48 : decode cX11_teach 48 = .ok (.iload_n 2, 1) := by decide +kernel
theorem dX11_teach_49 : decode cX11_teach 49 = .ok (.invokevirtual 154, 3) := by decide +kernel
theorem dX11_teach_52 : decode cX11_teach 52 = .ok (.aload_n 0, 1) := by decide +kernel
theorem dX11_teach_53 : decode cX11_teach 53 = .ok (.getfield 34, 3) := by decide +kernel
theorem dX11_teach_56 : decode cX11_teach 56 = .ok (.iconst 1, 1) := by decide +kernel
theorem dX11_teach_57 : decode cX11_teach 57 = .ok (.iload_n 2, 1) := by decide +kernel
theorem dX11_teach_58 : decode cX11_teach 58 = .ok (.iadd, 1) := by decide +kernel
theorem dX11_teach_59 : decode cX11_teach 59 = .ok (.iaload, 1) := by decide +kernel
theorem dX11_teach_60 : decode cX11_teach 60 = .ok (.sipush 600, 3) := by decide +kernel
theorem dX11_teach_63 : decode cX11_teach 63 = .ok (.iadd, 1) := by decide +kernel
theorem dX11_teach_64 : decode cX11_teach 64 = .ok (.ireturn, 1) := by decide +kernel
theorem dX11_set_0 : decode cX11_set 0 = .ok (.aload_n 0, 1) := by decide +kernel
theorem dX11_set_1 : decode cX11_set 1 = .ok (.iload_n 1, 1) := by decide +kernel
theorem dX11_set_2 : decode cX11_set 2 = .ok (.invokevirtual 134, 3) := by decide +kernel
theorem dX11_set_5 : decode cX11_set 5 = .ok (.ifCond .ne 5, 3) := by decide +kernel
theorem dX11_set_8 : decode cX11_set 8 = .ok (.iconst (-1), 1) := by decide +kernel
theorem dX11_set_9 : decode cX11_set 9 = .ok (.ireturn, 1) := by decide +kernel
theorem dX11_set_10 : decode cX11_set 10 = .ok (.aload_n 0, 1) := by decide +kernel
theorem dX11_set_11 : decode cX11_set 11 = .ok (.invokevirtual 169, 3) := by decide +kernel
theorem dX11_set_14 : decode cX11_set 14 = .ok (.aload_n 0, 1) := by decide +kernel
theorem dX11_set_15 : decode cX11_set 15 = .ok (.getfield 34, 3) := by decide +kernel
theorem dX11_set_18 : decode cX11_set 18 = .ok (.iconst 1, 1) := by decide +kernel
theorem dX11_set_19 : decode cX11_set 19 = .ok (.iload_n 1, 1) := by decide +kernel
theorem dX11_set_20 : decode cX11_set 20 = .ok (.iadd, 1) := by decide +kernel
theorem dX11_set_21 : decode cX11_set 21 = .ok (.iaload, 1) := by decide +kernel
theorem dX11_set_22 : decode cX11_set 22 = .ok (.istore_n 2, 1) := by decide +kernel
theorem dX11_set_23 : decode cX11_set 23 = .ok (.aload_n 0, 1) := by decide +kernel
theorem dX11_set_24 : decode cX11_set 24 = .ok (.getfield 34, 3) := by decide +kernel
theorem dX11_set_27 : decode cX11_set 27 = .ok (.iconst 1, 1) := by decide +kernel
theorem dX11_set_28 : decode cX11_set 28 = .ok (.iload_n 1, 1) := by decide +kernel
theorem dX11_set_29 : decode cX11_set 29 = .ok (.iadd, 1) := by decide +kernel
theorem dX11_set_30 : decode cX11_set 30 = .ok (.iconst 0, 1) := by decide +kernel
theorem dX11_set_31 : decode cX11_set 31 = .ok (.iastore, 1) := by decide +kernel
theorem dX11_set_32 : decode cX11_set 32 = .ok (.iload_n 2, 1) := by decide +kernel
theorem dX11_set_33 : decode cX11_set 33 = .ok (.sipush 600, 3) := by decide +kernel
theorem dX11_set_36 : decode cX11_set 36 = .ok (.iadd, 1) := by decide +kernel
theorem dX11_set_37 : decode cX11_set 37 = .ok (.ireturn, 1) := by decide +kernel
theorem dX11_oil_0 : decode cX11_oil 0 = .ok (.aload_n 0, 1) := by decide +kernel
theorem dX11_oil_1 : decode cX11_oil 1 = .ok (.iload_n 1, 1) := by decide +kernel
theorem dX11_oil_2 : decode cX11_oil 2 = .ok (.invokevirtual 134, 3) := by decide +kernel
theorem dX11_oil_5 : decode cX11_oil 5 = .ok (.ifCond .ne 5, 3) := by decide +kernel
theorem dX11_oil_8 : decode cX11_oil 8 = .ok (.iconst (-1), 1) := by decide +kernel
theorem dX11_oil_9 : decode cX11_oil 9 = .ok (.ireturn, 1) := by decide +kernel
theorem dX11_oil_10 : decode cX11_oil 10 = .ok (.aload_n 0, 1) := by decide +kernel
theorem dX11_oil_11 : decode cX11_oil 11 = .ok (.getfield 34, 3) := by decide +kernel
theorem dX11_oil_14 : decode cX11_oil 14 = .ok (.bipush 8, 2) := by decide +kernel
theorem dX11_oil_16 : decode cX11_oil 16 = .ok (.iload_n 1, 1) := by decide +kernel
theorem dX11_oil_17 : decode cX11_oil 17 = .ok (.iadd, 1) := by decide +kernel
theorem dX11_oil_18 : decode cX11_oil 18 = .ok (.iaload, 1) := by decide +kernel
theorem dX11_oil_19 : decode cX11_oil 19 = .ok (.ifCond .ne 6, 3) := by decide +kernel
theorem dX11_oil_22 : decode cX11_oil 22 = .ok (.bipush (-2), 2) := by decide +kernel
theorem dX11_oil_24 : decode cX11_oil 24 = .ok (.ireturn, 1) := by decide +kernel
theorem dX11_oil_25 : decode cX11_oil 25 = .ok (.aload_n 0, 1) := by decide +kernel
theorem dX11_oil_26 : decode cX11_oil 26 = .ok (.invokevirtual 169, 3) := by decide +kernel
theorem dX11_oil_29 : decode cX11_oil 29 = .ok (.aload_n 0, 1) := by decide +kernel
theorem dX11_oil_30 : decode cX11_oil 30 = .ok (.getfield 34, 3) := by decide +kernel
theorem dX11_oil_33 : decode cX11_oil 33 = .ok (.bipush 8, 2) := by decide +kernel
theorem dX11_oil_35 : decode cX11_oil 35 = .ok (.iload_n 1, 1) := by decide +kernel
theorem dX11_oil_36 : decode cX11_oil 36 = .ok (.iadd, 1) := by decide +kernel
theorem dX11_oil_37 : decode cX11_oil 37 = .ok (.dup2, 1) := by decide +kernel
theorem dX11_oil_38 : decode cX11_oil 38 = .ok (.iaload, 1) := by decide +kernel
theorem dX11_oil_39 : decode cX11_oil 39 = .ok (.aload_n 0, 1) := by decide +kernel
theorem dX11_oil_40 : decode cX11_oil 40 = .ok (.getfield 34, 3) := by decide +kernel
theorem dX11_oil_43 : decode cX11_oil 43 = .ok (.bipush 8, 2) := by decide +kernel
theorem dX11_oil_45 : decode cX11_oil 45 = .ok (.iload_n 1, 1) := by decide +kernel
theorem dX11_oil_46 : decode cX11_oil 46 = .ok (.iadd, 1) := by decide +kernel
theorem dX11_oil_47 : decode cX11_oil 47 = .ok (.iaload, 1) := by decide +kernel
theorem dX11_oil_48 : decode cX11_oil 48 = .ok (.ifCond .le 7, 3) := by decide +kernel
theorem dX11_oil_51 : decode cX11_oil 51 = .ok (.iconst (-1), 1) := by decide +kernel
theorem dX11_oil_52 : decode cX11_oil 52 = .ok (.goto 4, 3) := by decide +kernel
theorem dX11_oil_55 : decode cX11_oil 55 = .ok (.iconst 1, 1) := by decide +kernel
theorem dX11_oil_56 : decode cX11_oil 56 = .ok (.iadd, 1) := by decide +kernel
theorem dX11_oil_57 : decode cX11_oil 57 = .ok (.iastore, 1) := by decide +kernel
theorem dX11_oil_58 : decode cX11_oil 58 = .ok (.aload_n 0, 1) := by decide +kernel
theorem dX11_oil_59 : decode cX11_oil 59 = .ok (.getfield 34, 3) := by decide +kernel
theorem dX11_oil_62 : decode cX11_oil 62 = .ok (.bipush 8, 2) := by decide +kernel
theorem dX11_oil_64 : decode cX11_oil 64 = .ok (.iload_n 1, 1) := by decide +kernel
theorem dX11_oil_65 : decode cX11_oil 65 = .ok (.iadd, 1) := by decide +kernel
theorem dX11_oil_66 : decode cX11_oil 66 = .ok (.iaload, 1) := by decide +kernel
theorem dX11_oil_67 : decode cX11_oil 67 = .ok (.bipush 10, 2) := by decide +kernel
theorem dX11_oil_69 : decode cX11_oil 69 = .ok (.iadd, 1) := by decide +kernel
theorem dX11_oil_70 : decode cX11_oil 70 = .ok (.ireturn, 1) := by decide +kernel
theorem dX11_undo_0 : decode cX11_undo 0 = .ok (.aload_n 0, 1) := by decide +kernel
theorem dX11_undo_1 : decode cX11_undo 1 = .ok (.getfield 125, 3) := by decide +kernel
theorem dX11_undo_4 : decode cX11_undo 4 = .ok (.ifCond .ne 6, 3) := by decide +kernel
theorem dX11_undo_7 : decode cX11_undo 7 = .ok (.bipush (-2), 2) := by decide +kernel
theorem dX11_undo_9 : decode cX11_undo 9 = .ok (.ireturn, 1) := by decide +kernel
theorem dX11_undo_10 : decode cX11_undo 10 = .ok (.aload_n 0, 1) := by decide +kernel
theorem dX11_undo_11 : decode cX11_undo 11 = .ok (.dup, 1) := by decide +kernel
theorem dX11_undo_12 : decode cX11_undo 12 = .ok (.getfield 125, 3) := by decide +kernel
theorem dX11_undo_15 : decode cX11_undo 15 = .ok (.iconst 1, 1) := by decide +kernel
theorem dX11_undo_16 : decode cX11_undo 16 = .ok (.isub, 1) := by decide +kernel
theorem dX11_undo_17 : decode cX11_undo 17 = .ok (.putfield 125, 3) := by decide +kernel
theorem dX11_undo_20 : decode cX11_undo 20 = .ok (.aload_n 0, 1) := by decide +kernel
theorem dX11_undo_21 : decode cX11_undo 21 = .ok (.getfield 43, 3) := by decide +kernel
theorem dX11_undo_24 : decode cX11_undo 24 = .ok (.bipush 15, 2) := by decide +kernel
theorem dX11_undo_26 : decode cX11_undo 26 = .ok (.aload_n 0, 1) := by decide +kernel
theorem dX11_undo_27 : decode cX11_undo 27 = .ok (.getfield 125, 3) := by decide +kernel
theorem dX11_undo_30 : decode cX11_undo 30 = .ok (.imul, 1) := by decide +kernel
theorem dX11_undo_31 : decode cX11_undo 31 = .ok (.aload_n 0, 1) := by decide +kernel
theorem dX11_undo_32 : decode cX11_undo 32 = .ok (.getfield 34, 3) := by decide +kernel
theorem dX11_undo_35 : decode cX11_undo 35 = .ok (.iconst 0, 1) := by decide +kernel
theorem dX11_undo_36 : decode cX11_undo 36 = .ok (.invokestatic 165, 3) := by decide +kernel
theorem dX11_undo_39 : decode cX11_undo 39 = .ok (.aload_n 0, 1) := by decide +kernel
theorem dX11_undo_40 : decode cX11_undo 40 = .ok (.getfield 125, 3) := by decide +kernel
theorem dX11_undo_43 : decode cX11_undo 43 = .ok (.ireturn, 1) := by decide +kernel
theorem dX11_behind_0 : decode cX11_behind 0 = .ok (.iload_n 1, 1) := by decide +kernel
theorem dX11_behind_1 : decode cX11_behind 1 = .ok (.iconst 0, 1) := by decide +kernel
theorem dX11_behind_2 : decode cX11_behind 2 = .ok (.bipush 60, 2) := by decide +kernel
theorem dX11_behind_4 : decode cX11_behind 4 = .ok (.invokestatic 94, 3) := by decide +kernel
theorem dX11_behind_7 : decode cX11_behind 7 = .ok (.ifCond .eq 17, 3) := by decide +kernel
theorem dX11_behind_10 : decode cX11_behind 10 = .ok (.iload_n 2, 1) := by decide +kernel
theorem dX11_behind_11 : decode cX11_behind 11 = .ok (.iconst (-1), 1) := by decide +kernel
theorem dX11_behind_12 : decode cX11_behind 12 = .ok (.aload_n 0, 1) := by decide +kernel
theorem dX11_behind_13 : decode cX11_behind 13 = .ok (.getfield 91, 3) := by decide +kernel
theorem dX11_behind_16 : decode cX11_behind 16 = .ok (.iconst 1, 1) := by decide +kernel
theorem dX11_behind_17 : decode cX11_behind 17 = .ok (.isub, 1) := by decide +kernel
theorem dX11_behind_18 : decode cX11_behind 18 = .ok (.invokestatic 94, 3) := by decide +kernel
theorem dX11_behind_21 : decode cX11_behind 21 = .ok (.ifCond .ne 5, 3) := by decide +kernel
theorem dX11_behind_24 : decode cX11_behind 24 = .ok (.iconst (-1), 1) := by decide +kernel
theorem dX11_behind_25 : decode cX11_behind 25 = .ok (.ireturn, 1) := by decide +kernel
theorem dX11_behind_26 : decode cX11_behind 26 = .ok (.aload_n 0, 1) := by decide +kernel
theorem dX11_behind_27 : decode cX11_behind 27 = .ok (.getfield 34, 3) := by decide +kernel
theorem dX11_behind_30 : decode cX11_behind 30 = .ok (.iconst 0, 1) := by decide +kernel
theorem dX11_behind_31 : decode cX11_behind 31 = .ok (.aload_n 0, 1) := by decide +kernel
theorem dX11_behind_32 : decode cX11_behind 32 = .ok (.getfield 37, 3) := by decide +kernel
theorem dX11_behind_35 : decode cX11_behind 35 = .ok (.iconst 0, 1) := by decide +kernel
theorem dX11_behind_36 : decode cX11_behind 36 = .ok (.invokestatic 165, 3) := by decide +kernel
theorem dX11_behind_39 : decode cX11_behind 39 = .ok (.iconst 0, 1) := by decide +kernel
theorem dX11_behind_40 : decode cX11_behind 40 = .ok (.istore_n 3, 1) := by decide +kernel
theorem dX11_behind_41 : decode cX11_behind 41 = .ok (.iload_n 3, 1) := by decide +kernel
theorem dX11_behind_42 : decode cX11_behind 42 = .ok (.iload_n 1, 1) := by decide +kernel
theorem dX11_behind_43 : decode cX11_behind 43 = .ok (.if_icmp .ge 18, 3) := by decide +kernel
theorem dX11_behind_46 : decode cX11_behind 46 = .ok (.aload_n 0, 1) := by decide +kernel
theorem dX11_behind_47 : decode cX11_behind 47 = .ok (.aload_n 0, 1) := by decide +kernel
theorem dX11_behind_48 : decode cX11_behind 48 = .ok (.getfield 37, 3) := by decide +kernel
theorem dX11_behind_51 : decode cX11_behind 51 = .ok (.iconst 1, 1) := by decide +kernel
theorem dX11_behind_52 : decode cX11_behind 52 = .ok (.invokevirtual 172, 3) := by decide +kernel
theorem dX11_behind_55 : decode cX11_behind 55 = .ok (.iinc 3 1, 3) := by decide +kernel
theorem dX11_behind_58 : decode cX11_behind 58 = .ok (.goto (-17), 3) := by decide +kernel
theorem dX11_behind_61 : decode cX11_behind 61 = .ok (.iload_n 2, 1) := by decide +kernel
theorem dX11_behind_62 : decode cX11_behind 62 = .ok (.ifCond .ge 14, 3) := by decide +kernel
theorem dX11_behind_65 : decode cX11_behind 65 = .ok (.aload_n 0, 1) := by decide +kernel
theorem dX11_behind_66 : decode cX11_behind 66 = .ok (.aload_n 0, 1) := by decide +kernel
theorem dX11_behind_67 : decode cX11_behind 67 = .ok (.getfield 37, 3) := by decide +kernel
theorem dX11_behind_70 : decode cX11_behind 70 = .ok (.invokevirtual 140, 3) := by decide +kernel
theorem dX11_behind_73 : decode cX11_behind 73 = .ok (.goto 11, 3) := by decide +kernel
theorem dX11_behind_76 : decode cX11_behind 76 = .ok (.aload_n 0, 1) := by decide +kernel
theorem dX11_behind_77 : decode cX11_behind 77 = .ok (.getfield 37, 3) := by decide +kernel
theorem dX11_behind_80 : decode cX11_behind 80 = .ok (.iconst 1, 1) := by decide +kernel
theorem dX11_behind_81 : decode cX11_behind 81 = .ok (.iload_n 2, 1) := by decide +kernel
theorem dX11_behind_82 : decode cX11_behind 82 = .ok (.iadd, 1) := by decide +kernel
theorem dX11_behind_83 : decode cX11_behind 83 = .ok (.iaload, 1) := by decide +kernel
theorem dX11_behind_84 : decode cX11_behind 84 = .ok (.sipush 600, 3) := by decide +kernel
theorem dX11_behind_87 : decode cX11_behind 87 = .ok (.iadd, 1) := by decide +kernel
theorem dX11_behind_88 : decode cX11_behind 88 = .ok (.ireturn, 1) := by decide +kernel
theorem dX11_areRight_0 : decode cX11_areRight 0 = .ok (.iconst 1, 1) := by decide +kernel
theorem dX11_areRight_1 : decode cX11_areRight 1 = .ok (.istore_n 3, 1) := by decide +kernel
theorem dX11_areRight_2 : decode cX11_areRight 2 = .ok (.iconst 0, 1) := by decide +kernel
theorem dX11_areRight_3 : decode cX11_areRight 3 = .ok (.istore 4, 2) := by decide +kernel
theorem dX11_areRight_5 : decode cX11_areRight 5 = .ok (.iload 4, 2) := by decide +kernel
theorem dX11_areRight_7 : decode cX11_areRight 7 = .ok (.aload_n 0, 1) := by decide +kernel
theorem dX11_areRight_8 : decode cX11_areRight 8 = .ok (.getfield 91, 3) := by decide +kernel
theorem dX11_areRight_11 : decode cX11_areRight 11 = .ok (.if_icmp .ge 32, 3) := by decide +kernel
theorem dX11_areRight_14 : decode cX11_areRight 14 = .ok (.iload_n 3, 1) := by decide +kernel
theorem dX11_areRight_15 : decode cX11_areRight 15 = .ok (.ifCond .eq 20, 3) := by decide +kernel
theorem dX11_areRight_18 : decode cX11_areRight 18 = .ok (.aload_n 1, 1) := by decide +kernel
theorem dX11_areRight_19 : decode cX11_areRight 19 = .ok (.iconst 1, 1) := by decide +kernel
theorem dX11_areRight_20 : decode cX11_areRight 20 = .ok (.iload 4, 2) := by decide +kernel
theorem dX11_areRight_22 : decode cX11_areRight 22 = .ok (.iadd, 1) := by decide +kernel
theorem dX11_areRight_23 : decode cX11_areRight 23 = .ok (.iaload, 1) := by decide +kernel
theorem dX11_areRight_24 : decode cX11_areRight 24 = .ok (.invokestatic 151, 3) := by decide +kernel
theorem dX11_areRight_27 : decode cX11_areRight 27 = .ok (.iload_n 2, 1) := by decide +kernel
theorem dX11_areRight_28 : decode cX11_areRight 28 = .ok (.if_icmp .gt 7, 3) := by decide +kernel
theorem dX11_areRight_31 : decode cX11_areRight 31 = .ok (.iconst 1, 1) := by decide +kernel
theorem dX11_areRight_32 : decode cX11_areRight 32 = .ok (.goto 4, 3) := by decide +kernel
theorem dX11_areRight_35 : decode cX11_areRight 35 = .ok (.iconst 0, 1) := by decide +kernel
theorem dX11_areRight_36 : decode cX11_areRight 36 = .ok (.istore_n 3, 1) := by decide +kernel
theorem dX11_areRight_37 : decode cX11_areRight 37 = .ok (.iinc 4 1, 3) := by decide +kernel
theorem dX11_areRight_40 : decode cX11_areRight 40 = .ok (.goto (-35), 3) := by decide +kernel
theorem dX11_areRight_43 : decode cX11_areRight 43 = .ok (.iload_n 3, 1) := by decide +kernel
theorem dX11_areRight_44 : decode cX11_areRight 44 = .ok (.ireturn, 1) := by decide +kernel
theorem dX11_teaches_0 : decode cX11_teaches 0 = .ok (.iload_n 2, 1) := by decide +kernel
theorem dX11_teaches_1 : decode cX11_teaches 1 = .ok (.bipush 10, 2) := by decide +kernel
theorem dX11_teaches_3 : decode cX11_teaches 3 = .ok (.idiv, 1) := by decide +kernel
theorem dX11_teaches_4 : decode cX11_teaches 4 = .ok (.istore_n 3, 1) := by decide +kernel
theorem dX11_teaches_5 : decode cX11_teaches 5 = .ok (.iload_n 2, 1) := by decide +kernel
theorem dX11_teaches_6 : decode cX11_teaches 6 = .ok (.bipush 10, 2) := by decide +kernel
theorem dX11_teaches_8 : decode cX11_teaches 8 = .ok (.irem, 1) := by decide +kernel
theorem dX11_teaches_9 : decode cX11_teaches 9 = .ok (.istore 4, 2) := by decide +kernel
theorem dX11_teaches_11 : decode cX11_teaches 11 = .ok (.iload_n 3, 1) := by decide +kernel
theorem dX11_teaches_12 : decode cX11_teaches 12 = .ok (.aload_n 0, 1) := by decide +kernel
theorem dX11_teaches_13 : decode cX11_teaches 13 = .ok (.getfield 91, 3) := by decide +kernel
theorem dX11_teaches_16 : decode cX11_teaches 16 = .ok (.if_icmp .ge 28, 3) := by decide +kernel
theorem dX11_teaches_19 : decode cX11_teaches 19 = .ok (.iload 4, 2) := by decide +kernel
theorem dX11_teaches_21 : decode cX11_teaches 21 = .ok (.aload_n 0, 1) := by decide +kernel
theorem dX11_teaches_22 : decode cX11_teaches 22 = .ok (.getfield 91, 3) := by decide +kernel
theorem dX11_teaches_25 : decode cX11_teaches 25 = .ok (.if_icmp .ge 19, 3) := by decide +kernel
theorem dX11_teaches_28 : decode cX11_teaches 28 = .ok (.iload_n 3, 1) := by decide +kernel
theorem dX11_teaches_29 : decode cX11_teaches 29 = .ok (.iload 4, 2) := by decide +kernel
theorem dX11_teaches_31 : decode cX11_teaches 31 = .ok (.if_icmp .eq 13, 3) := by decide +kernel
theorem dX11_teaches_34 : decode cX11_teaches 34 = .ok (.aload_n 0, 1) := by decide +kernel
theorem dX11_teaches_35 : decode cX11_teaches 35 = .ok (.aload_n 1, 1) := by decide +kernel
theorem dX11_teaches_36 : decode cX11_teaches 36 = .ok (.iload 4, 2) := by decide +kernel
theorem dX11_teaches_38 : decode cX11_teaches 38 = .ok (.invokevirtual 144, 3) := by decide +kernel
theorem dX11_teaches_41 : decode cX11_teaches 41 = .ok (.ifCond .ne 5, 3) := by decide +kernel
theorem dX11_teaches_44 : decode cX11_teaches 44 = .ok (.iconst 0, 1) := by decide +kernel
theorem dX11_teaches_45 : decode cX11_teaches 45 = .ok (.ireturn, 1) := by decide +kernel
theorem dX11_teaches_46 : decode cX11_teaches 46 = .ok (.aload_n 0, 1) := by decide +kernel
theorem dX11_teaches_47 : decode cX11_teaches 47 = .ok (.aload_n 1, 1) := by decide +kernel
theorem dX11_teaches_48 : decode cX11_teaches 48 = .ok (.iload_n 3, 1) := by decide +kernel
theorem dX11_teaches_49 : decode cX11_teaches 49 = .ok (.iload 4, 2) := by decide +kernel
theorem dX11_teaches_51 : decode cX11_teaches 51 = .ok (.invokevirtual 154, 3) := by decide +kernel
theorem dX11_teaches_54 : decode cX11_teaches 54 = .ok (.iconst 1, 1) := by decide +kernel
theorem dX11_teaches_55 : decode cX11_teaches 55 = .ok (.ireturn, 1) := by decide +kernel
theorem dX11_layRight_0 : decode cX11_layRight 0 = .ok (.aload_n 0, 1) := by decide +kernel
theorem dX11_layRight_1 : decode cX11_layRight 1 = .ok (.iconst 0, 1) := by decide +kernel
theorem dX11_layRight_2 : decode cX11_layRight 2 = .ok (.putfield 176, 3) := by decide +kernel
theorem dX11_layRight_5 : decode cX11_layRight 5 = .ok (.aload_n 0, 1) := by decide +kernel
theorem dX11_layRight_6 : decode cX11_layRight 6 = .ok (.aload_n 0, 1) := by decide +kernel
theorem dX11_layRight_7 : decode cX11_layRight 7 = .ok (.getfield 34, 3) := by decide +kernel
theorem dX11_layRight_10 : decode cX11_layRight 10 = .ok (.iload_n 1, 1) := by decide +kernel
theorem dX11_layRight_11 : decode cX11_layRight 11 = .ok (.invokevirtual 179, 3) := by decide +kernel
theorem dX11_layRight_14 : decode cX11_layRight 14 = .ok (.ifCond .eq 4, 3) := by decide +kernel
theorem dX11_layRight_17 : decode cX11_layRight 17 = .ok (.return_, 1) := by decide +kernel
theorem dX11_layRight_18 : decode cX11_layRight 18 = .ok (.iconst 0, 1) := by decide +kernel
theorem dX11_layRight_19 : decode cX11_layRight 19 = .ok (.istore_n 2, 1) := by decide +kernel
theorem dX11_layRight_20 : decode cX11_layRight 20 = .ok (.iload_n 2, 1) := by decide +kernel
theorem dX11_layRight_21 : decode cX11_layRight 21 = .ok (.bipush 70, 2) := by decide +kernel
theorem dX11_layRight_23 : decode cX11_layRight 23 = .ok (.if_icmp .ge 59, 3) := by decide +kernel
theorem dX11_layRight_26 : decode cX11_layRight 26 = .ok (.aload_n 0, 1) := by decide +kernel
theorem dX11_layRight_27 : decode cX11_layRight 27 = .ok (.getfield 34, 3) := by decide +kernel
theorem dX11_layRight_30 : decode cX11_layRight 30 = .ok (.iconst 0, 1) := by decide +kernel
theorem dX11_layRight_31 : decode cX11_layRight 31 = .ok (.aload_n 0, 1) := by decide +kernel
theorem dX11_layRight_32 : decode cX11_layRight 32 = .ok (.getfield 37, 3) := by decide +kernel
theorem dX11_layRight_35 : decode cX11_layRight 35 = .ok (.iconst 0, 1) := by decide +kernel
theorem dX11_layRight_36 : decode cX11_layRight 36 = .ok (.invokestatic 165, 3) := by decide +kernel
theorem dX11_layRight_39 : decode cX11_layRight 39 = .ok (.aload_n 0, 1) := by decide +kernel
theorem dX11_layRight_40 : decode cX11_layRight 40 = .ok (.aload_n 0, 1) := by decide +kernel
theorem dX11_layRight_41 : decode cX11_layRight 41 = .ok (.getfield 37, 3) := by decide +kernel
theorem dX11_layRight_44 : decode cX11_layRight 44 = .ok (.iload_n 2, 1) := by decide +kernel
theorem dX11_layRight_45 : decode cX11_layRight 45 = .ok (.invokevirtual 182, 3) := by decide +kernel
theorem dX11_layRight_48 : decode cX11_layRight 48 = .ok (.ifCond .eq 28, 3) := by decide +kernel
theorem dX11_layRight_51 : decode cX11_layRight 51 = .ok (.aload_n 0, 1) := by decide +kernel
theorem dX11_layRight_52 : decode cX11_layRight 52 = .ok (.aload_n 0, 1) := by decide +kernel
theorem dX11_layRight_53 : decode cX11_layRight 53 = .ok (.getfield 37, 3) := by decide +kernel
theorem dX11_layRight_56 : decode cX11_layRight 56 = .ok (.iload_n 1, 1) := by decide +kernel
theorem dX11_layRight_57 : decode cX11_layRight 57 = .ok (.invokevirtual 179, 3) := by decide +kernel
theorem dX11_layRight_60 : decode cX11_layRight 60 = .ok (.ifCond .eq 16, 3) := by decide +kernel
theorem dX11_layRight_63 : decode cX11_layRight 63 = .ok (.aload_n 0, 1) := by decide +kernel
theorem dX11_layRight_64 : decode cX11_layRight 64 = .ok (.iconst 1, 1) := by decide +kernel
theorem dX11_layRight_65 : decode cX11_layRight 65 = .ok (.putfield 176, 3) := by decide +kernel
theorem dX11_layRight_68 : decode cX11_layRight 68 = .ok (.aload_n 0, 1) := by decide +kernel
theorem dX11_layRight_69 : decode cX11_layRight 69 = .ok (.getfield 52, 3) := by decide +kernel
theorem dX11_layRight_72 : decode cX11_layRight 72 = .ok (.iconst 0, 1) := by decide +kernel
theorem dX11_layRight_73 : decode cX11_layRight 73 = .ok (.iload_n 2, 1) := by decide +kernel
theorem dX11_layRight_74 : decode cX11_layRight 74 = .ok (.iastore, 1) := by decide +kernel
theorem dX11_layRight_75 : decode cX11_layRight 75 = .ok (.return_, 1) := by decide +kernel
theorem dX11_layRight_76 : decode cX11_layRight 76 = .ok (.iinc 2 1, 3) := by decide +kernel
theorem dX11_layRight_79 : decode cX11_layRight 79 = .ok (.goto (-59), 3) := by decide +kernel
theorem dX11_layRight_82 : decode cX11_layRight 82 = .ok (.iconst 0, 1) := by decide +kernel
theorem dX11_layRight_83 : decode cX11_layRight 83 = .ok (.istore_n 2, 1) := by decide +kernel
theorem dX11_layRight_84 : decode cX11_layRight 84 = .ok (.iload_n 2, 1) := by decide +kernel
theorem dX11_layRight_85 : decode cX11_layRight 85 = .ok (.bipush 70, 2) := by decide +kernel
theorem dX11_layRight_87 : decode cX11_layRight 87 = .ok (.if_icmp .ge 110, 3) := by decide +kernel
theorem dX11_layRight_90 : decode cX11_layRight 90 = .ok (.aload_n 0, 1) := by decide +kernel
theorem dX11_layRight_91 : decode cX11_layRight 91 = .ok (.getfield 34, 3) := by decide +kernel
theorem dX11_layRight_94 : decode cX11_layRight 94 = .ok (.iconst 0, 1) := by decide +kernel
theorem dX11_layRight_95 : decode cX11_layRight 95 = .ok (.aload_n 0, 1) := by decide +kernel
theorem dX11_layRight_96 : decode cX11_layRight 96 = .ok (.getfield 37, 3) := by decide +kernel
theorem dX11_layRight_99 : decode cX11_layRight 99 = .ok (.iconst 0, 1) := by decide +kernel
theorem dX11_layRight_100 : decode cX11_layRight 100 = .ok (.invokestatic 165, 3) := by decide +kernel
theorem dX11_layRight_103 : decode cX11_layRight 103 = .ok (.aload_n 0, 1) := by decide +kernel
theorem dX11_layRight_104 : decode cX11_layRight 104 = .ok (.aload_n 0, 1) := by decide +kernel
theorem dX11_layRight_105 : decode cX11_layRight 105 = .ok (.getfield 37, 3) := by decide +kernel
theorem dX11_layRight_108 : decode cX11_layRight 108 = .ok (.iload_n 2, 1) := by decide +kernel
theorem dX11_layRight_109 : decode cX11_layRight 109 = .ok (.invokevirtual 182, 3) := by decide +kernel
theorem dX11_layRight_112 : decode cX11_layRight 112 = .ok (.ifCond .eq 7, 3) := by decide +kernel
theorem dX11_layRight_115 : decode cX11_layRight 115 = .ok (.iconst 0, 1) := by decide +kernel
theorem dX11_layRight_116 : decode cX11_layRight 116 = .ok (.goto 5, 3) := by decide +kernel
theorem dX11_layRight_119 : decode cX11_layRight 119 = .ok (.bipush 70, 2) := by decide +kernel
theorem dX11_layRight_121 : decode cX11_layRight 121 = .ok (.istore_n 3, 1) := by decide +kernel
theorem dX11_layRight_122 : decode cX11_layRight 122 = .ok (.iload_n 3, 1) := by decide +kernel
theorem dX11_layRight_123 : decode cX11_layRight 123 = .ok (.bipush 70, 2) := by decide +kernel
theorem dX11_layRight_125 : decode cX11_layRight 125 = .ok (.if_icmp .ge 66, 3) := by decide +kernel
theorem dX11_layRight_128 : decode cX11_layRight 128 = .ok (.aload_n 0, 1) := by decide +kernel
theorem dX11_layRight_129 : decode cX11_layRight 129 = .ok (.getfield 37, 3) := by decide +kernel
theorem dX11_layRight_132 : decode cX11_layRight 132 = .ok (.iconst 0, 1) := by decide +kernel
theorem dX11_layRight_133 : decode cX11_layRight 133 = .ok (.aload_n 0, 1) := by decide +kernel
theorem dX11_layRight_134 : decode cX11_layRight 134 = .ok (.getfield 40, 3) := by decide +kernel
theorem dX11_layRight_137 : decode cX11_layRight 137 = .ok (.iconst 0, 1) := by decide +kernel
theorem dX11_layRight_138 : decode cX11_layRight 138 = .ok (.invokestatic 165, 3) := by decide +kernel
theorem dX11_layRight_141 : decode cX11_layRight 141 = .ok (.aload_n 0, 1) := by decide +kernel
theorem dX11_layRight_142 : decode cX11_layRight 142 = .ok (.aload_n 0, 1) := by decide +kernel
theorem dX11_layRight_143 : decode cX11_layRight 143 = .ok (.getfield 40, 3) := by decide +kernel
theorem dX11_layRight_146 : decode cX11_layRight 146 = .ok (.iload_n 3, 1) := by decide +kernel
theorem dX11_layRight_147 : decode cX11_layRight 147 = .ok (.invokevirtual 182, 3) := by decide +kernel
theorem dX11_layRight_150 : decode cX11_layRight 150 = .ok (.ifCond .eq 35, 3) := by decide +kernel
theorem dX11_layRight_153 : decode cX11_layRight 153 = .ok (.aload_n 0, 1) := by decide +kernel
theorem dX11_layRight_154 : decode cX11_layRight 154 = .ok (.aload_n 0, 1) := by decide +kernel
theorem dX11_layRight_155 : decode cX11_layRight 155 = .ok (.getfield 40, 3) := by decide +kernel
theorem dX11_layRight_158 : decode cX11_layRight 158 = .ok (.iload_n 1, 1) := by decide +kernel
theorem dX11_layRight_159 : decode cX11_layRight 159 = .ok (.invokevirtual 179, 3) := by decide +kernel
theorem dX11_layRight_162 : decode cX11_layRight 162 = .ok (.ifCond .eq 23, 3) := by decide +kernel
theorem dX11_layRight_165 : decode cX11_layRight 165 = .ok (.aload_n 0, 1) := by decide +kernel
theorem dX11_layRight_166 : decode cX11_layRight 166 = .ok (.iconst 2, 1) := by decide +kernel
theorem dX11_layRight_167 : decode cX11_layRight 167 = .ok (.putfield 176, 3) := by decide +kernel
theorem dX11_layRight_170 : decode cX11_layRight 170 = .ok (.aload_n 0, 1) := by decide +kernel
theorem dX11_layRight_171 : decode cX11_layRight 171 = .ok (.getfield 52, 3) := by decide +kernel
theorem dX11_layRight_174 : decode cX11_layRight 174 = .ok (.iconst 0, 1) := by decide +kernel
theorem dX11_layRight_175 : decode cX11_layRight 175 = .ok (.iload_n 2, 1) := by decide +kernel
theorem dX11_layRight_176 : decode cX11_layRight 176 = .ok (.iastore, 1) := by decide +kernel
theorem dX11_layRight_177 : decode cX11_layRight 177 = .ok (.aload_n 0, 1) := by decide +kernel
theorem dX11_layRight_178 : decode cX11_layRight 178 = .ok (.getfield 52, 3) := by decide +kernel
theorem dX11_layRight_181 : decode cX11_layRight 181 = .ok (.iconst 1, 1) := by decide +kernel
theorem dX11_layRight_182 : decode cX11_layRight 182 = .ok (.iload_n 3, 1) := by decide +kernel
theorem dX11_layRight_183 : decode cX11_layRight 183 = .ok (.iastore, 1) := by decide +kernel
theorem dX11_layRight_184 : decode cX11_layRight 184 = .ok (.return_, 1) := by decide +kernel
theorem dX11_layRight_185 : decode cX11_layRight 185 = .ok (.iinc 3 1, 3) := by decide +kernel
theorem dX11_layRight_188 : decode cX11_layRight 188 = .ok (.goto (-66), 3) := by decide +kernel
theorem dX11_layRight_191 : decode cX11_layRight 191 = .ok (.iinc 2 1, 3) := by decide +kernel
theorem dX11_layRight_194 : decode cX11_layRight 194 = .ok (.goto (-110), 3) := by decide +kernel
theorem dX11_layRight_197 : decode cX11_layRight 197 = .ok (.aload_n 0, 1) := by decide +kernel
theorem dX11_layRight_198 : decode cX11_layRight 198 = .ok (.bipush (-4), 2) := by decide +kernel
theorem dX11_layRight_200 : decode cX11_layRight 200 = .ok (.putfield 176, 3) := by decide +kernel
theorem dX11_layRight_203 : decode cX11_layRight 203 = .ok (.return_, 1) := by decide +kernel
theorem dX11_right_0 : decode cX11_right 0 = .ok (.iload_n 1, 1) := by decide +kernel
theorem dX11_right_1 : decode cX11_right 1 = .ok (.iconst 0, 1) := by decide +kernel
theorem dX11_right_2 : decode cX11_right 2 = .ok (.bipush 100, 2) := by decide +kernel
theorem dX11_right_4 : decode cX11_right 4 = .ok (.invokestatic 94, 3) := by decide +kernel
theorem dX11_right_7 : decode cX11_right 7 = .ok (.ifCond .eq 12, 3) := by decide +kernel
theorem dX11_right_10 : decode cX11_right 10 = .ok (.iload_n 2, 1) := by decide +kernel
theorem dX11_right_11 : decode cX11_right 11 = .ok (.iconst 0, 1) := by decide +kernel
theorem dX11_right_12 : decode cX11_right 12 = .ok (.iconst 2, 1) := by decide +kernel
theorem dX11_right_13 : decode cX11_right 13 = .ok (.invokestatic 94, 3) := by decide +kernel
theorem dX11_right_16 : decode cX11_right 16 = .ok (.ifCond .ne 5, 3) := by decide +kernel
theorem dX11_right_19 : decode cX11_right 19 = .ok (.iconst (-1), 1) := by decide +kernel
theorem dX11_right_20 : decode cX11_right 20 = .ok (.ireturn, 1) := by decide +kernel
theorem dX11_right_21 : decode cX11_right 21 = .ok (.aload_n 0, 1) := by decide +kernel
theorem dX11_right_22 : decode cX11_right 22 = .ok (.iload_n 1, 1) := by decide +kernel
theorem dX11_right_23 : decode cX11_right 23 = .ok (.invokevirtual 185, 3) := by decide +kernel
theorem dX11_right_26 : decode cX11_right 26 = .ok (.iload_n 2, 1) := by decide +kernel
theorem dX11_right_27 : decode cX11_right 27 = .ok (.ifCond .ne 10, 3) := by decide +kernel
theorem dX11_right_30 : decode cX11_right 30 = .ok (.aload_n 0, 1) := by decide +kernel
theorem dX11_right_31 : decode cX11_right 31 = .ok (.getfield 176, 3) := by decide +kernel
theorem dX11_right_34 : decode cX11_right 34 = .ok (.goto 24, 3) := by decide +kernel
theorem dX11_right_37 : decode cX11_right 37 = .ok (.iload_n 2, 1) := by decide +kernel
theorem dX11_right_38 : decode cX11_right 38 = .ok (.aload_n 0, 1) := by decide +kernel
theorem dX11_right_39 : decode cX11_right 39 = .ok (.getfield 176, 3) := by decide +kernel
theorem dX11_right_42 : decode cX11_right 42 = .ok (.if_icmp .gt 14, 3) := by decide +kernel
theorem dX11_right_45 : decode cX11_right 45 = .ok (.aload_n 0, 1) := by decide +kernel
theorem dX11_right_46 : decode cX11_right 46 = .ok (.getfield 52, 3) := by decide +kernel
theorem dX11_right_49 : decode cX11_right 49 = .ok (.iload_n 2, 1) := by decide +kernel
theorem dX11_right_50 : decode cX11_right 50 = .ok (.iconst 1, 1) := by decide +kernel
theorem dX11_right_51 : decode cX11_right 51 = .ok (.isub, 1) := by decide +kernel
theorem dX11_right_52 : decode cX11_right 52 = .ok (.iaload, 1) := by decide +kernel
theorem dX11_right_53 : decode cX11_right 53 = .ok (.goto 5, 3) := by decide +kernel
theorem dX11_right_56 : decode cX11_right 56 = .ok (.bipush (-4), 2) := by decide +kernel
theorem dX11_right_58 : decode cX11_right 58 = .ok (.ireturn, 1) := by decide +kernel
theorem dX11_layOrder_0 : decode cX11_layOrder 0 = .ok (.iload_n 1, 1) := by decide +kernel
theorem dX11_layOrder_1 : decode cX11_layOrder 1 = .ok (.istore_n 2, 1) := by decide +kernel
theorem dX11_layOrder_2 : decode cX11_layOrder 2 = .ok (.iconst 1, 1) := by decide +kernel
theorem dX11_layOrder_3 : decode cX11_layOrder 3 = .ok (.istore_n 3, 1) := by decide +kernel
theorem dX11_layOrder_4 : decode cX11_layOrder 4 = .ok (.iconst 2, 1) := by decide +kernel
theorem dX11_layOrder_5 : decode cX11_layOrder 5 = .ok (.istore 4, 2) := by decide +kernel
theorem dX11_layOrder_7 : decode cX11_layOrder 7 = .ok (.iload 4, 2) := by decide +kernel
theorem dX11_layOrder_9 : decode cX11_layOrder 9 = .ok (.aload_n 0, 1) := by decide +kernel
theorem dX11_layOrder_10 : decode cX11_layOrder 10 = .ok (.getfield 91, 3) := by decide +kernel
theorem dX11_layOrder_13 : decode cX11_layOrder 13 = .ok (.iconst 1, 1) := by decide +kernel
theorem dX11_layOrder_14 : decode cX11_layOrder 14 = .ok (.isub, 1) := by decide +kernel
theorem dX11_layOrder_15 : decode cX11_layOrder 15 = .ok (.if_icmp .ge 14, 3) := by decide +kernel
theorem dX11_layOrder_18 : decode cX11_layOrder 18 = .ok (.iload_n 3, 1) := by decide +kernel
theorem dX11_layOrder_19 : decode cX11_layOrder 19 = .ok (.iload 4, 2) := by decide +kernel
theorem dX11_layOrder_21 : decode cX11_layOrder 21 = .ok (.imul, 1) := by decide +kernel
theorem dX11_layOrder_22 : decode cX11_layOrder 22 = .ok (.istore_n 3, 1) := by decide +kernel
theorem dX11_layOrder_23 : decode cX11_layOrder 23 = .ok (.iinc 4 1, 3) := by decide +kernel
theorem dX11_layOrder_26 : decode cX11_layOrder 26 = .ok (.goto (-19), 3) := by decide +kernel
theorem dX11_layOrder_29 : decode cX11_layOrder 29 = .ok (.iconst 1, 1) := by decide +kernel
theorem dX11_layOrder_30 : decode cX11_layOrder 30 = .ok (.istore 4, 2) := by decide +kernel
theorem dX11_layOrder_32 : decode cX11_layOrder 32 = .ok (.aload_n 0, 1) := by decide +kernel
theorem dX11_layOrder_33 : decode cX11_layOrder 33 = .ok (.getfield 55, 3) := by decide +kernel
theorem dX11_layOrder_36 : decode cX11_layOrder 36 = .ok (.iconst 0, 1) := by decide +kernel
theorem dX11_layOrder_37 : decode cX11_layOrder 37 = .ok (.iconst 0, 1) := by decide +kernel
theorem dX11_layOrder_38 : decode cX11_layOrder 38 = .ok (.iastore, 1) := by decide +kernel
theorem dX11_layOrder_39 : decode cX11_layOrder 39 = .ok (.iconst 1, 1) := by decide +kernel
theorem dX11_layOrder_40 : decode cX11_layOrder 40 = .ok (.istore 5, 2) := by decide +kernel
theorem dX11_layOrder_42 : decode cX11_layOrder 42 = .ok (.iload 5, 2) := by decide +kernel
theorem dX11_layOrder_44 : decode cX11_layOrder 44 = .ok (.aload_n 0, 1) := by decide +kernel
theorem dX11_layOrder_45 : decode cX11_layOrder 45 = .ok (.getfield 91, 3) := by decide +kernel
theorem dX11_layOrder_48 : decode cX11_layOrder 48 = .ok (.if_icmp .ge 108, 3) := by decide +kernel
theorem dX11_layOrder_51 : decode cX11_layOrder 51 = .ok (.iload_n 2, 1) := by decide +kernel
theorem dX11_layOrder_52 : decode cX11_layOrder 52 = .ok (.iload_n 3, 1) := by decide +kernel
theorem dX11_layOrder_53 : decode cX11_layOrder 53 = .ok (.idiv, 1) := by decide +kernel
theorem dX11_layOrder_54 : decode cX11_layOrder 54 = .ok (.istore 6, 2) := by decide +kernel
theorem dX11_layOrder_56 : decode cX11_layOrder 56 = .ok (.iload_n 2, 1) := by decide +kernel
theorem dX11_layOrder_57 : decode cX11_layOrder 57 = .ok (.iload_n 3, 1) := by decide +kernel
theorem dX11_layOrder_58 : decode cX11_layOrder 58 = .ok (.irem, 1) := by decide +kernel
theorem dX11_layOrder_59 : decode cX11_layOrder 59 = .ok (.istore_n 2, 1) := by decide +kernel
theorem dX11_layOrder_60 : decode cX11_layOrder 60 = .ok (.iload_n 3, 1) := by decide +kernel
theorem dX11_layOrder_61 : decode cX11_layOrder 61 = .ok (.aload_n 0, 1) := by decide +kernel
theorem dX11_layOrder_62 : decode cX11_layOrder 62 = .ok (.getfield 91, 3) := by decide +kernel
theorem dX11_layOrder_65 : decode cX11_layOrder 65 = .ok (.iconst 1, 1) := by decide +kernel
theorem dX11_layOrder_66 : decode cX11_layOrder 66 = .ok (.isub, 1) := by decide +kernel
theorem dX11_layOrder_67 : decode cX11_layOrder 67 = .ok (.iload 5, 2) := by decide +kernel
theorem dX11_layOrder_69 : decode cX11_layOrder 69 = .ok (.isub, 1) := by decide +kernel
theorem dX11_layOrder_70 : decode cX11_layOrder 70 = .ok (.ifCond .le 15, 3) := by decide +kernel
theorem dX11_layOrder_73 : decode cX11_layOrder 73 = .ok (.aload_n 0, 1) := by decide +kernel
theorem dX11_layOrder_74 : decode cX11_layOrder 74 = .ok (.getfield 91, 3) := by decide +kernel
theorem dX11_layOrder_77 : decode cX11_layOrder 77 = .ok (.iconst 1, 1) := by decide +kernel
theorem dX11_layOrder_78 : decode cX11_layOrder 78 = .ok (.isub, 1) := by decide +kernel
theorem dX11_layOrder_79 : decode cX11_layOrder 79 = .ok (.iload 5, 2) := by decide +kernel
theorem dX11_layOrder_81 : decode cX11_layOrder 81 = .ok (.isub, 1) := by decide +kernel
theorem dX11_layOrder_82 : decode cX11_layOrder 82 = .ok (.goto 4, 3) := by decide +kernel
theorem dX11_layOrder_85 : decode cX11_layOrder 85 = .ok (.iconst 1, 1) := by decide +kernel
theorem dX11_layOrder_86 : decode cX11_layOrder 86 = .ok (.idiv, 1) := by decide +kernel
theorem dX11_layOrder_87 : decode cX11_layOrder 87 = .ok (.istore_n 3, 1) := by decide +kernel
theorem dX11_layOrder_88 : decode cX11_layOrder 88 = .ok (.iconst 0, 1) := by decide +kernel
theorem dX11_layOrder_89 : decode cX11_layOrder 89 = .ok (.istore 7, 2) := by decide +kernel
theorem dX11_layOrder_91 : decode cX11_layOrder 91 = .ok (.iload 4, 2) := by decide +kernel
theorem dX11_layOrder_93 : decode cX11_layOrder 93 = .ok (.iload 7, 2) := by decide +kernel
theorem dX11_layOrder_95 : decode cX11_layOrder 95 = .ok (.invokestatic 158, 3) := by decide +kernel
theorem dX11_layOrder_98 : decode cX11_layOrder 98 = .ok (.ifCond .ne 8, 3) := by decide +kernel
theorem dX11_layOrder_101 : decode cX11_layOrder 101 = .ok (.iload 6, 2) := by decide +kernel
theorem dX11_layOrder_103 : decode cX11_layOrder 103 = .ok (.ifCond .le 29, 3) := by decide +kernel
theorem dX11_layOrder_106 : decode cX11_layOrder 106 = .ok (.iload 6, 2) := by decide +kernel
theorem dX11_layOrder_108 : decode cX11_layOrder 108 = .ok (.iload 4, 2) := by decide +kernel
theorem dX11_layOrder_110 : decode cX11_layOrder 110 = .ok (.iload 7, 2) := by decide +kernel
theorem dX11_layOrder_112 : decode cX11_layOrder 112 = .ok (.invokestatic 158, 3) := by decide +kernel
theorem dX11_layOrder_115 : decode cX11_layOrder 115 = .ok (.ifCond .eq 7, 3) := by decide +kernel
theorem dX11_layOrder_118 : decode cX11_layOrder 118 = .ok (.iconst 0, 1) := by decide +kernel
theorem dX11_layOrder_119 : decode cX11_layOrder 119 = .ok (.goto 4, 3) := by decide +kernel
theorem dX11_layOrder_122 : decode cX11_layOrder 122 = .ok (.iconst 1, 1) := by decide +kernel
theorem dX11_layOrder_123 : decode cX11_layOrder 123 = .ok (.isub, 1) := by decide +kernel
theorem dX11_layOrder_124 : decode cX11_layOrder 124 = .ok (.istore 6, 2) := by decide +kernel
theorem dX11_layOrder_126 : decode cX11_layOrder 126 = .ok (.iinc 7 1, 3) := by decide +kernel
theorem dX11_layOrder_129 : decode cX11_layOrder 129 = .ok (.goto (-38), 3) := by decide +kernel
theorem dX11_layOrder_132 : decode cX11_layOrder 132 = .ok (.aload_n 0, 1) := by decide +kernel
theorem dX11_layOrder_133 : decode cX11_layOrder 133 = .ok (.getfield 55, 3) := by decide +kernel
theorem dX11_layOrder_136 : decode cX11_layOrder 136 = .ok (.iload 5, 2) := by decide +kernel
theorem dX11_layOrder_138 : decode cX11_layOrder 138 = .ok (.iload 7, 2) := by decide +kernel
theorem dX11_layOrder_140 : decode cX11_layOrder 140 = .ok (.iastore, 1) := by decide +kernel
theorem dX11_layOrder_141 : decode cX11_layOrder 141 = .ok (.iload 4, 2) := by decide +kernel
theorem dX11_layOrder_143 : decode cX11_layOrder 143 = .ok (.iconst 1, 1) := by decide +kernel
theorem dX11_layOrder_144 : decode cX11_layOrder 144 = .ok (.iload 7, 2) := by decide +kernel
theorem dX11_layOrder_146 : decode cX11_layOrder 146 = .ok (.ishl, 1) := by decide +kernel
theorem dX11_layOrder_147 : decode cX11_layOrder 147 = .ok (.ior, 1) := by decide +kernel
theorem dX11_layOrder_148 : decode cX11_layOrder 148 = .ok (.istore 4, 2) := by decide +kernel
theorem dX11_layOrder_150 : decode cX11_layOrder 150 = .ok (.iinc 5 1, 3) := by decide +kernel
theorem dX11_layOrder_153 : decode cX11_layOrder 153 = .ok (.goto (-111), 3) := by decide +kernel
theorem dX11_layOrder_156 : decode cX11_layOrder 156 = .ok (.return_, 1) := by decide +kernel
theorem dX11_allWrong_0 : decode cX11_allWrong 0 = .ok (.iconst 0, 1) := by decide +kernel
theorem dX11_allWrong_1 : decode cX11_allWrong 1 = .ok (.istore_n 2, 1) := by decide +kernel
theorem dX11_allWrong_2 : decode cX11_allWrong 2 = .ok (.iconst 0, 1) := by decide +kernel
theorem dX11_allWrong_3 : decode cX11_allWrong 3 = .ok (.istore_n 3, 1) := by decide +kernel
theorem dX11_allWrong_4 : decode cX11_allWrong 4 = .ok (.iload_n 3, 1) := by decide +kernel
theorem dX11_allWrong_5 : decode cX11_allWrong 5 = .ok (.aload_n 0, 1) := by decide +kernel
theorem dX11_allWrong_6 : decode cX11_allWrong 6 = .ok (.getfield 91, 3) := by decide +kernel
theorem dX11_allWrong_9 : decode cX11_allWrong 9 = .ok (.if_icmp .ge 20, 3) := by decide +kernel
theorem dX11_allWrong_12 : decode cX11_allWrong 12 = .ok (.iload_n 2, 1) := by decide +kernel
theorem dX11_allWrong_13 : decode cX11_allWrong 13 = .ok (.aload_n 1, 1) := by decide +kernel
theorem dX11_allWrong_14 : decode cX11_allWrong 14 = .ok (.iconst 1, 1) := by decide +kernel
theorem dX11_allWrong_15 : decode cX11_allWrong 15 = .ok (.iload_n 3, 1) := by decide +kernel
theorem dX11_allWrong_16 : decode cX11_allWrong 16 = .ok (.iadd, 1) := by decide +kernel
theorem dX11_allWrong_17 : decode cX11_allWrong 17 = .ok (.iaload, 1) := by decide +kernel
theorem dX11_allWrong_18 : decode cX11_allWrong 18 = .ok (.invokestatic 151, 3) := by decide +kernel
theorem dX11_allWrong_21 : decode cX11_allWrong 21 = .ok (.iadd, 1) := by decide +kernel
theorem dX11_allWrong_22 : decode cX11_allWrong 22 = .ok (.istore_n 2, 1) := by decide +kernel
theorem dX11_allWrong_23 : decode cX11_allWrong 23 = .ok (.iinc 3 1, 3) := by decide +kernel
theorem dX11_allWrong_26 : decode cX11_allWrong 26 = .ok (.goto (-22), 3) := by decide +kernel
theorem dX11_allWrong_29 : decode cX11_allWrong 29 = .ok (.iload_n 2, 1) := by decide +kernel
theorem dX11_allWrong_30 : decode cX11_allWrong 30 = .ok (.ireturn, 1) := by decide +kernel
theorem dX11_ring_0 : decode cX11_ring 0 = .ok (.iload_n 1, 1) := by decide +kernel
theorem dX11_ring_1 : decode cX11_ring 1 = .ok (.iconst 0, 1) := by decide +kernel
theorem dX11_ring_2 : decode cX11_ring 2 = .ok (.bipush 7, 2) := by decide +kernel
theorem dX11_ring_4 : decode cX11_ring 4 = .ok (.invokestatic 94, 3) := by decide +kernel
theorem dX11_ring_7 : decode cX11_ring 7 = .ok (.ifCond .ne 5, 3) := by decide +kernel
theorem dX11_ring_10 : decode cX11_ring 10 = .ok (.iconst (-1), 1) := by decide +kernel
theorem dX11_ring_11 : decode cX11_ring 11 = .ok (.ireturn, 1) := by decide +kernel
theorem dX11_ring_12 : decode cX11_ring 12 = .ok (.iconst 1, 1) := by decide +kernel
theorem dX11_ring_13 : decode cX11_ring 13 = .ok (.istore_n 2, 1) := by decide +kernel
theorem dX11_ring_14 : decode cX11_ring 14 = .ok (.iconst 2, 1) := by decide +kernel
theorem dX11_ring_15 : decode cX11_ring 15 = .ok (.istore_n 3, 1) := by decide +kernel
theorem dX11_ring_16 : decode cX11_ring 16 = .ok (.iload_n 3, 1) := by decide +kernel
theorem dX11_ring_17 : decode cX11_ring 17 = .ok (.aload_n 0, 1) := by decide +kernel
theorem dX11_ring_18 : decode cX11_ring 18 = .ok (.getfield 91, 3) := by decide +kernel
theorem dX11_ring_21 : decode cX11_ring 21 = .ok (.if_icmp .ge 13, 3) := by decide +kernel
theorem dX11_ring_24 : decode cX11_ring 24 = .ok (.iload_n 2, 1) := by decide +kernel
theorem dX11_ring_25 : decode cX11_ring 25 = .ok (.iload_n 3, 1) := by decide +kernel
theorem dX11_ring_26 : decode cX11_ring 26 = .ok (.imul, 1) := by decide +kernel
theorem dX11_ring_27 : decode cX11_ring 27 = .ok (.istore_n 2, 1) := by decide +kernel
theorem dX11_ring_28 : decode cX11_ring 28 = .ok (.iinc 3 1, 3) := by decide +kernel
theorem dX11_ring_31 : decode cX11_ring 31 = .ok (.goto (-15), 3) := by decide +kernel
theorem dX11_ring_34 : decode cX11_ring 34 = .ok (.bipush (-4), 2) := by decide +kernel
theorem dX11_ring_36 : decode cX11_ring 36 = .ok (.istore_n 3, 1) := by decide +kernel
theorem dX11_ring_37 : decode cX11_ring 37 = .ok (.iconst 0, 1) := by decide +kernel
theorem dX11_ring_38 : decode cX11_ring 38 = .ok (.istore 4, 2) := by decide +kernel
theorem dX11_ring_40 : decode cX11_ring 40 = .ok (.iload 4, 2) := by decide +kernel
theorem dX11_ring_42 : decode cX11_ring 42 = .ok (.iload_n 2, 1) := by decide +kernel
theorem dX11_ring_43 : decode cX11_ring 43 = .ok (.if_icmp .ge 125, 3) := by decide +kernel
theorem dX11_ring_46 : decode cX11_ring 46 = .ok (.aload_n 0, 1) := by decide +kernel
theorem dX11_ring_47 : decode cX11_ring 47 = .ok (.iload 4, 2) := by decide +kernel
theorem dX11_ring_49 : decode cX11_ring 49 = .ok (.invokevirtual 189, 3) := by decide +kernel
theorem dX11_ring_52 : decode cX11_ring 52 = .ok (.aload_n 0, 1) := by decide +kernel
theorem dX11_ring_53 : decode cX11_ring 53 = .ok (.getfield 34, 3) := by decide +kernel
theorem dX11_ring_56 : decode cX11_ring 56 = .ok (.iconst 0, 1) := by decide +kernel
theorem dX11_ring_57 : decode cX11_ring 57 = .ok (.aload_n 0, 1) := by decide +kernel
theorem dX11_ring_58 : decode cX11_ring 58 = .ok (.getfield 37, 3) := by decide +kernel
theorem dX11_ring_61 : decode cX11_ring 61 = .ok (.iconst 0, 1) := by decide +kernel
theorem dX11_ring_62 : decode cX11_ring 62 = .ok (.invokestatic 165, 3) := by decide +kernel
theorem dX11_ring_65 : decode cX11_ring 65 = .ok (.iconst 1, 1) := by decide +kernel
theorem dX11_ring_66 : decode cX11_ring 66 = .ok (.istore 5, 2) := by decide +kernel
theorem dX11_ring_68 : decode cX11_ring 68 = .ok (.iload 5, 2) := by decide +kernel
theorem dX11_ring_70 : decode cX11_ring 70 = .ok (.aload_n 0, 1) := by decide +kernel
theorem dX11_ring_71 : decode cX11_ring 71 = .ok (.getfield 91, 3) := by decide +kernel
theorem dX11_ring_74 : decode cX11_ring 74 = .ok (.if_icmp .ge 33, 3) := by decide +kernel
theorem dX11_ring_77 : decode cX11_ring 77 = .ok (.aload_n 0, 1) := by decide +kernel
theorem dX11_ring_78 : decode cX11_ring 78 = .ok (.aload_n 0, 1) := by decide +kernel
theorem dX11_ring_79 : decode cX11_ring 79 = .ok (.getfield 37, 3) := by decide +kernel
theorem dX11_ring_82 : decode cX11_ring 82 = .ok (.aload_n 0, 1) := by decide +kernel
theorem dX11_ring_83 : decode cX11_ring 83 = .ok (.getfield 55, 3) := by decide +kernel
theorem dX11_ring_86 : decode cX11_ring 86 = .ok (.iload 5, 2) := by decide +kernel
theorem dX11_ring_88 : decode cX11_ring 88 = .ok (.iconst 1, 1) := by decide +kernel
theorem dX11_ring_89 : decode cX11_ring 89 = .ok (.isub, 1) := by decide +kernel
theorem dX11_ring_90 : decode cX11_ring 90 = .ok (.iaload, 1) := by decide +kernel
theorem dX11_ring_91 : decode cX11_ring 91 = .ok (.aload_n 0, 1) := by decide +kernel
theorem dX11_ring_92 : decode cX11_ring 92 = .ok (.getfield 55, 3) := by decide +kernel
theorem dX11_ring_95 : decode cX11_ring 95 = .ok (.iload 5, 2) := by decide +kernel
theorem dX11_ring_97 : decode cX11_ring 97 = .ok (.iaload, 1) := by decide +kernel
theorem dX11_ring_98 : decode cX11_ring 98 = .ok (.invokevirtual 154, 3) := by decide +kernel
theorem dX11_ring_101 : decode cX11_ring 101 = .ok (.iinc 5 1, 3) := by decide +kernel
theorem dX11_ring_104 : decode cX11_ring 104 = .ok (.goto (-36), 3) := by decide +kernel
theorem dX11_ring_107 : decode cX11_ring 107 = .ok (.aload_n 0, 1) := by decide +kernel
theorem dX11_ring_108 : decode cX11_ring 108 = .ok (.aload_n 0, 1) := by decide +kernel
theorem dX11_ring_109 : decode cX11_ring 109 = .ok (.getfield 37, 3) := by decide +kernel
theorem dX11_ring_112 : decode cX11_ring 112 = .ok (.invokevirtual 192, 3) := by decide +kernel
theorem dX11_ring_115 : decode cX11_ring 115 = .ok (.istore 5, 2) := by decide +kernel
theorem dX11_ring_117 : decode cX11_ring 117 = .ok (.iload_n 3, 1) := by decide +kernel
theorem dX11_ring_118 : decode cX11_ring 118 = .ok (.ifCond .lt 9, 3) := by decide +kernel
theorem dX11_ring_121 : decode cX11_ring 121 = .ok (.iload 5, 2) := by decide +kernel
theorem dX11_ring_123 : decode cX11_ring 123 = .ok (.iload_n 3, 1) := by decide +kernel
theorem dX11_ring_124 : decode cX11_ring 124 = .ok (.if_icmp .ge 38, 3) := by decide +kernel
theorem dX11_ring_127 : decode cX11_ring 127 = .ok (.iload 5, 2) := by decide +kernel
theorem dX11_ring_129 : decode cX11_ring 129 = .ok (.istore_n 3, 1) := by decide +kernel
theorem dX11_ring_130 : decode cX11_ring 130 = .ok (.iconst 0, 1) := by decide +kernel
theorem dX11_ring_131 : decode cX11_ring 131 = .ok (.istore 6, 2) := by decide +kernel
theorem dX11_ring_133 : decode cX11_ring 133 = .ok (.iload 6, 2) := by decide +kernel
theorem dX11_ring_135 : decode cX11_ring 135 = .ok (.aload_n 0, 1) := by decide +kernel
theorem dX11_ring_136 : decode cX11_ring 136 = .ok (.getfield 91, 3) := by decide +kernel
theorem dX11_ring_139 : decode cX11_ring 139 = .ok (.if_icmp .ge 23, 3) := by decide +kernel
theorem dX11_ring_142 : decode cX11_ring 142 = .ok (.aload_n 0, 1) := by decide +kernel
theorem dX11_ring_143 : decode cX11_ring 143 = .ok (.getfield 58, 3) := by decide +kernel
theorem dX11_ring_146 : decode cX11_ring 146 = .ok (.iload 6, 2) := by decide +kernel
theorem dX11_ring_148 : decode cX11_ring 148 = .ok (.aload_n 0, 1) := by decide +kernel
theorem dX11_ring_149 : decode cX11_ring 149 = .ok (.getfield 55, 3) := by decide +kernel
theorem dX11_ring_152 : decode cX11_ring 152 = .ok (.iload 6, 2) := by decide +kernel
theorem dX11_ring_154 : decode cX11_ring 154 = .ok (.iaload, 1) := by decide +kernel
theorem dX11_ring_155 : decode cX11_ring 155 = .ok (.iastore, 1) := by decide +kernel
theorem dX11_ring_156 : decode cX11_ring 156 = .ok (.iinc 6 1, 3) := by decide +kernel
theorem dX11_ring_159 : decode cX11_ring 159 = .ok (.goto (-26), 3) := by decide +kernel
theorem dX11_ring_162 : decode cX11_ring 162 = .ok (.iinc 4 1, 3) := by decide +kernel
theorem dX11_ring_165 : decode cX11_ring 165 = .ok (.goto (-125), 3) := by decide +kernel
theorem dX11_ring_168 : decode cX11_ring 168 = .ok (.iload_n 1, 1) := by decide +kernel
theorem dX11_ring_169 : decode cX11_ring 169 = .ok (.ifCond .ne 7, 3) := by decide +kernel
theorem dX11_ring_172 : decode cX11_ring 172 = .ok (.iload_n 3, 1) := by decide +kernel
theorem dX11_ring_173 : decode cX11_ring 173 = .ok (.goto 24, 3) := by decide +kernel
theorem dX11_ring_176 : decode cX11_ring 176 = .ok (.iload_n 1, 1) := by decide +kernel
theorem dX11_ring_177 : decode cX11_ring 177 = .ok (.aload_n 0, 1) := by decide +kernel
theorem dX11_ring_178 : decode cX11_ring 178 = .ok (.getfield 91, 3) := by decide +kernel
theorem dX11_ring_181 : decode cX11_ring 181 = .ok (.if_icmp .gt 14, 3) := by decide +kernel
theorem dX11_ring_184 : decode cX11_ring 184 = .ok (.aload_n 0, 1) := by decide +kernel
theorem dX11_ring_185 : decode cX11_ring 185 = .ok (.getfield 58, 3) := by decide +kernel
theorem dX11_ring_188 : decode cX11_ring 188 = .ok (.iload_n 1, 1) := by decide +kernel
theorem dX11_ring_189 : decode cX11_ring 189 = .ok (.iconst 1, 1) := by decide +kernel
theorem dX11_ring_190 : decode cX11_ring 190 = .ok (.isub, 1) := by decide +kernel
theorem dX11_ring_191 : decode cX11_ring 191 = .ok (.iaload, 1) := by decide +kernel
theorem dX11_ring_192 : decode cX11_ring 192 = .ok (.goto 5, 3) := by decide +kernel
theorem dX11_ring_195 : decode cX11_ring 195 = .ok (.bipush (-4), 2) := by decide +kernel
theorem dX11_ring_197 : decode cX11_ring 197 = .ok (.ireturn, 1) := by decide +kernel
theorem dX11_dull_0 : decode cX11_dull 0 = .ok (.iconst 0, 1) := by decide +kernel
theorem dX11_dull_1 : decode cX11_dull 1 = .ok (.istore_n 1, 1) := by decide +kernel
theorem dX11_dull_2 : decode cX11_dull 2 = .ok (.iconst 0, 1) := by decide +kernel
theorem dX11_dull_3 : decode cX11_dull 3 = .ok (.istore_n 2, 1) := by decide +kernel
theorem dX11_dull_4 : decode cX11_dull 4 = .ok (.iload_n 2, 1) := by decide +kernel
theorem dX11_dull_5 : decode cX11_dull 5 = .ok (.aload_n 0, 1) := by decide +kernel
theorem dX11_dull_6 : decode cX11_dull 6 = .ok (.getfield 91, 3) := by decide +kernel
theorem dX11_dull_9 : decode cX11_dull 9 = .ok (.if_icmp .ge 124, 3) := by decide +kernel
theorem dX11_dull_12 : decode cX11_dull 12 = .ok (.aload_n 0, 1) := by decide +kernel
theorem dX11_dull_13 : decode cX11_dull 13 = .ok (.getfield 34, 3) := by decide +kernel
theorem dX11_dull_16 : decode cX11_dull 16 = .ok (.iconst 1, 1) := by decide +kernel
theorem dX11_dull_17 : decode cX11_dull 17 = .ok (.iload_n 2, 1) := by decide +kernel
theorem dX11_dull_18 : decode cX11_dull 18 = .ok (.iadd, 1) := by decide +kernel
theorem dX11_dull_19 : decode cX11_dull 19 = .ok (.iaload, 1) := by decide +kernel
theorem dX11_dull_20 : decode cX11_dull 20 = .ok (.ifCond .eq 7, 3) := by decide +kernel
theorem dX11_dull_23 : decode cX11_dull 23 = .ok (.iconst 1, 1) := by decide +kernel
theorem dX11_dull_24 : decode cX11_dull 24 = .ok (.goto 4, 3) := by decide +kernel
theorem dX11_dull_27 : decode cX11_dull 27 = .ok (.iconst 0, 1) := by decide +kernel
theorem dX11_dull_28 : decode cX11_dull 28 = .ok (.istore_n 3, 1) := by decide +kernel
theorem dX11_dull_29 : decode cX11_dull 29 = .ok (.iconst 0, 1) := by decide +kernel
theorem dX11_dull_30 : decode cX11_dull 30 = .ok (.istore 4, 2) := by decide +kernel
theorem dX11_dull_32 : decode cX11_dull 32 = .ok (.iload 4, 2) := by decide +kernel
theorem dX11_dull_34 : decode cX11_dull 34 = .ok (.aload_n 0, 1) := by decide +kernel
theorem dX11_dull_35 : decode cX11_dull 35 = .ok (.getfield 91, 3) := by decide +kernel
theorem dX11_dull_38 : decode cX11_dull 38 = .ok (.if_icmp .ge 75, 3) := by decide +kernel
theorem dX11_dull_41 : decode cX11_dull 41 = .ok (.iload_n 3, 1) := by decide +kernel
theorem dX11_dull_42 : decode cX11_dull 42 = .ok (.ifCond .eq 71, 3) := by decide +kernel
theorem dX11_dull_45 : decode cX11_dull 45 = .ok (.aload_n 0, 1) := by decide +kernel
theorem dX11_dull_46 : decode cX11_dull 46 = .ok (.getfield 34, 3) := by decide +kernel
theorem dX11_dull_49 : decode cX11_dull 49 = .ok (.iconst 0, 1) := by decide +kernel
theorem dX11_dull_50 : decode cX11_dull 50 = .ok (.aload_n 0, 1) := by decide +kernel
theorem dX11_dull_51 : decode cX11_dull 51 = .ok (.getfield 37, 3) := by decide +kernel
theorem dX11_dull_54 : decode cX11_dull 54 = .ok (.iconst 0, 1) := by decide +kernel
theorem dX11_dull_55 : decode cX11_dull 55 = .ok (.invokestatic 165, 3) := by decide +kernel
theorem dX11_dull_58 : decode cX11_dull 58 = .ok (.aload_n 0, 1) := by decide +kernel
theorem dX11_dull_59 : decode cX11_dull 59 = .ok (.aload_n 0, 1) := by decide +kernel
theorem dX11_dull_60 : decode cX11_dull 60 = .ok (.getfield 37, 3) := by decide +kernel
theorem dX11_dull_63 : decode cX11_dull 63 = .ok (.bipush 10, 2) := by decide +kernel
theorem dX11_dull_65 : decode cX11_dull 65 = .ok (.iload 4, 2) := by decide +kernel
theorem dX11_dull_67 : decode cX11_dull 67 = .ok (.imul, 1) := by decide +kernel
theorem dX11_dull_68 : decode cX11_dull 68 = .ok (.iload_n 2, 1) := by decide +kernel
theorem dX11_dull_69 : decode cX11_dull 69 = .ok (.iadd, 1) := by decide +kernel
theorem dX11_dull_70 : decode cX11_dull 70 = .ok (.invokevirtual 182, 3) := by decide +kernel
theorem dX11_dull_73 : decode cX11_dull 73 = .ok (.ifCond .eq 28, 3) := by decide +kernel
theorem dX11_dull_76 : decode cX11_dull 76 = .ok (.aload_n 0, 1) := by decide +kernel
theorem dX11_dull_77 : decode cX11_dull 77 = .ok (.getfield 37, 3) := by decide +kernel
theorem dX11_dull_80 : decode cX11_dull 80 = .ok (.iconst 1, 1) := by decide +kernel
theorem dX11_dull_81 : decode cX11_dull 81 = .ok (.iload_n 2, 1) := by decide +kernel
theorem dX11_dull_82 : decode cX11_dull 82 = .ok (.iadd, 1) := by decide +kernel
theorem dX11_dull_83 : decode cX11_dull 83 = .ok (.iaload, 1) := by decide +kernel
theorem dX11_dull_84 : decode cX11_dull 84 = .ok (.invokestatic 151, 3) := by decide +kernel
theorem dX11_dull_87 : decode cX11_dull 87 = .ok (.aload_n 0, 1) := by decide +kernel
theorem dX11_dull_88 : decode cX11_dull 88 = .ok (.getfield 34, 3) := by decide +kernel
theorem dX11_dull_91 : decode cX11_dull 91 = .ok (.iconst 1, 1) := by decide +kernel
theorem dX11_dull_92 : decode cX11_dull 92 = .ok (.iload_n 2, 1) := by decide +kernel
theorem dX11_dull_93 : decode cX11_dull 93 = .ok (.iadd, 1) := by decide +kernel
theorem dX11_dull_94 : decode cX11_dull 94 = .ok (.iaload, 1) := by decide +kernel
theorem dX11_dull_95 : decode cX11_dull 95 = .ok (.invokestatic 151, 3) := by decide +kernel
theorem dX11_dull_98 : decode cX11_dull 98 = .ok (.if_icmp .lt 7, 3) := by decide +kernel
theorem dX11_dull_101 : decode cX11_dull 101 = .ok (.iconst 1, 1) := by decide +kernel
theorem dX11_dull_102 : decode cX11_dull 102 = .ok (.goto 4, 3) := by decide +kernel
theorem dX11_dull_105 : decode cX11_dull 105 = .ok (.iconst 0, 1) := by decide +kernel
theorem dX11_dull_106 : decode cX11_dull 106 = .ok (.istore_n 3, 1) := by decide +kernel
theorem dX11_dull_107 : decode cX11_dull 107 = .ok (.iinc 4 1, 3) := by decide +kernel
theorem dX11_dull_110 : decode cX11_dull 110 = .ok (.goto (-78), 3) := by decide +kernel
theorem dX11_dull_113 : decode cX11_dull 113 = .ok (.iload_n 1, 1) := by decide +kernel
theorem dX11_dull_114 : decode cX11_dull 114 = .ok (.iload_n 3, 1) := by decide +kernel
theorem dX11_dull_115 : decode cX11_dull 115 = .ok (.ifCond .eq 9, 3) := by decide +kernel
theorem dX11_dull_118 : decode cX11_dull 118 = .ok (.iconst 1, 1) := by decide +kernel
theorem dX11_dull_119 : decode cX11_dull 119 = .ok (.iload_n 2, 1) := by decide +kernel
theorem dX11_dull_120 : decode cX11_dull 120 = .ok (.ishl, 1) := by decide +kernel
theorem dX11_dull_121 : decode cX11_dull 121 = .ok (.goto 4, 3) := by decide +kernel
theorem dX11_dull_124 : decode cX11_dull 124 = .ok (.iconst 0, 1) := by decide +kernel
theorem dX11_dull_125 : decode cX11_dull 125 = .ok (.ior, 1) := by decide +kernel
theorem dX11_dull_126 : decode cX11_dull 126 = .ok (.istore_n 1, 1) := by decide +kernel
theorem dX11_dull_127 : decode cX11_dull 127 = .ok (.iinc 2 1, 3) := by decide +kernel
theorem dX11_dull_130 : decode cX11_dull 130 = .ok (.goto (-126), 3) := by decide +kernel
theorem dX11_dull_133 : decode cX11_dull 133 = .ok (.iload_n 1, 1) := by decide +kernel
theorem dX11_dull_134 : decode cX11_dull 134 = .ok (.ireturn, 1) := by decide +kernel
theorem dX11_layPairs_0 : decode cX11_layPairs 0 = .ok (.bipush (-4), 2) := by decide +kernel
theorem dX11_layPairs_2 : decode cX11_layPairs 2 = .ok (.istore_n 1, 1) := by decide +kernel
theorem dX11_layPairs_3 : decode cX11_layPairs 3 = .ok (.iconst 0, 1) := by decide +kernel
theorem dX11_layPairs_4 : decode cX11_layPairs 4 = .ok (.istore_n 2, 1) := by decide +kernel
theorem dX11_layPairs_5 : decode cX11_layPairs 5 = .ok (.iload_n 2, 1) := by decide +kernel
theorem dX11_layPairs_6 : decode cX11_layPairs 6 = .ok (.bipush 105, 2) := by decide +kernel
theorem dX11_layPairs_8 : decode cX11_layPairs 8 = .ok (.if_icmp .ge 384, 3) := by decide +kernel
theorem dX11_layPairs_11 : decode cX11_layPairs 11 = .ok (.iload_n 2, 1) := by decide +kernel
theorem dX11_layPairs_12 : decode cX11_layPairs 12 = .ok (.istore_n 3, 1) := by decide +kernel
theorem dX11_layPairs_13 : decode cX11_layPairs 13 = .ok (.iconst 0, 1) := by decide +kernel
theorem dX11_layPairs_14 : decode cX11_layPairs 14 = .ok (.istore 4, 2) := by decide +kernel
theorem dX11_layPairs_16 : decode cX11_layPairs 16 = .ok (.iconst 0, 1) := by decide +kernel
theorem dX11_layPairs_17 : decode cX11_layPairs 17 = .ok (.istore 5, 2) := by decide +kernel
theorem dX11_layPairs_19 : decode cX11_layPairs 19 = .ok (.iconst 1, 1) := by decide +kernel
theorem dX11_layPairs_20 : decode cX11_layPairs 20 = .ok (.istore 6, 2) := by decide +kernel
theorem dX11_layPairs_22 : decode cX11_layPairs 22 = .ok (.bipush 15, 2) := by decide +kernel
theorem dX11_layPairs_24 : decode cX11_layPairs 24 = .ok (.istore 7, 2) := by decide +kernel
theorem dX11_layPairs_26 : decode cX11_layPairs 26 = .ok (.bipush 7, 2) := by decide +kernel
theorem dX11_layPairs_28 : decode cX11_layPairs 28 = .ok (.istore 8, 2) := by decide +kernel
theorem dX11_layPairs_30 : decode cX11_layPairs 30 = .ok (.iconst 0, 1) := by decide +kernel
theorem dX11_layPairs_31 : decode cX11_layPairs 31 = .ok (.istore 9, 2) := by decide +kernel
theorem dX11_layPairs_33 : decode cX11_layPairs 33 = .ok (.iload 9, 2) := by decide +kernel
theorem dX11_layPairs_35 : decode cX11_layPairs 35 = .ok (.iconst 4, 1) := by decide +kernel
theorem dX11_layPairs_36 : decode cX11_layPairs 36 = .ok (.if_icmp .ge 300, 3) := by decide +kernel
theorem dX11_layPairs_39 : decode cX11_layPairs 39 = .ok (.iconst 0, 1) := by decide +kernel
theorem dX11_layPairs_40 : decode cX11_layPairs 40 = .ok (.istore 10, 2) := by decide +kernel
theorem dX11_layPairs_42 : decode cX11_layPairs 42 = .ok (.iload 10, 2) := by decide +kernel
theorem dX11_layPairs_44 : decode cX11_layPairs 44 = .ok (.aload_n 0, 1) := by decide +kernel
theorem dX11_layPairs_45 : decode cX11_layPairs 45 = .ok (.getfield 91, 3) := by decide +kernel
theorem dX11_layPairs_48 : decode cX11_layPairs 48 = .ok (.if_icmp .ge 19, 3) := by decide +kernel
theorem dX11_layPairs_51 : decode cX11_layPairs 51 = .ok (.iload 4, 2) := by decide +kernel
theorem dX11_layPairs_53 : decode cX11_layPairs 53 = .ok (.iload 10, 2) := by decide +kernel
theorem dX11_layPairs_55 : decode cX11_layPairs 55 = .ok (.invokestatic 158, 3) := by decide +kernel
theorem dX11_layPairs_58 : decode cX11_layPairs 58 = .ok (.ifCond .eq 9, 3) := by decide +kernel
theorem dX11_layPairs_61 : decode cX11_layPairs 61 = .ok (.iinc 10 1, 3) := by decide +kernel
theorem dX11_layPairs_64 : decode cX11_layPairs 64 = .ok (.goto (-22), 3) := by decide +kernel
theorem dX11_layPairs_67 : decode cX11_layPairs 67 = .ok (.iload_n 3, 1) := by decide +kernel
theorem dX11_layPairs_68 : decode cX11_layPairs 68 = .ok (.iload 7, 2) := by decide +kernel
theorem dX11_layPairs_70 : decode cX11_layPairs 70 = .ok (.idiv, 1) := by decide +kernel
theorem dX11_layPairs_71 : decode cX11_layPairs 71 = .ok (.istore 11, 2) := by decide +kernel
theorem dX11_layPairs_73 : decode cX11_layPairs 73 = .ok (.iload_n 3, 1) := by decide +kernel
theorem dX11_layPairs_74 : decode cX11_layPairs 74 = .ok (.iload 7, 2) := by decide +kernel
theorem dX11_layPairs_76 : decode cX11_layPairs 76 = .ok (.irem, 1) := by decide +kernel
theorem dX11_layPairs_77 : decode cX11_layPairs 77 = .ok (.istore_n 3, 1) := by decide +kernel
theorem dX11_layPairs_78 : decode cX11_layPairs 78 = .ok (.iinc 8 (-2), 3) := by decide +kernel
theorem dX11_layPairs_81 : decode cX11_layPairs 81 = .ok (.iload 7, 2) := by decide +kernel
theorem dX11_layPairs_83 : decode cX11_layPairs 83 = .ok (.iload 8, 2) := by decide +kernel
theorem dX11_layPairs_85 : decode cX11_layPairs 85 = .ok (.iconst 1, 1) := by decide +kernel
theorem dX11_layPairs_86 : decode cX11_layPairs 86 = .ok (.if_icmp .le 8, 3) := by decide +kernel
theorem dX11_layPairs_89 : decode cX11_layPairs 89 = .ok (.iload 8, 2) := by decide +kernel
theorem dX11_layPairs_91 : decode cX11_layPairs 91 = .ok (.goto 4, 3) := by decide +kernel
theorem dX11_layPairs_94 : decode cX11_layPairs 94 = .ok (.iconst 1, 1) := by decide +kernel
theorem dX11_layPairs_95 : decode cX11_layPairs 95 = .ok (.idiv, 1) := by decide +kernel
theorem dX11_layPairs_96 : decode cX11_layPairs 96 = .ok (.istore 7, 2) := by decide +kernel
theorem dX11_layPairs_98 : decode cX11_layPairs 98 = .ok (.iload 10, 2) := by decide +kernel
theorem dX11_layPairs_100 : decode cX11_layPairs 100 = .ok (.aload_n 0, 1) := by decide +kernel
theorem dX11_layPairs_101 : decode cX11_layPairs 101 = .ok (.getfield 91, 3) := by decide +kernel
theorem dX11_layPairs_104 : decode cX11_layPairs 104 = .ok (.if_icmp .ne 23, 3) := by decide +kernel
theorem dX11_layPairs_107 : decode cX11_layPairs 107 = .ok (.iload 6, 2) := by decide +kernel
theorem dX11_layPairs_109 : decode cX11_layPairs 109 = .ok (.ifCond .eq 12, 3) := by decide +kernel
theorem dX11_layPairs_112 : decode cX11_layPairs 112 = .ok (.iload 11, 2) := by decide +kernel
theorem dX11_layPairs_114 : decode cX11_layPairs 114 = .ok (.ifCond .ne 7, 3) := by decide +kernel
theorem dX11_layPairs_117 : decode cX11_layPairs 117 = .ok (.iconst 1, 1) := by decide +kernel
theorem dX11_layPairs_118 : decode cX11_layPairs 118 = .ok (.goto 4, 3) := by decide +kernel
theorem dX11_layPairs_121 : decode cX11_layPairs 121 = .ok (.iconst 0, 1) := by decide +kernel
theorem dX11_layPairs_122 : decode cX11_layPairs 122 = .ok (.istore 6, 2) := by decide +kernel
theorem dX11_layPairs_124 : decode cX11_layPairs 124 = .ok (.goto 206, 3) := by decide +kernel
theorem dX11_layPairs_127 : decode cX11_layPairs 127 = .ok (.iload 10, 2) := by decide +kernel
theorem dX11_layPairs_129 : decode cX11_layPairs 129 = .ok (.iconst 1, 1) := by decide +kernel
theorem dX11_layPairs_130 : decode cX11_layPairs 130 = .ok (.iadd, 1) := by decide +kernel
theorem dX11_layPairs_131 : decode cX11_layPairs 131 = .ok (.istore 12, 2) := by decide +kernel
theorem dX11_layPairs_133 : decode cX11_layPairs 133 = .ok (.iload 11, 2) := by decide +kernel
theorem dX11_layPairs_135 : decode cX11_layPairs 135 = .ok (.istore 13, 2) := by decide +kernel
theorem dX11_layPairs_137 : decode cX11_layPairs 137 = .ok (.iload 12, 2) := by decide +kernel
theorem dX11_layPairs_139 : decode cX11_layPairs 139 = .ok (.aload_n 0, 1) := by decide +kernel
theorem dX11_layPairs_140 : decode cX11_layPairs 140 = .ok (.getfield 91, 3) := by decide +kernel
theorem dX11_layPairs_143 : decode cX11_layPairs 143 = .ok (.if_icmp .ge 44, 3) := by decide +kernel
theorem dX11_layPairs_146 : decode cX11_layPairs 146 = .ok (.iload 4, 2) := by decide +kernel
theorem dX11_layPairs_148 : decode cX11_layPairs 148 = .ok (.iload 12, 2) := by decide +kernel
theorem dX11_layPairs_150 : decode cX11_layPairs 150 = .ok (.invokestatic 158, 3) := by decide +kernel
theorem dX11_layPairs_153 : decode cX11_layPairs 153 = .ok (.ifCond .ne 8, 3) := by decide +kernel
theorem dX11_layPairs_156 : decode cX11_layPairs 156 = .ok (.iload 13, 2) := by decide +kernel
theorem dX11_layPairs_158 : decode cX11_layPairs 158 = .ok (.ifCond .le 29, 3) := by decide +kernel
theorem dX11_layPairs_161 : decode cX11_layPairs 161 = .ok (.iload 13, 2) := by decide +kernel
theorem dX11_layPairs_163 : decode cX11_layPairs 163 = .ok (.iload 4, 2) := by decide +kernel
theorem dX11_layPairs_165 : decode cX11_layPairs 165 = .ok (.iload 12, 2) := by decide +kernel
theorem dX11_layPairs_167 : decode cX11_layPairs 167 = .ok (.invokestatic 158, 3) := by decide +kernel
theorem dX11_layPairs_170 : decode cX11_layPairs 170 = .ok (.ifCond .eq 7, 3) := by decide +kernel
theorem dX11_layPairs_173 : decode cX11_layPairs 173 = .ok (.iconst 0, 1) := by decide +kernel
theorem dX11_layPairs_174 : decode cX11_layPairs 174 = .ok (.goto 4, 3) := by decide +kernel
theorem dX11_layPairs_177 : decode cX11_layPairs 177 = .ok (.iconst 1, 1) := by decide +kernel
theorem dX11_layPairs_178 : decode cX11_layPairs 178 = .ok (.isub, 1) := by decide +kernel
theorem dX11_layPairs_179 : decode cX11_layPairs 179 = .ok (.istore 13, 2) := by decide +kernel
theorem dX11_layPairs_181 : decode cX11_layPairs 181 = .ok (.iinc 12 1, 3) := by decide +kernel
theorem dX11_layPairs_184 : decode cX11_layPairs 184 = .ok (.goto (-47), 3) := by decide +kernel
theorem dX11_layPairs_187 : decode cX11_layPairs 187 = .ok (.iload 12, 2) := by decide +kernel
theorem dX11_layPairs_189 : decode cX11_layPairs 189 = .ok (.aload_n 0, 1) := by decide +kernel
theorem dX11_layPairs_190 : decode cX11_layPairs 190 = .ok (.getfield 91, 3) := by decide +kernel
theorem dX11_layPairs_193 : decode cX11_layPairs 193 = .ok (.if_icmp .lt 7, 3) := by decide +kernel
theorem dX11_layPairs_196 : decode cX11_layPairs 196 = .ok (.iconst 1, 1) := by decide +kernel
theorem dX11_layPairs_197 : decode cX11_layPairs 197 = .ok (.goto 4, 3) := by decide +kernel
theorem dX11_layPairs_200 : decode cX11_layPairs 200 = .ok (.iconst 0, 1) := by decide +kernel
theorem dX11_layPairs_201 : decode cX11_layPairs 201 = .ok (.istore 14, 2) := by decide +kernel
theorem dX11_layPairs_203 : decode cX11_layPairs 203 = .ok (.iload 6, 2) := by decide +kernel
theorem dX11_layPairs_205 : decode cX11_layPairs 205 = .ok (.ifCond .eq 37, 3) := by decide +kernel
theorem dX11_layPairs_208 : decode cX11_layPairs 208 = .ok (.iload 14, 2) := by decide +kernel
theorem dX11_layPairs_210 : decode cX11_layPairs 210 = .ok (.ifCond .eq 28, 3) := by decide +kernel
theorem dX11_layPairs_213 : decode cX11_layPairs 213 = .ok (.iload 13, 2) := by decide +kernel
theorem dX11_layPairs_215 : decode cX11_layPairs 215 = .ok (.ifCond .ne 27, 3) := by decide +kernel
theorem dX11_layPairs_218 : decode cX11_layPairs 218 = .ok (.aload_n 0, 1) := by decide +kernel
theorem dX11_layPairs_219 : decode cX11_layPairs 219 = .ok (.getfield 91, 3) := by decide +kernel
theorem dX11_layPairs_222 : decode cX11_layPairs 222 = .ok (.iconst 2, 1) := by decide +kernel
theorem dX11_layPairs_223 : decode cX11_layPairs 223 = .ok (.irem, 1) := by decide +kernel
theorem dX11_layPairs_224 : decode cX11_layPairs 224 = .ok (.iconst 1, 1) := by decide +kernel
theorem dX11_layPairs_225 : decode cX11_layPairs 225 = .ok (.if_icmp .ne 17, 3) := by decide +kernel
theorem dX11_layPairs_228 : decode cX11_layPairs 228 = .ok (.iload 4, 2) := by decide +kernel
theorem dX11_layPairs_230 : decode cX11_layPairs 230 = .ok (.bipush 7, 2) := by decide +kernel
theorem dX11_layPairs_232 : decode cX11_layPairs 232 = .ok (.invokestatic 158, 3) := by decide +kernel
theorem dX11_layPairs_235 : decode cX11_layPairs 235 = .ok (.ifCond .ne 7, 3) := by decide +kernel
theorem dX11_layPairs_238 : decode cX11_layPairs 238 = .ok (.iconst 1, 1) := by decide +kernel
theorem dX11_layPairs_239 : decode cX11_layPairs 239 = .ok (.goto 4, 3) := by decide +kernel
theorem dX11_layPairs_242 : decode cX11_layPairs 242 = .ok (.iconst 0, 1) := by decide +kernel
theorem dX11_layPairs_243 : decode cX11_layPairs 243 = .ok (.istore 6, 2) := by decide +kernel
theorem dX11_layPairs_245 : decode cX11_layPairs 245 = .ok (.iload 4, 2) := by decide +kernel
theorem dX11_layPairs_247 : decode cX11_layPairs 247 = .ok (.iconst 1, 1) := by decide +kernel
theorem dX11_layPairs_248 : decode cX11_layPairs 248 = .ok (.iload 10, 2) := by decide +kernel
theorem dX11_layPairs_250 : decode cX11_layPairs 250 = .ok (.ishl, 1) := by decide +kernel
theorem dX11_layPairs_251 : decode cX11_layPairs 251 = .ok (.ior, 1) := by decide +kernel
theorem dX11_layPairs_252 : decode cX11_layPairs 252 = .ok (.iload 14, 2) := by decide +kernel
theorem dX11_layPairs_254 : decode cX11_layPairs 254 = .ok (.ifCond .eq 9, 3) := by decide +kernel
theorem dX11_layPairs_257 : decode cX11_layPairs 257 = .ok (.sipush 128, 3) := by decide +kernel
theorem dX11_layPairs_260 : decode cX11_layPairs 260 = .ok (.goto 7, 3) := by decide +kernel
theorem dX11_layPairs_263 : decode cX11_layPairs 263 = .ok (.iconst 1, 1) := by decide +kernel
theorem dX11_layPairs_264 : decode cX11_layPairs 264 = .ok (.iload 12, 2) := by decide +kernel
theorem dX11_layPairs_266 : decode cX11_layPairs 266 = .ok (.ishl, 1) := by decide +kernel
theorem dX11_layPairs_267 : decode cX11_layPairs 267 = .ok (.ior, 1) := by decide +kernel
theorem dX11_layPairs_268 : decode cX11_layPairs 268 = .ok (.istore 4, 2) := by decide +kernel
theorem dX11_layPairs_270 : decode cX11_layPairs 270 = .ok (.aload_n 0, 1) := by decide +kernel
theorem dX11_layPairs_271 : decode cX11_layPairs 271 = .ok (.getfield 61, 3) := by decide +kernel
theorem dX11_layPairs_274 : decode cX11_layPairs 274 = .ok (.iload 10, 2) := by decide +kernel
theorem dX11_layPairs_276 : decode cX11_layPairs 276 = .ok (.iload 14, 2) := by decide +kernel
theorem dX11_layPairs_278 : decode cX11_layPairs 278 = .ok (.ifCond .eq 8, 3) := by decide +kernel
theorem dX11_layPairs_281 : decode cX11_layPairs 281 = .ok (.bipush (-4), 2) := by decide +kernel
theorem dX11_layPairs_283 : decode cX11_layPairs 283 = .ok (.goto 5, 3) := by decide +kernel
theorem dX11_layPairs_286 : decode cX11_layPairs 286 = .ok (.iload 12, 2) := by decide +kernel
theorem dX11_layPairs_288 : decode cX11_layPairs 288 = .ok (.iastore, 1) := by decide +kernel
theorem dX11_layPairs_289 : decode cX11_layPairs 289 = .ok (.iload 14, 2) := by decide +kernel
theorem dX11_layPairs_291 : decode cX11_layPairs 291 = .ok (.ifCond .ne 39, 3) := by decide +kernel
theorem dX11_layPairs_294 : decode cX11_layPairs 294 = .ok (.aload_n 0, 1) := by decide +kernel
theorem dX11_layPairs_295 : decode cX11_layPairs 295 = .ok (.getfield 61, 3) := by decide +kernel
theorem dX11_layPairs_298 : decode cX11_layPairs 298 = .ok (.iload 12, 2) := by decide +kernel
theorem dX11_layPairs_300 : decode cX11_layPairs 300 = .ok (.iload 10, 2) := by decide +kernel
theorem dX11_layPairs_302 : decode cX11_layPairs 302 = .ok (.iastore, 1) := by decide +kernel
theorem dX11_layPairs_303 : decode cX11_layPairs 303 = .ok (.iload 5, 2) := by decide +kernel
theorem dX11_layPairs_305 : decode cX11_layPairs 305 = .ok (.aload_n 0, 1) := by decide +kernel
theorem dX11_layPairs_306 : decode cX11_layPairs 306 = .ok (.getfield 34, 3) := by decide +kernel
theorem dX11_layPairs_309 : decode cX11_layPairs 309 = .ok (.iconst 1, 1) := by decide +kernel
theorem dX11_layPairs_310 : decode cX11_layPairs 310 = .ok (.iload 12, 2) := by decide +kernel
theorem dX11_layPairs_312 : decode cX11_layPairs 312 = .ok (.iadd, 1) := by decide +kernel
theorem dX11_layPairs_313 : decode cX11_layPairs 313 = .ok (.iaload, 1) := by decide +kernel
theorem dX11_layPairs_314 : decode cX11_layPairs 314 = .ok (.aload_n 0, 1) := by decide +kernel
theorem dX11_layPairs_315 : decode cX11_layPairs 315 = .ok (.getfield 34, 3) := by decide +kernel
theorem dX11_layPairs_318 : decode cX11_layPairs 318 = .ok (.iconst 1, 1) := by decide +kernel
theorem dX11_layPairs_319 : decode cX11_layPairs 319 = .ok (.iload 10, 2) := by decide +kernel
theorem dX11_layPairs_321 : decode cX11_layPairs 321 = .ok (.iadd, 1) := by decide +kernel
theorem dX11_layPairs_322 : decode cX11_layPairs 322 = .ok (.iaload, 1) := by decide +kernel
theorem dX11_layPairs_323 : decode cX11_layPairs 323 = .ok (.isub, 1) := by decide +kernel
theorem dX11_layPairs_324 : decode cX11_layPairs 324 = .ok (.invokestatic 151, 3) := by decide +kernel
theorem dX11_layPairs_327 : decode cX11_layPairs 327 = .ok (.iadd, 1) := by decide +kernel
theorem dX11_layPairs_328 : decode cX11_layPairs 328 = .ok (.istore 5, 2) := by decide +kernel
theorem dX11_layPairs_330 : decode cX11_layPairs 330 = .ok (.iinc 9 1, 3) := by decide +kernel
theorem dX11_layPairs_333 : decode cX11_layPairs 333 = .ok (.goto (-300), 3) := by decide +kernel
theorem dX11_layPairs_336 : decode cX11_layPairs 336 = .ok (.iload 6, 2) := by decide +kernel
theorem dX11_layPairs_338 : decode cX11_layPairs 338 = .ok (.ifCond .eq 48, 3) := by decide +kernel
theorem dX11_layPairs_341 : decode cX11_layPairs 341 = .ok (.iload_n 1, 1) := by decide +kernel
theorem dX11_layPairs_342 : decode cX11_layPairs 342 = .ok (.ifCond .lt 9, 3) := by decide +kernel
theorem dX11_layPairs_345 : decode cX11_layPairs 345 = .ok (.iload 5, 2) := by decide +kernel
theorem dX11_layPairs_347 : decode cX11_layPairs 347 = .ok (.iload_n 1, 1) := by decide +kernel
theorem dX11_layPairs_348 : decode cX11_layPairs 348 = .ok (.if_icmp .ge 38, 3) := by decide +kernel
theorem dX11_layPairs_351 : decode cX11_layPairs 351 = .ok (.iload 5, 2) := by decide +kernel
theorem dX11_layPairs_353 : decode cX11_layPairs 353 = .ok (.istore_n 1, 1) := by decide +kernel
theorem dX11_layPairs_354 : decode cX11_layPairs 354 = .ok (.iconst 0, 1) := by decide +kernel
theorem dX11_layPairs_355 : decode cX11_layPairs 355 = .ok (.istore 9, 2) := by decide +kernel
theorem dX11_layPairs_357 : decode cX11_layPairs 357 = .ok (.iload 9, 2) := by decide +kernel
theorem dX11_layPairs_359 : decode cX11_layPairs 359 = .ok (.aload_n 0, 1) := by decide +kernel
theorem dX11_layPairs_360 : decode cX11_layPairs 360 = .ok (.getfield 91, 3) := by decide +kernel
theorem dX11_layPairs_363 : decode cX11_layPairs 363 = .ok (.if_icmp .ge 23, 3) := by decide +kernel
theorem dX11_layPairs_366 : decode cX11_layPairs 366 = .ok (.aload_n 0, 1) := by decide +kernel
theorem dX11_layPairs_367 : decode cX11_layPairs 367 = .ok (.getfield 64, 3) := by decide +kernel
theorem dX11_layPairs_370 : decode cX11_layPairs 370 = .ok (.iload 9, 2) := by decide +kernel
theorem dX11_layPairs_372 : decode cX11_layPairs 372 = .ok (.aload_n 0, 1) := by decide +kernel
theorem dX11_layPairs_373 : decode cX11_layPairs 373 = .ok (.getfield 61, 3) := by decide +kernel
theorem dX11_layPairs_376 : decode cX11_layPairs 376 = .ok (.iload 9, 2) := by decide +kernel
theorem dX11_layPairs_378 : decode cX11_layPairs 378 = .ok (.iaload, 1) := by decide +kernel
theorem dX11_layPairs_379 : decode cX11_layPairs 379 = .ok (.iastore, 1) := by decide +kernel
theorem dX11_layPairs_380 : decode cX11_layPairs 380 = .ok (.iinc 9 1, 3) := by decide +kernel
theorem dX11_layPairs_383 : decode cX11_layPairs 383 = .ok (.goto (-26), 3) := by decide +kernel
theorem dX11_layPairs_386 : decode cX11_layPairs 386 = .ok (.iinc 2 1, 3) := by decide +kernel
theorem dX11_layPairs_389 : decode cX11_layPairs 389 = .ok (.goto (-384), 3) := by decide +kernel
theorem dX11_layPairs_392 : decode cX11_layPairs 392 = .ok (.iload_n 1, 1) := by decide +kernel
theorem dX11_layPairs_393 : decode cX11_layPairs 393 = .ok (.ireturn, 1) := by decide +kernel
theorem dX11_pairs_0 : decode cX11_pairs 0 = .ok (.iload_n 1, 1) := by decide +kernel
theorem dX11_pairs_1 : decode cX11_pairs 1 = .ok (.iconst (-1), 1) := by decide +kernel
theorem dX11_pairs_2 : decode cX11_pairs 2 = .ok (.aload_n 0, 1) := by decide +kernel
theorem dX11_pairs_3 : decode cX11_pairs 3 = .ok (.getfield 91, 3) := by decide +kernel
theorem dX11_pairs_6 : decode cX11_pairs 6 = .ok (.iconst 1, 1) := by decide +kernel
theorem dX11_pairs_7 : decode cX11_pairs 7 = .ok (.isub, 1) := by decide +kernel
theorem dX11_pairs_8 : decode cX11_pairs 8 = .ok (.invokestatic 94, 3) := by decide +kernel
theorem dX11_pairs_11 : decode cX11_pairs 11 = .ok (.ifCond .ne 5, 3) := by decide +kernel
theorem dX11_pairs_14 : decode cX11_pairs 14 = .ok (.iconst (-1), 1) := by decide +kernel
theorem dX11_pairs_15 : decode cX11_pairs 15 = .ok (.ireturn, 1) := by decide +kernel
theorem dX11_pairs_16 : decode cX11_pairs 16 = .ok (.aload_n 0, 1) := by decide +kernel
theorem dX11_pairs_17 : decode cX11_pairs 17 = .ok (.invokevirtual 195, 3) := by decide +kernel
theorem dX11_pairs_20 : decode cX11_pairs 20 = .ok (.istore_n 2, 1) := by decide +kernel
theorem dX11_pairs_21 : decode cX11_pairs 21 = .ok (.iload_n 1, 1) := by decide +kernel
theorem dX11_pairs_22 : decode cX11_pairs 22 = .ok (.ifCond .ge 7, 3) := by decide +kernel
theorem dX11_pairs_25 : decode cX11_pairs 25 = .ok (.iload_n 2, 1) := by decide +kernel
theorem dX11_pairs_26 : decode cX11_pairs 26 = .ok (.goto 9, 3) := by decide +kernel
theorem dX11_pairs_29 : decode cX11_pairs 29 = .ok (.aload_n 0, 1) := by decide +kernel
theorem dX11_pairs_30 : decode cX11_pairs 30 = .ok (.getfield 64, 3) := by decide +kernel
theorem dX11_pairs_33 : decode cX11_pairs 33 = .ok (.iload_n 1, 1) := by decide +kernel
theorem dX11_pairs_34 : decode cX11_pairs 34 = .ok (.iaload, 1) := by decide +kernel
theorem dX11_pairs_35 : decode cX11_pairs 35 = .ok (.ireturn, 1) := by decide +kernel
theorem dX11_oils_0 : decode cX11_oils 0 = .ok (.aload_n 0, 1) := by decide +kernel
theorem dX11_oils_1 : decode cX11_oils 1 = .ok (.iload_n 1, 1) := by decide +kernel
theorem dX11_oils_2 : decode cX11_oils 2 = .ok (.invokevirtual 134, 3) := by decide +kernel
theorem dX11_oils_5 : decode cX11_oils 5 = .ok (.ifCond .eq 23, 3) := by decide +kernel
theorem dX11_oils_8 : decode cX11_oils 8 = .ok (.iload_n 2, 1) := by decide +kernel
theorem dX11_oils_9 : decode cX11_oils 9 = .ok (.iconst 1, 1) := by decide +kernel
theorem dX11_oils_10 : decode cX11_oils 10 = .ok (.bipush 30, 2) := by decide +kernel
theorem dX11_oils_12 : decode cX11_oils 12 = .ok (.invokestatic 94, 3) := by decide +kernel
theorem dX11_oils_15 : decode cX11_oils 15 = .ok (.ifCond .eq 13, 3) := by decide +kernel
theorem dX11_oils_18 : decode cX11_oils 18 = .ok (.iload_n 3, 1) := by decide +kernel
theorem dX11_oils_19 : decode cX11_oils 19 = .ok (.iconst 0, 1) := by decide +kernel
theorem dX11_oils_20 : decode cX11_oils 20 = .ok (.bipush 100, 2) := by decide +kernel
theorem dX11_oils_22 : decode cX11_oils 22 = .ok (.invokestatic 94, 3) := by decide +kernel
theorem dX11_oils_25 : decode cX11_oils 25 = .ok (.ifCond .ne 5, 3) := by decide +kernel
theorem dX11_oils_28 : decode cX11_oils 28 = .ok (.iconst (-1), 1) := by decide +kernel
theorem dX11_oils_29 : decode cX11_oils 29 = .ok (.ireturn, 1) := by decide +kernel
theorem dX11_oils_30 : decode cX11_oils 30 = .ok (.aload_n 0, 1) := by decide +kernel
theorem dX11_oils_31 : decode cX11_oils 31 = .ok (.getfield 34, 3) := by decide +kernel
theorem dX11_oils_34 : decode cX11_oils 34 = .ok (.bipush 8, 2) := by decide +kernel
theorem dX11_oils_36 : decode cX11_oils 36 = .ok (.iload_n 1, 1) := by decide +kernel
theorem dX11_oils_37 : decode cX11_oils 37 = .ok (.iadd, 1) := by decide +kernel
theorem dX11_oils_38 : decode cX11_oils 38 = .ok (.iaload, 1) := by decide +kernel
theorem dX11_oils_39 : decode cX11_oils 39 = .ok (.istore 4, 2) := by decide +kernel
theorem dX11_oils_41 : decode cX11_oils 41 = .ok (.iconst 0, 1) := by decide +kernel
theorem dX11_oils_42 : decode cX11_oils 42 = .ok (.istore 5, 2) := by decide +kernel
theorem dX11_oils_44 : decode cX11_oils 44 = .ok (.iload 5, 2) := by decide +kernel
theorem dX11_oils_46 : decode cX11_oils 46 = .ok (.iload 4, 2) := by decide +kernel
theorem dX11_oils_48 : decode cX11_oils 48 = .ok (.invokestatic 151, 3) := by decide +kernel
theorem dX11_oils_51 : decode cX11_oils 51 = .ok (.if_icmp .gt 91, 3) := by decide +kernel
theorem dX11_oils_54 : decode cX11_oils 54 = .ok (.aload_n 0, 1) := by decide +kernel
theorem dX11_oils_55 : decode cX11_oils 55 = .ok (.getfield 34, 3) := by decide +kernel
theorem dX11_oils_58 : decode cX11_oils 58 = .ok (.iconst 0, 1) := by decide +kernel
theorem dX11_oils_59 : decode cX11_oils 59 = .ok (.aload_n 0, 1) := by decide +kernel
theorem dX11_oils_60 : decode cX11_oils 60 = .ok (.getfield 37, 3) := by decide +kernel
theorem dX11_oils_63 : decode cX11_oils 63 = .ok (.iconst 0, 1) := by decide +kernel
theorem dX11_oils_64 : decode cX11_oils 64 = .ok (.invokestatic 165, 3) := by decide +kernel
theorem dX11_oils_67 : decode cX11_oils 67 = .ok (.aload_n 0, 1) := by decide +kernel
theorem dX11_oils_68 : decode cX11_oils 68 = .ok (.getfield 37, 3) := by decide +kernel
theorem dX11_oils_71 : decode cX11_oils 71 = .ok (.bipush 8, 2) := by decide +kernel
theorem dX11_oils_73 : decode cX11_oils 73 = .ok (.iload_n 1, 1) := by decide +kernel
theorem dX11_oils_74 : decode cX11_oils 74 = .ok (.iadd, 1) := by decide +kernel
theorem dX11_oils_75 : decode cX11_oils 75 = .ok (.iload 4, 2) := by decide +kernel
theorem dX11_oils_77 : decode cX11_oils 77 = .ok (.ifCond .le 11, 3) := by decide +kernel
theorem dX11_oils_80 : decode cX11_oils 80 = .ok (.iload 4, 2) := by decide +kernel
theorem dX11_oils_82 : decode cX11_oils 82 = .ok (.iload 5, 2) := by decide +kernel
theorem dX11_oils_84 : decode cX11_oils 84 = .ok (.isub, 1) := by decide +kernel
theorem dX11_oils_85 : decode cX11_oils 85 = .ok (.goto 8, 3) := by decide +kernel
theorem dX11_oils_88 : decode cX11_oils 88 = .ok (.iload 4, 2) := by decide +kernel
theorem dX11_oils_90 : decode cX11_oils 90 = .ok (.iload 5, 2) := by decide +kernel
theorem dX11_oils_92 : decode cX11_oils 92 = .ok (.iadd, 1) := by decide +kernel
theorem dX11_oils_93 : decode cX11_oils 93 = .ok (.iastore, 1) := by decide +kernel
theorem dX11_oils_94 : decode cX11_oils 94 = .ok (.iconst 0, 1) := by decide +kernel
theorem dX11_oils_95 : decode cX11_oils 95 = .ok (.istore 6, 2) := by decide +kernel
theorem dX11_oils_97 : decode cX11_oils 97 = .ok (.iload 6, 2) := by decide +kernel
theorem dX11_oils_99 : decode cX11_oils 99 = .ok (.iload_n 2, 1) := by decide +kernel
theorem dX11_oils_100 : decode cX11_oils 100 = .ok (.if_icmp .ge 18, 3) := by decide +kernel
theorem dX11_oils_103 : decode cX11_oils 103 = .ok (.aload_n 0, 1) := by decide +kernel
theorem dX11_oils_104 : decode cX11_oils 104 = .ok (.aload_n 0, 1) := by decide +kernel
theorem dX11_oils_105 : decode cX11_oils 105 = .ok (.getfield 37, 3) := by decide +kernel
theorem dX11_oils_108 : decode cX11_oils 108 = .ok (.iconst 1, 1) := by decide +kernel
theorem dX11_oils_109 : decode cX11_oils 109 = .ok (.invokevirtual 172, 3) := by decide +kernel
theorem dX11_oils_112 : decode cX11_oils 112 = .ok (.iinc 6 1, 3) := by decide +kernel
theorem dX11_oils_115 : decode cX11_oils 115 = .ok (.goto (-18), 3) := by decide +kernel
theorem dX11_oils_118 : decode cX11_oils 118 = .ok (.aload_n 0, 1) := by decide +kernel
theorem dX11_oils_119 : decode cX11_oils 119 = .ok (.getfield 37, 3) := by decide +kernel
theorem dX11_oils_122 : decode cX11_oils 122 = .ok (.iconst 1, 1) := by decide +kernel
theorem dX11_oils_123 : decode cX11_oils 123 = .ok (.iload_n 1, 1) := by decide +kernel
theorem dX11_oils_124 : decode cX11_oils 124 = .ok (.iadd, 1) := by decide +kernel
theorem dX11_oils_125 : decode cX11_oils 125 = .ok (.iaload, 1) := by decide +kernel
theorem dX11_oils_126 : decode cX11_oils 126 = .ok (.invokestatic 151, 3) := by decide +kernel
theorem dX11_oils_129 : decode cX11_oils 129 = .ok (.iload_n 3, 1) := by decide +kernel
theorem dX11_oils_130 : decode cX11_oils 130 = .ok (.if_icmp .gt 6, 3) := by decide +kernel
theorem dX11_oils_133 : decode cX11_oils 133 = .ok (.iload 5, 2) := by decide +kernel
theorem dX11_oils_135 : decode cX11_oils 135 = .ok (.ireturn, 1) := by decide +kernel
theorem dX11_oils_136 : decode cX11_oils 136 = .ok (.iinc 5 1, 3) := by decide +kernel
theorem dX11_oils_139 : decode cX11_oils 139 = .ok (.goto (-95), 3) := by decide +kernel
theorem dX11_oils_142 : decode cX11_oils 142 = .ok (.bipush (-4), 2) := by decide +kernel
theorem dX11_oils_144 : decode cX11_oils 144 = .ok (.ireturn, 1) := by decide +kernel
theorem dX11_hear_0 : decode cX11_hear 0 = .ok (.aload_n 0, 1) := by decide +kernel
theorem dX11_hear_1 : decode cX11_hear 1 = .ok (.iload_n 1, 1) := by decide +kernel
theorem dX11_hear_2 : decode cX11_hear 2 = .ok (.invokevirtual 134, 3) := by decide +kernel
theorem dX11_hear_5 : decode cX11_hear 5 = .ok (.ifCond .eq 14, 3) := by decide +kernel
theorem dX11_hear_8 : decode cX11_hear 8 = .ok (.iload_n 2, 1) := by decide +kernel
theorem dX11_hear_9 : decode cX11_hear 9 = .ok (.iconst 0, 1) := by decide +kernel
theorem dX11_hear_10 : decode cX11_hear 10 = .ok (.sipush 1200, 3) := by decide +kernel
theorem dX11_hear_13 : decode cX11_hear 13 = .ok (.invokestatic 94, 3) := by decide +kernel
theorem dX11_hear_16 : decode cX11_hear 16 = .ok (.ifCond .ne 5, 3) := by decide +kernel
theorem dX11_hear_19 : decode cX11_hear 19 = .ok (.iconst (-1), 1) := by decide +kernel
theorem dX11_hear_20 : decode cX11_hear 20 = .ok (.ireturn, 1) := by decide +kernel
theorem dX11_hear_21 : decode cX11_hear 21 = .ok (.aload_n 0, 1) := by decide +kernel
theorem dX11_hear_22 : decode cX11_hear 22 = .ok (.getfield 131, 3) := by decide +kernel
theorem dX11_hear_25 : decode cX11_hear 25 = .ok (.bipush 6, 2) := by decide +kernel
theorem dX11_hear_27 : decode cX11_hear 27 = .ok (.if_icmp .ne 6, 3) := by decide +kernel
theorem dX11_hear_30 : decode cX11_hear 30 = .ok (.bipush (-3), 2) := by decide +kernel
theorem dX11_hear_32 : decode cX11_hear 32 = .ok (.ireturn, 1) := by decide +kernel
theorem dX11_hear_33 : decode cX11_hear 33 = .ok (.aload_n 0, 1) := by decide +kernel
theorem dX11_hear_34 : decode cX11_hear 34 = .ok (.getfield 49, 3) := by decide +kernel
theorem dX11_hear_37 : decode cX11_hear 37 = .ok (.iconst 2, 1) := by decide +kernel
theorem dX11_hear_38 : decode cX11_hear 38 = .ok (.aload_n 0, 1) := by decide +kernel
theorem dX11_hear_39 : decode cX11_hear 39 = .ok (.getfield 131, 3) := by decide +kernel
theorem dX11_hear_42 : decode cX11_hear 42 = .ok (.imul, 1) := by decide +kernel
theorem dX11_hear_43 : decode cX11_hear 43 = .ok (.iload_n 1, 1) := by decide +kernel
theorem dX11_hear_44 : decode cX11_hear 44 = .ok (.iastore, 1) := by decide +kernel
theorem dX11_hear_45 : decode cX11_hear 45 = .ok (.aload_n 0, 1) := by decide +kernel
theorem dX11_hear_46 : decode cX11_hear 46 = .ok (.getfield 49, 3) := by decide +kernel
theorem dX11_hear_49 : decode cX11_hear 49 = .ok (.iconst 2, 1) := by decide +kernel
theorem dX11_hear_50 : decode cX11_hear 50 = .ok (.aload_n 0, 1) := by decide +kernel
theorem dX11_hear_51 : decode cX11_hear 51 = .ok (.getfield 131, 3) := by decide +kernel
theorem dX11_hear_54 : decode cX11_hear 54 = .ok (.imul, 1) := by decide +kernel
theorem dX11_hear_55 : decode cX11_hear 55 = .ok (.iconst 1, 1) := by decide +kernel
theorem dX11_hear_56 : decode cX11_hear 56 = .ok (.iadd, 1) := by decide +kernel
theorem dX11_hear_57 : decode cX11_hear 57 = .ok (.iload_n 2, 1) := by decide +kernel
theorem dX11_hear_58 : decode cX11_hear 58 = .ok (.sipush 600, 3) := by decide +kernel
theorem dX11_hear_61 : decode cX11_hear 61 = .ok (.isub, 1) := by decide +kernel
theorem dX11_hear_62 : decode cX11_hear 62 = .ok (.iastore, 1) := by decide +kernel
theorem dX11_hear_63 : decode cX11_hear 63 = .ok (.aload_n 0, 1) := by decide +kernel
theorem dX11_hear_64 : decode cX11_hear 64 = .ok (.dup, 1) := by decide +kernel
theorem dX11_hear_65 : decode cX11_hear 65 = .ok (.getfield 131, 3) := by decide +kernel
theorem dX11_hear_68 : decode cX11_hear 68 = .ok (.iconst 1, 1) := by decide +kernel
theorem dX11_hear_69 : decode cX11_hear 69 = .ok (.iadd, 1) := by decide +kernel
theorem dX11_hear_70 : decode cX11_hear 70 = .ok (.putfield 131, 3) := by decide +kernel
theorem dX11_hear_73 : decode cX11_hear 73 = .ok (.aload_n 0, 1) := by decide +kernel
theorem dX11_hear_74 : decode cX11_hear 74 = .ok (.getfield 131, 3) := by decide +kernel
theorem dX11_hear_77 : decode cX11_hear 77 = .ok (.ireturn, 1) := by decide +kernel
theorem dX11_forget_0 : decode cX11_forget 0 = .ok (.aload_n 0, 1) := by decide +kernel
theorem dX11_forget_1 : decode cX11_forget 1 = .ok (.getfield 131, 3) := by decide +kernel
theorem dX11_forget_4 : decode cX11_forget 4 = .ok (.istore_n 1, 1) := by decide +kernel
theorem dX11_forget_5 : decode cX11_forget 5 = .ok (.aload_n 0, 1) := by decide +kernel
theorem dX11_forget_6 : decode cX11_forget 6 = .ok (.iconst 0, 1) := by decide +kernel
theorem dX11_forget_7 : decode cX11_forget 7 = .ok (.putfield 131, 3) := by decide +kernel
theorem dX11_forget_10 : decode cX11_forget 10 = .ok (.iload_n 1, 1) := by decide +kernel
theorem dX11_forget_11 : decode cX11_forget 11 = .ok (.ireturn, 1) := by decide +kernel
theorem dX11_isSo_0 : decode cX11_isSo 0 = .ok (.iconst 1, 1) := by decide +kernel
theorem dX11_isSo_1 : decode cX11_isSo 1 = .ok (.istore_n 2, 1) := by decide +kernel
theorem dX11_isSo_2 : decode cX11_isSo 2 = .ok (.iconst 0, 1) := by decide +kernel
theorem dX11_isSo_3 : decode cX11_isSo 3 = .ok (.istore_n 3, 1) := by decide +kernel
theorem dX11_isSo_4 : decode cX11_isSo 4 = .ok (.iload_n 3, 1) := by decide +kernel
theorem dX11_isSo_5 : decode cX11_isSo 5 = .ok (.aload_n 0, 1) := by decide +kernel
theorem dX11_isSo_6 : decode cX11_isSo 6 = .ok (.getfield 131, 3) := by decide +kernel
theorem dX11_isSo_9 : decode cX11_isSo 9 = .ok (.if_icmp .ge 44, 3) := by decide +kernel
theorem dX11_isSo_12 : decode cX11_isSo 12 = .ok (.iload_n 2, 1) := by decide +kernel
theorem dX11_isSo_13 : decode cX11_isSo 13 = .ok (.ifCond .eq 32, 3) := by decide +kernel
theorem dX11_isSo_16 : decode cX11_isSo 16 = .ok (.aload_n 1, 1) := by decide +kernel
theorem dX11_isSo_17 : decode cX11_isSo 17 = .ok (.iconst 1, 1) := by decide +kernel
theorem dX11_isSo_18 : decode cX11_isSo 18 = .ok (.aload_n 0, 1) := by decide +kernel
theorem dX11_isSo_19 : decode cX11_isSo 19 = .ok (.getfield 49, 3) := by decide +kernel
theorem dX11_isSo_22 : decode cX11_isSo 22 = .ok (.iconst 2, 1) := by decide +kernel
theorem dX11_isSo_23 : decode cX11_isSo 23 = .ok (.iload_n 3, 1) := by decide +kernel
theorem dX11_isSo_24 : decode cX11_isSo 24 = .ok (.imul, 1) := by decide +kernel
theorem dX11_isSo_25 : decode cX11_isSo 25 = .ok (.iaload, 1) := by decide +kernel
theorem dX11_isSo_26 : decode cX11_isSo 26 = .ok (.iadd, 1) := by decide +kernel
theorem dX11_isSo_27 : decode cX11_isSo 27 = .ok (.iaload, 1) := by decide +kernel
theorem dX11_isSo_28 : decode cX11_isSo 28 = .ok (.aload_n 0, 1) := by decide +kernel
theorem dX11_isSo_29 : decode cX11_isSo 29 = .ok (.getfield 49, 3) := by decide +kernel
theorem dX11_isSo_32 : decode cX11_isSo 32 = .ok (.iconst 2, 1) := by decide +kernel
theorem dX11_isSo_33 : decode cX11_isSo 33 = .ok (.iload_n 3, 1) := by decide +kernel
theorem dX11_isSo_34 : decode cX11_isSo 34 = .ok (.imul, 1) := by decide +kernel
theorem dX11_isSo_35 : decode cX11_isSo 35 = .ok (.iconst 1, 1) := by decide +kernel
theorem dX11_isSo_36 : decode cX11_isSo 36 = .ok (.iadd, 1) := by decide +kernel
theorem dX11_isSo_37 : decode cX11_isSo 37 = .ok (.iaload, 1) := by decide +kernel
theorem dX11_isSo_38 : decode cX11_isSo 38 = .ok (.if_icmp .ne 7, 3) := by decide +kernel
theorem dX11_isSo_41 : decode cX11_isSo 41 = .ok (.iconst 1, 1) := by decide +kernel
theorem dX11_isSo_42 : decode cX11_isSo 42 = .ok (.goto 4, 3) := by decide +kernel
theorem dX11_isSo_45 : decode cX11_isSo 45 = .ok (.iconst 0, 1) := by decide +kernel
theorem dX11_isSo_46 : decode cX11_isSo 46 = .ok (.istore_n 2, 1) := by decide +kernel
theorem dX11_isSo_47 : decode cX11_isSo 47 = .ok (.iinc 3 1, 3) := by decide +kernel
theorem dX11_isSo_50 : decode cX11_isSo 50 = .ok (.goto (-46), 3) := by decide +kernel
theorem dX11_isSo_53 : decode cX11_isSo 53 = .ok (.iload_n 2, 1) := by decide +kernel
theorem dX11_isSo_54 : decode cX11_isSo 54 = .ok (.ireturn, 1) := by decide +kernel
theorem dX11_taught_0 : decode cX11_taught 0 = .ok (.iload_n 1, 1) := by decide +kernel
theorem dX11_taught_1 : decode cX11_taught 1 = .ok (.iconst 0, 1) := by decide +kernel
theorem dX11_taught_2 : decode cX11_taught 2 = .ok (.iconst 1, 1) := by decide +kernel
theorem dX11_taught_3 : decode cX11_taught 3 = .ok (.invokestatic 94, 3) := by decide +kernel
theorem dX11_taught_6 : decode cX11_taught 6 = .ok (.ifCond .ne 5, 3) := by decide +kernel
theorem dX11_taught_9 : decode cX11_taught 9 = .ok (.iconst (-1), 1) := by decide +kernel
theorem dX11_taught_10 : decode cX11_taught 10 = .ok (.ireturn, 1) := by decide +kernel
theorem dX11_taught_11 : decode cX11_taught 11 = .ok (.iconst 0, 1) := by decide +kernel
theorem dX11_taught_12 : decode cX11_taught 12 = .ok (.istore_n 2, 1) := by decide +kernel
theorem dX11_taught_13 : decode cX11_taught 13 = .ok (.bipush (-4), 2) := by decide +kernel
theorem dX11_taught_15 : decode cX11_taught 15 = .ok (.istore_n 3, 1) := by decide +kernel
theorem dX11_taught_16 : decode cX11_taught 16 = .ok (.bipush 69, 2) := by decide +kernel
theorem dX11_taught_18 : decode cX11_taught 18 = .ok (.istore 4, 2) := by decide +kernel
theorem dX11_taught_20 : decode cX11_taught 20 = .ok (.iload 4, 2) := by decide +kernel
theorem dX11_taught_22 : decode cX11_taught 22 = .ok (.ifCond .lt 52, 3) := by decide +kernel
theorem dX11_taught_25 : decode cX11_taught 25 = .ok (.aload_n 0, 1) := by decide +kernel
theorem dX11_taught_26 : decode cX11_taught 26 = .ok (.getfield 34, 3) := by decide +kernel
theorem dX11_taught_29 : decode cX11_taught 29 = .ok (.iconst 0, 1) := by decide +kernel
theorem dX11_taught_30 : decode cX11_taught 30 = .ok (.aload_n 0, 1) := by decide +kernel
theorem dX11_taught_31 : decode cX11_taught 31 = .ok (.getfield 37, 3) := by decide +kernel
theorem dX11_taught_34 : decode cX11_taught 34 = .ok (.iconst 0, 1) := by decide +kernel
theorem dX11_taught_35 : decode cX11_taught 35 = .ok (.invokestatic 165, 3) := by decide +kernel
theorem dX11_taught_38 : decode cX11_taught 38 = .ok (.aload_n 0, 1) := by decide +kernel
theorem dX11_taught_39 : decode cX11_taught 39 = .ok (.aload_n 0, 1) := by decide +kernel
theorem dX11_taught_40 : decode cX11_taught 40 = .ok (.getfield 37, 3) := by decide +kernel
theorem dX11_taught_43 : decode cX11_taught 43 = .ok (.iload 4, 2) := by decide +kernel
theorem dX11_taught_45 : decode cX11_taught 45 = .ok (.invokevirtual 182, 3) := by decide +kernel
theorem dX11_taught_48 : decode cX11_taught 48 = .ok (.ifCond .eq 20, 3) := by decide +kernel
theorem dX11_taught_51 : decode cX11_taught 51 = .ok (.aload_n 0, 1) := by decide +kernel
theorem dX11_taught_52 : decode cX11_taught 52 = .ok (.aload_n 0, 1) := by decide +kernel
theorem dX11_taught_53 : decode cX11_taught 53 = .ok (.getfield 37, 3) := by decide +kernel
theorem dX11_taught_56 : decode cX11_taught 56 = .ok (.invokevirtual 199, 3) := by decide +kernel
theorem dX11_taught_59 : decode cX11_taught 59 = .ok (.ifCond .eq 9, 3) := by decide +kernel
theorem dX11_taught_62 : decode cX11_taught 62 = .ok (.iinc 2 1, 3) := by decide +kernel
theorem dX11_taught_65 : decode cX11_taught 65 = .ok (.iload 4, 2) := by decide +kernel
theorem dX11_taught_67 : decode cX11_taught 67 = .ok (.istore_n 3, 1) := by decide +kernel
theorem dX11_taught_68 : decode cX11_taught 68 = .ok (.iinc 4 (-1), 3) := by decide +kernel
theorem dX11_taught_71 : decode cX11_taught 71 = .ok (.goto (-51), 3) := by decide +kernel
theorem dX11_taught_74 : decode cX11_taught 74 = .ok (.iload_n 1, 1) := by decide +kernel
theorem dX11_taught_75 : decode cX11_taught 75 = .ok (.ifCond .ne 7, 3) := by decide +kernel
theorem dX11_taught_78 : decode cX11_taught 78 = .ok (.iload_n 2, 1) := by decide +kernel
theorem dX11_taught_79 : decode cX11_taught 79 = .ok (.goto 4, 3) := by decide +kernel
theorem dX11_taught_82 : decode cX11_taught 82 = .ok (.iload_n 3, 1) := by decide +kernel
theorem dX11_taught_83 : decode cX11_taught 83 = .ok (.ireturn, 1) := by decide +kernel
theorem dX11_setter_0 : decode cX11_setter 0 = .ok (.iload_n 1, 1) := by decide +kernel
theorem dX11_setter_1 : decode cX11_setter 1 = .ok (.iconst 0, 1) := by decide +kernel
theorem dX11_setter_2 : decode cX11_setter 2 = .ok (.iconst 1, 1) := by decide +kernel
theorem dX11_setter_3 : decode cX11_setter 3 = .ok (.invokestatic 94, 3) := by decide +kernel
theorem dX11_setter_6 : decode cX11_setter 6 = .ok (.ifCond .ne 5, 3) := by decide +kernel
theorem dX11_setter_9 : decode cX11_setter 9 = .ok (.iconst (-1), 1) := by decide +kernel
theorem dX11_setter_10 : decode cX11_setter 10 = .ok (.ireturn, 1) := by decide +kernel
theorem dX11_setter_11 : decode cX11_setter 11 = .ok (.iconst 0, 1) := by decide +kernel
theorem dX11_setter_12 : decode cX11_setter 12 = .ok (.istore_n 2, 1) := by decide +kernel
theorem dX11_setter_13 : decode cX11_setter 13 = .ok (.bipush (-4), 2) := by decide +kernel
theorem dX11_setter_15 : decode cX11_setter 15 = .ok (.istore_n 3, 1) := by decide +kernel
theorem dX11_setter_16 : decode cX11_setter 16 = .ok (.bipush 100, 2) := by decide +kernel
theorem dX11_setter_18 : decode cX11_setter 18 = .ok (.istore 4, 2) := by decide +kernel
theorem dX11_setter_20 : decode cX11_setter 20 = .ok (.iload 4, 2) := by decide +kernel
theorem dX11_setter_22 : decode cX11_setter 22 = .ok (.bipush (-100), 2) := by decide +kernel
theorem dX11_setter_24 : decode cX11_setter 24 = .ok (.if_icmp .lt 94, 3) := by decide +kernel
theorem dX11_setter_27 : decode cX11_setter 27 = .ok (.aload_n 0, 1) := by decide +kernel
theorem dX11_setter_28 : decode cX11_setter 28 = .ok (.getfield 34, 3) := by decide +kernel
theorem dX11_setter_31 : decode cX11_setter 31 = .ok (.iconst 0, 1) := by decide +kernel
theorem dX11_setter_32 : decode cX11_setter 32 = .ok (.aload_n 0, 1) := by decide +kernel
theorem dX11_setter_33 : decode cX11_setter 33 = .ok (.getfield 37, 3) := by decide +kernel
theorem dX11_setter_36 : decode cX11_setter 36 = .ok (.iconst 0, 1) := by decide +kernel
theorem dX11_setter_37 : decode cX11_setter 37 = .ok (.invokestatic 165, 3) := by decide +kernel
theorem dX11_setter_40 : decode cX11_setter 40 = .ok (.iconst 0, 1) := by decide +kernel
theorem dX11_setter_41 : decode cX11_setter 41 = .ok (.istore 5, 2) := by decide +kernel
theorem dX11_setter_43 : decode cX11_setter 43 = .ok (.iload 5, 2) := by decide +kernel
theorem dX11_setter_45 : decode cX11_setter 45 = .ok (.aload_n 0, 1) := by decide +kernel
theorem dX11_setter_46 : decode cX11_setter 46 = .ok (.getfield 91, 3) := by decide +kernel
theorem dX11_setter_49 : decode cX11_setter 49 = .ok (.if_icmp .ge 43, 3) := by decide +kernel
theorem dX11_setter_52 : decode cX11_setter 52 = .ok (.aload_n 0, 1) := by decide +kernel
theorem dX11_setter_53 : decode cX11_setter 53 = .ok (.getfield 37, 3) := by decide +kernel
theorem dX11_setter_56 : decode cX11_setter 56 = .ok (.iconst 1, 1) := by decide +kernel
theorem dX11_setter_57 : decode cX11_setter 57 = .ok (.iload 5, 2) := by decide +kernel
theorem dX11_setter_59 : decode cX11_setter 59 = .ok (.iadd, 1) := by decide +kernel
theorem dX11_setter_60 : decode cX11_setter 60 = .ok (.aload_n 0, 1) := by decide +kernel
theorem dX11_setter_61 : decode cX11_setter 61 = .ok (.getfield 25, 3) := by decide +kernel
theorem dX11_setter_64 : decode cX11_setter 64 = .ok (.iload 5, 2) := by decide +kernel
theorem dX11_setter_66 : decode cX11_setter 66 = .ok (.iaload, 1) := by decide +kernel
theorem dX11_setter_67 : decode cX11_setter 67 = .ok (.iconst 3, 1) := by decide +kernel
theorem dX11_setter_68 : decode cX11_setter 68 = .ok (.if_icmp .ne 15, 3) := by decide +kernel
theorem dX11_setter_71 : decode cX11_setter 71 = .ok (.aload_n 0, 1) := by decide +kernel
theorem dX11_setter_72 : decode cX11_setter 72 = .ok (.getfield 34, 3) := by decide +kernel
theorem dX11_setter_75 : decode cX11_setter 75 = .ok (.iconst 1, 1) := by decide +kernel
theorem dX11_setter_76 : decode cX11_setter 76 = .ok (.iload 5, 2) := by decide +kernel
theorem dX11_setter_78 : decode cX11_setter 78 = .ok (.iadd, 1) := by decide +kernel
theorem dX11_setter_79 : decode cX11_setter 79 = .ok (.iaload, 1) := by decide +kernel
theorem dX11_setter_80 : decode cX11_setter 80 = .ok (.goto 5, 3) := by decide +kernel
theorem dX11_setter_83 : decode cX11_setter 83 = .ok (.iload 4, 2) := by decide +kernel
theorem dX11_setter_85 : decode cX11_setter 85 = .ok (.iastore, 1) := by decide +kernel
theorem dX11_setter_86 : decode cX11_setter 86 = .ok (.iinc 5 1, 3) := by decide +kernel
theorem dX11_setter_89 : decode cX11_setter 89 = .ok (.goto (-46), 3) := by decide +kernel
theorem dX11_setter_92 : decode cX11_setter 92 = .ok (.aload_n 0, 1) := by decide +kernel
theorem dX11_setter_93 : decode cX11_setter 93 = .ok (.aload_n 0, 1) := by decide +kernel
theorem dX11_setter_94 : decode cX11_setter 94 = .ok (.getfield 37, 3) := by decide +kernel
theorem dX11_setter_97 : decode cX11_setter 97 = .ok (.invokevirtual 199, 3) := by decide +kernel
theorem dX11_setter_100 : decode cX11_setter 100 = .ok (.ifCond .eq 12, 3) := by decide +kernel
theorem dX11_setter_103 : decode cX11_setter 103 = .ok (.iinc 2 1, 3) := by decide +kernel
theorem dX11_setter_106 : decode cX11_setter 106 = .ok (.iload 4, 2) := by decide +kernel
theorem dX11_setter_108 : decode cX11_setter 108 = .ok (.bipush 100, 2) := by decide +kernel
theorem dX11_setter_110 : decode cX11_setter 110 = .ok (.iadd, 1) := by decide +kernel
theorem dX11_setter_111 : decode cX11_setter 111 = .ok (.istore_n 3, 1) := by decide +kernel
theorem dX11_setter_112 : decode cX11_setter 112 = .ok (.iinc 4 (-1), 3) := by decide +kernel
theorem dX11_setter_115 : decode cX11_setter 115 = .ok (.goto (-95), 3) := by decide +kernel
theorem dX11_setter_118 : decode cX11_setter 118 = .ok (.iload_n 1, 1) := by decide +kernel
theorem dX11_setter_119 : decode cX11_setter 119 = .ok (.ifCond .ne 7, 3) := by decide +kernel
theorem dX11_setter_122 : decode cX11_setter 122 = .ok (.iload_n 2, 1) := by decide +kernel
theorem dX11_setter_123 : decode cX11_setter 123 = .ok (.goto 4, 3) := by decide +kernel
theorem dX11_setter_126 : decode cX11_setter 126 = .ok (.iload_n 3, 1) := by decide +kernel
theorem dX11_setter_127 : decode cX11_setter 127 = .ok (.ireturn, 1) := by decide +kernel
theorem dX11_child_0 : decode cX11_child 0 = .ok (.aload_n 0, 1) := by decide +kernel
theorem dX11_child_1 : decode cX11_child 1 = .ok (.iload_n 1, 1) := by decide +kernel
theorem dX11_child_2 : decode cX11_child 2 = .ok (.invokevirtual 134, 3) := by decide +kernel
theorem dX11_child_5 : decode cX11_child 5 = .ok (.ifCond .ne 5, 3) := by decide +kernel
theorem dX11_child_8 : decode cX11_child 8 = .ok (.iconst (-1), 1) := by decide +kernel
theorem dX11_child_9 : decode cX11_child 9 = .ok (.ireturn, 1) := by decide +kernel
theorem dX11_child_10 : decode cX11_child 10 = .ok (.bipush (-4), 2) := by decide +kernel
theorem dX11_child_12 : decode cX11_child 12 = .ok (.istore_n 2, 1) := by decide +kernel
theorem dX11_child_13 : decode cX11_child 13 = .ok (.sipush 9999, 3) := by decide +kernel
theorem dX11_child_16 : decode cX11_child 16 = .ok (.istore_n 3, 1) := by decide +kernel
theorem dX11_child_17 : decode cX11_child 17 = .ok (.iconst 0, 1) := by decide +kernel
theorem dX11_child_18 : decode cX11_child 18 = .ok (.istore 4, 2) := by decide +kernel
theorem dX11_child_20 : decode cX11_child 20 = .ok (.iload 4, 2) := by decide +kernel
theorem dX11_child_22 : decode cX11_child 22 = .ok (.aload_n 0, 1) := by decide +kernel
theorem dX11_child_23 : decode cX11_child 23 = .ok (.getfield 91, 3) := by decide +kernel
theorem dX11_child_26 : decode cX11_child 26 = .ok (.if_icmp .ge 50, 3) := by decide +kernel
theorem dX11_child_29 : decode cX11_child 29 = .ok (.aload_n 0, 1) := by decide +kernel
theorem dX11_child_30 : decode cX11_child 30 = .ok (.getfield 34, 3) := by decide +kernel
theorem dX11_child_33 : decode cX11_child 33 = .ok (.iconst 1, 1) := by decide +kernel
theorem dX11_child_34 : decode cX11_child 34 = .ok (.iload 4, 2) := by decide +kernel
theorem dX11_child_36 : decode cX11_child 36 = .ok (.iadd, 1) := by decide +kernel
theorem dX11_child_37 : decode cX11_child 37 = .ok (.iaload, 1) := by decide +kernel
theorem dX11_child_38 : decode cX11_child 38 = .ok (.aload_n 0, 1) := by decide +kernel
theorem dX11_child_39 : decode cX11_child 39 = .ok (.getfield 34, 3) := by decide +kernel
theorem dX11_child_42 : decode cX11_child 42 = .ok (.iconst 1, 1) := by decide +kernel
theorem dX11_child_43 : decode cX11_child 43 = .ok (.iload_n 1, 1) := by decide +kernel
theorem dX11_child_44 : decode cX11_child 44 = .ok (.iadd, 1) := by decide +kernel
theorem dX11_child_45 : decode cX11_child 45 = .ok (.iaload, 1) := by decide +kernel
theorem dX11_child_46 : decode cX11_child 46 = .ok (.isub, 1) := by decide +kernel
theorem dX11_child_47 : decode cX11_child 47 = .ok (.invokestatic 151, 3) := by decide +kernel
theorem dX11_child_50 : decode cX11_child 50 = .ok (.istore 5, 2) := by decide +kernel
theorem dX11_child_52 : decode cX11_child 52 = .ok (.iload 4, 2) := by decide +kernel
theorem dX11_child_54 : decode cX11_child 54 = .ok (.iload_n 1, 1) := by decide +kernel
theorem dX11_child_55 : decode cX11_child 55 = .ok (.if_icmp .eq 15, 3) := by decide +kernel
theorem dX11_child_58 : decode cX11_child 58 = .ok (.iload 5, 2) := by decide +kernel
theorem dX11_child_60 : decode cX11_child 60 = .ok (.iload_n 3, 1) := by decide +kernel
theorem dX11_child_61 : decode cX11_child 61 = .ok (.if_icmp .ge 9, 3) := by decide +kernel
theorem dX11_child_64 : decode cX11_child 64 = .ok (.iload 4, 2) := by decide +kernel
theorem dX11_child_66 : decode cX11_child 66 = .ok (.istore_n 2, 1) := by decide +kernel
theorem dX11_child_67 : decode cX11_child 67 = .ok (.iload 5, 2) := by decide +kernel
theorem dX11_child_69 : decode cX11_child 69 = .ok (.istore_n 3, 1) := by decide +kernel
theorem dX11_child_70 : decode cX11_child 70 = .ok (.iinc 4 1, 3) := by decide +kernel
theorem dX11_child_73 : decode cX11_child 73 = .ok (.goto (-53), 3) := by decide +kernel
theorem dX11_child_76 : decode cX11_child 76 = .ok (.iload_n 2, 1) := by decide +kernel
theorem dX11_child_77 : decode cX11_child 77 = .ok (.ireturn, 1) := by decide +kernel
theorem dX11_draughts_0 : decode cX11_draughts 0 = .ok (.aload_n 0, 1) := by decide +kernel
theorem dX11_draughts_1 : decode cX11_draughts 1 = .ok (.iload_n 1, 1) := by decide +kernel
theorem dX11_draughts_2 : decode cX11_draughts 2 = .ok (.invokevirtual 134, 3) := by decide +kernel
theorem dX11_draughts_5 : decode cX11_draughts 5 = .ok (.ifCond .eq 33, 3) := by decide +kernel
theorem dX11_draughts_8 : decode cX11_draughts 8 = .ok (.iload_n 2, 1) := by decide +kernel
theorem dX11_draughts_9 : decode cX11_draughts 9 = .ok (.iconst 0, 1) := by decide +kernel
theorem dX11_draughts_10 : decode cX11_draughts 10 = .ok (.bipush 6, 2) := by decide +kernel
theorem dX11_draughts_12 : decode cX11_draughts 12 = .ok (.invokestatic 94, 3) := by decide +kernel
theorem dX11_draughts_15 : decode cX11_draughts 15 = .ok (.ifCond .eq 23, 3) := by decide +kernel
theorem dX11_draughts_18 : decode cX11_draughts 18 = .ok (.iload_n 3, 1) := by decide +kernel
theorem dX11_draughts_19 : decode cX11_draughts 19 = .ok (.iconst 0, 1) := by decide +kernel
theorem dX11_draughts_20 : decode cX11_draughts 20 = .ok (.bipush 10, 2) := by decide +kernel
theorem dX11_draughts_22 : decode cX11_draughts 22 = .ok (.invokestatic 94, 3) := by decide +kernel
theorem dX11_draughts_25 : decode cX11_draughts 25 = .ok (.ifCond .eq 13, 3) := by decide +kernel
theorem dX11_draughts_28 : decode cX11_draughts 28 = .ok (.iload 4, 2) := by decide +kernel
theorem dX11_draughts_30 : decode cX11_draughts 30 = .ok (.iconst 0, 1) := by decide +kernel
theorem dX11_draughts_31 : decode cX11_draughts 31 = .ok (.iconst 1, 1) := by decide +kernel
theorem dX11_draughts_32 : decode cX11_draughts 32 = .ok (.invokestatic 94, 3) := by decide +kernel
theorem dX11_draughts_35 : decode cX11_draughts 35 = .ok (.ifCond .ne 5, 3) := by decide +kernel
theorem dX11_draughts_38 : decode cX11_draughts 38 = .ok (.iconst (-1), 1) := by decide +kernel
theorem dX11_draughts_39 : decode cX11_draughts 39 = .ok (.ireturn, 1) := by decide +kernel
theorem dX11_draughts_40 : decode cX11_draughts 40 = .ok (.iconst 0, 1) := by decide +kernel
theorem dX11_draughts_41 : decode cX11_draughts 41 = .ok (.istore 5, 2) := by decide +kernel
theorem dX11_draughts_43 : decode cX11_draughts 43 = .ok (.iconst 1, 1) := by decide +kernel
theorem dX11_draughts_44 : decode cX11_draughts 44 = .ok (.istore 6, 2) := by decide +kernel
theorem dX11_draughts_46 : decode cX11_draughts 46 = .ok (.iconst 0, 1) := by decide +kernel
theorem dX11_draughts_47 : decode cX11_draughts 47 = .ok (.istore 7, 2) := by decide +kernel
theorem dX11_draughts_49 : decode cX11_draughts 49 = .ok (.iload 7, 2) := by decide +kernel
theorem dX11_draughts_51 : decode cX11_draughts 51 = .ok (.iload_n 2, 1) := by decide +kernel
theorem dX11_draughts_52 : decode cX11_draughts 52 = .ok (.if_icmp .ge 16, 3) := by decide +kernel
theorem dX11_draughts_55 : decode cX11_draughts 55 = .ok (.iload 6, 2) := by decide +kernel
theorem dX11_draughts_57 : decode cX11_draughts 57 = .ok (.bipush 10, 2) := by decide +kernel
theorem dX11_draughts_59 : decode cX11_draughts 59 = .ok (.imul, 1) := by decide +kernel
theorem dX11_draughts_60 : decode cX11_draughts 60 = .ok (.istore 6, 2) := by decide +kernel
theorem dX11_draughts_62 : decode cX11_draughts 62 = .ok (.iinc 7 1, 3) := by decide +kernel
theorem dX11_draughts_65 : decode cX11_draughts 65 = .ok (.goto (-16), 3) := by decide +kernel
theorem dX11_draughts_68 : decode cX11_draughts 68 = .ok (.iconst 0, 1) := by decide +kernel
theorem dX11_draughts_69 : decode cX11_draughts 69 = .ok (.istore 7, 2) := by decide +kernel
theorem dX11_draughts_71 : decode cX11_draughts 71 = .ok (.iload 7, 2) := by decide +kernel
theorem dX11_draughts_73 : decode cX11_draughts 73 = .ok (.iconst 1, 1) := by decide +kernel
theorem dX11_draughts_74 : decode cX11_draughts 74 = .ok (.iload_n 2, 1) := by decide +kernel
theorem dX11_draughts_75 : decode cX11_draughts 75 = .ok (.ishl, 1) := by decide +kernel
theorem dX11_draughts_76 : decode cX11_draughts 76 = .ok (.if_icmp .ge 108, 3) := by decide +kernel
theorem dX11_draughts_79 : decode cX11_draughts 79 = .ok (.aload_n 0, 1) := by decide +kernel
theorem dX11_draughts_80 : decode cX11_draughts 80 = .ok (.getfield 34, 3) := by decide +kernel
theorem dX11_draughts_83 : decode cX11_draughts 83 = .ok (.iconst 0, 1) := by decide +kernel
theorem dX11_draughts_84 : decode cX11_draughts 84 = .ok (.aload_n 0, 1) := by decide +kernel
theorem dX11_draughts_85 : decode cX11_draughts 85 = .ok (.getfield 37, 3) := by decide +kernel
theorem dX11_draughts_88 : decode cX11_draughts 88 = .ok (.iconst 0, 1) := by decide +kernel
theorem dX11_draughts_89 : decode cX11_draughts 89 = .ok (.invokestatic 165, 3) := by decide +kernel
theorem dX11_draughts_92 : decode cX11_draughts 92 = .ok (.iconst 1, 1) := by decide +kernel
theorem dX11_draughts_93 : decode cX11_draughts 93 = .ok (.istore 8, 2) := by decide +kernel
theorem dX11_draughts_95 : decode cX11_draughts 95 = .ok (.iconst 0, 1) := by decide +kernel
theorem dX11_draughts_96 : decode cX11_draughts 96 = .ok (.istore 9, 2) := by decide +kernel
theorem dX11_draughts_98 : decode cX11_draughts 98 = .ok (.iload 9, 2) := by decide +kernel
theorem dX11_draughts_100 : decode cX11_draughts 100 = .ok (.iload_n 2, 1) := by decide +kernel
theorem dX11_draughts_101 : decode cX11_draughts 101 = .ok (.if_icmp .ge 55, 3) := by decide +kernel
theorem dX11_draughts_104 : decode cX11_draughts 104 = .ok (.iload 8, 2) := by decide +kernel
theorem dX11_draughts_106 : decode cX11_draughts 106 = .ok (.iload 7, 2) := by decide +kernel
theorem dX11_draughts_108 : decode cX11_draughts 108 = .ok (.iload 9, 2) := by decide +kernel
theorem dX11_draughts_110 : decode cX11_draughts 110 = .ok (.invokestatic 158, 3) := by decide +kernel
theorem dX11_draughts_113 : decode cX11_draughts 113 = .ok (.ifCond .eq 7, 3) := by decide +kernel
theorem dX11_draughts_116 : decode cX11_draughts 116 = .ok (.iload_n 3, 1) := by decide +kernel
theorem dX11_draughts_117 : decode cX11_draughts 117 = .ok (.goto 7, 3) := by decide +kernel
theorem dX11_draughts_120 : decode cX11_draughts 120 = .ok (.bipush 10, 2) := by decide +kernel
theorem dX11_draughts_122 : decode cX11_draughts 122 = .ok (.iload_n 3, 1) := by decide +kernel
theorem dX11_draughts_123 : decode cX11_draughts 123 = .ok (.isub, 1) := by decide +kernel
theorem dX11_draughts_124 : decode cX11_draughts 124 = .ok (.imul, 1) := by decide +kernel
theorem dX11_draughts_125 : decode cX11_draughts 125 = .ok (.istore 8, 2) := by decide +kernel
theorem dX11_draughts_127 : decode cX11_draughts 127 = .ok (.aload_n 0, 1) := by decide +kernel
theorem dX11_draughts_128 : decode cX11_draughts 128 = .ok (.aload_n 0, 1) := by decide +kernel
theorem dX11_draughts_129 : decode cX11_draughts 129 = .ok (.getfield 37, 3) := by decide +kernel
theorem dX11_draughts_132 : decode cX11_draughts 132 = .ok (.iload 7, 2) := by decide +kernel
theorem dX11_draughts_134 : decode cX11_draughts 134 = .ok (.iload 9, 2) := by decide +kernel
theorem dX11_draughts_136 : decode cX11_draughts 136 = .ok (.invokestatic 158, 3) := by decide +kernel
theorem dX11_draughts_139 : decode cX11_draughts 139 = .ok (.ifCond .ne 7, 3) := by decide +kernel
theorem dX11_draughts_142 : decode cX11_draughts 142 = .ok (.iconst 1, 1) := by decide +kernel
theorem dX11_draughts_143 : decode cX11_draughts 143 = .ok (.goto 4, 3) := by decide +kernel
theorem dX11_draughts_146 : decode cX11_draughts 146 = .ok (.iconst 0, 1) := by decide +kernel
theorem dX11_draughts_147 : decode cX11_draughts 147 = .ok (.invokevirtual 172, 3) := by decide +kernel
theorem dX11_draughts_150 : decode cX11_draughts 150 = .ok (.iinc 9 1, 3) := by decide +kernel
theorem dX11_draughts_153 : decode cX11_draughts 153 = .ok (.goto (-55), 3) := by decide +kernel
theorem dX11_draughts_156 : decode cX11_draughts 156 = .ok (.iload 5, 2) := by decide +kernel
theorem dX11_draughts_158 : decode cX11_draughts 158 = .ok (.aload_n 0, 1) := by decide +kernel
theorem dX11_draughts_159 : decode cX11_draughts 159 = .ok (.getfield 37, 3) := by decide +kernel
theorem dX11_draughts_162 : decode cX11_draughts 162 = .ok (.iconst 1, 1) := by decide +kernel
theorem dX11_draughts_163 : decode cX11_draughts 163 = .ok (.iload_n 1, 1) := by decide +kernel
theorem dX11_draughts_164 : decode cX11_draughts 164 = .ok (.iadd, 1) := by decide +kernel
theorem dX11_draughts_165 : decode cX11_draughts 165 = .ok (.iaload, 1) := by decide +kernel
theorem dX11_draughts_166 : decode cX11_draughts 166 = .ok (.ifCond .ne 8, 3) := by decide +kernel
theorem dX11_draughts_169 : decode cX11_draughts 169 = .ok (.iload 8, 2) := by decide +kernel
theorem dX11_draughts_171 : decode cX11_draughts 171 = .ok (.goto 4, 3) := by decide +kernel
theorem dX11_draughts_174 : decode cX11_draughts 174 = .ok (.iconst 0, 1) := by decide +kernel
theorem dX11_draughts_175 : decode cX11_draughts 175 = .ok (.iadd, 1) := by decide +kernel
theorem dX11_draughts_176 : decode cX11_draughts 176 = .ok (.istore 5, 2) := by decide +kernel
theorem dX11_draughts_178 : decode cX11_draughts 178 = .ok (.iinc 7 1, 3) := by decide +kernel
theorem dX11_draughts_181 : decode cX11_draughts 181 = .ok (.goto (-110), 3) := by decide +kernel
theorem dX11_draughts_184 : decode cX11_draughts 184 = .ok (.iload 5, 2) := by decide +kernel
theorem dX11_draughts_186 : decode cX11_draughts 186 = .ok (.istore 7, 2) := by decide +kernel
theorem dX11_draughts_188 : decode cX11_draughts 188 = .ok (.iload 6, 2) := by decide +kernel
theorem dX11_draughts_190 : decode cX11_draughts 190 = .ok (.istore 8, 2) := by decide +kernel
theorem dX11_draughts_192 : decode cX11_draughts 192 = .ok (.iload 8, 2) := by decide +kernel
theorem dX11_draughts_194 : decode cX11_draughts 194 = .ok (.ifCond .le 21, 3) := by decide +kernel
theorem dX11_draughts_197 : decode cX11_draughts 197 = .ok (.iload 7, 2) := by decide +kernel
theorem dX11_draughts_199 : decode cX11_draughts 199 = .ok (.iload 8, 2) := by decide +kernel
theorem dX11_draughts_201 : decode cX11_draughts 201 = .ok (.irem, 1) := by decide +kernel
theorem dX11_draughts_202 : decode cX11_draughts 202 = .ok (.istore 9, 2) := by decide +kernel
theorem dX11_draughts_204 : decode cX11_draughts 204 = .ok (.iload 8, 2) := by decide +kernel
theorem dX11_draughts_206 : decode cX11_draughts 206 = .ok (.istore 7, 2) := by decide +kernel
theorem dX11_draughts_208 : decode cX11_draughts 208 = .ok (.iload 9, 2) := by decide +kernel
theorem dX11_draughts_210 : decode cX11_draughts 210 = .ok (.istore 8, 2) := by decide +kernel
theorem dX11_draughts_212 : decode cX11_draughts 212 = .ok (.goto (-20), 3) := by decide +kernel
theorem dX11_draughts_215 : decode cX11_draughts 215 = .ok (.iload 4, 2) := by decide +kernel
theorem dX11_draughts_217 : decode cX11_draughts 217 = .ok (.ifCond .ne 8, 3) := by decide +kernel
theorem dX11_draughts_220 : decode cX11_draughts 220 = .ok (.iload 5, 2) := by decide +kernel
theorem dX11_draughts_222 : decode cX11_draughts 222 = .ok (.goto 5, 3) := by decide +kernel
theorem dX11_draughts_225 : decode cX11_draughts 225 = .ok (.iload 6, 2) := by decide +kernel
theorem dX11_draughts_227 : decode cX11_draughts 227 = .ok (.iload 7, 2) := by decide +kernel
theorem dX11_draughts_229 : decode cX11_draughts 229 = .ok (.idiv, 1) := by decide +kernel
theorem dX11_draughts_230 : decode cX11_draughts 230 = .ok (.ireturn, 1) := by decide +kernel
theorem dX11_rightOf_0 : decode cX11_rightOf 0 = .ok (.iconst 0, 1) := by decide +kernel
theorem dX11_rightOf_1 : decode cX11_rightOf 1 = .ok (.istore_n 2, 1) := by decide +kernel
theorem dX11_rightOf_2 : decode cX11_rightOf 2 = .ok (.iconst 0, 1) := by decide +kernel
theorem dX11_rightOf_3 : decode cX11_rightOf 3 = .ok (.istore_n 3, 1) := by decide +kernel
theorem dX11_rightOf_4 : decode cX11_rightOf 4 = .ok (.iload_n 3, 1) := by decide +kernel
theorem dX11_rightOf_5 : decode cX11_rightOf 5 = .ok (.aload_n 0, 1) := by decide +kernel
theorem dX11_rightOf_6 : decode cX11_rightOf 6 = .ok (.getfield 91, 3) := by decide +kernel
theorem dX11_rightOf_9 : decode cX11_rightOf 9 = .ok (.if_icmp .ge 25, 3) := by decide +kernel
theorem dX11_rightOf_12 : decode cX11_rightOf 12 = .ok (.iload_n 2, 1) := by decide +kernel
theorem dX11_rightOf_13 : decode cX11_rightOf 13 = .ok (.aload_n 1, 1) := by decide +kernel
theorem dX11_rightOf_14 : decode cX11_rightOf 14 = .ok (.iconst 1, 1) := by decide +kernel
theorem dX11_rightOf_15 : decode cX11_rightOf 15 = .ok (.iload_n 3, 1) := by decide +kernel
theorem dX11_rightOf_16 : decode cX11_rightOf 16 = .ok (.iadd, 1) := by decide +kernel
theorem dX11_rightOf_17 : decode cX11_rightOf 17 = .ok (.iaload, 1) := by decide +kernel
theorem dX11_rightOf_18 : decode cX11_rightOf 18 = .ok (.ifCond .ne 7, 3) := by decide +kernel
theorem dX11_rightOf_21 : decode cX11_rightOf 21 = .ok (.iconst 1, 1) := by decide +kernel
theorem dX11_rightOf_22 : decode cX11_rightOf 22 = .ok (.goto 4, 3) := by decide +kernel
theorem dX11_rightOf_25 : decode cX11_rightOf 25 = .ok (.iconst 0, 1) := by decide +kernel
theorem dX11_rightOf_26 : decode cX11_rightOf 26 = .ok (.iadd, 1) := by decide +kernel
theorem dX11_rightOf_27 : decode cX11_rightOf 27 = .ok (.istore_n 2, 1) := by decide +kernel
theorem dX11_rightOf_28 : decode cX11_rightOf 28 = .ok (.iinc 3 1, 3) := by decide +kernel
theorem dX11_rightOf_31 : decode cX11_rightOf 31 = .ok (.goto (-27), 3) := by decide +kernel
theorem dX11_rightOf_34 : decode cX11_rightOf 34 = .ok (.iload_n 2, 1) := by decide +kernel
theorem dX11_rightOf_35 : decode cX11_rightOf 35 = .ok (.ireturn, 1) := by decide +kernel
theorem dX11_year_0 : decode cX11_year 0 = .ok (.iload_n 1, 1) := by decide +kernel
theorem dX11_year_1 : decode cX11_year 1 = .ok (.iconst 0, 1) := by decide +kernel
theorem dX11_year_2 : decode cX11_year 2 = .ok (.sipush 9999, 3) := by decide +kernel
theorem dX11_year_5 : decode cX11_year 5 = .ok (.invokestatic 94, 3) := by decide +kernel
theorem dX11_year_8 : decode cX11_year 8 = .ok (.ifCond .eq 22, 3) := by decide +kernel
theorem dX11_year_11 : decode cX11_year 11 = .ok (.iload_n 2, 1) := by decide +kernel
theorem dX11_year_12 : decode cX11_year 12 = .ok (.iconst 1, 1) := by decide +kernel
theorem dX11_year_13 : decode cX11_year 13 = .ok (.bipush 60, 2) := by decide +kernel
theorem dX11_year_15 : decode cX11_year 15 = .ok (.invokestatic 94, 3) := by decide +kernel
theorem dX11_year_18 : decode cX11_year 18 = .ok (.ifCond .eq 12, 3) := by decide +kernel
theorem dX11_year_21 : decode cX11_year 21 = .ok (.iload_n 3, 1) := by decide +kernel
theorem dX11_year_22 : decode cX11_year 22 = .ok (.iconst 0, 1) := by decide +kernel
theorem dX11_year_23 : decode cX11_year 23 = .ok (.iconst 1, 1) := by decide +kernel
theorem dX11_year_24 : decode cX11_year 24 = .ok (.invokestatic 94, 3) := by decide +kernel
theorem dX11_year_27 : decode cX11_year 27 = .ok (.ifCond .ne 5, 3) := by decide +kernel
theorem dX11_year_30 : decode cX11_year 30 = .ok (.iconst (-1), 1) := by decide +kernel
theorem dX11_year_31 : decode cX11_year 31 = .ok (.ireturn, 1) := by decide +kernel
theorem dX11_year_32 : decode cX11_year 32 = .ok (.aload_n 0, 1) := by decide +kernel
theorem dX11_year_33 : decode cX11_year 33 = .ok (.getfield 34, 3) := by decide +kernel
theorem dX11_year_36 : decode cX11_year 36 = .ok (.iconst 0, 1) := by decide +kernel
theorem dX11_year_37 : decode cX11_year 37 = .ok (.aload_n 0, 1) := by decide +kernel
theorem dX11_year_38 : decode cX11_year 38 = .ok (.getfield 37, 3) := by decide +kernel
theorem dX11_year_41 : decode cX11_year 41 = .ok (.iconst 0, 1) := by decide +kernel
theorem dX11_year_42 : decode cX11_year 42 = .ok (.invokestatic 165, 3) := by decide +kernel
theorem dX11_year_45 : decode cX11_year 45 = .ok (.iconst 0, 1) := by decide +kernel
theorem dX11_year_46 : decode cX11_year 46 = .ok (.istore 4, 2) := by decide +kernel
theorem dX11_year_48 : decode cX11_year 48 = .ok (.iload 4, 2) := by decide +kernel
theorem dX11_year_50 : decode cX11_year 50 = .ok (.iload_n 2, 1) := by decide +kernel
theorem dX11_year_51 : decode cX11_year 51 = .ok (.if_icmp .ge 97, 3) := by decide +kernel
theorem dX11_year_54 : decode cX11_year 54 = .ok (.ldc2_w 203, 3) := by decide +kernel
theorem dX11_year_57 : decode cX11_year 57 = .ok (.iload_n 1, 1) := by decide +kernel
theorem dX11_year_58 : decode cX11_year 58 = .ok (.i2l, 1) := by decide +kernel
theorem dX11_year_59 : decode cX11_year 59 = .ok (.lmul, 1) := by decide +kernel
theorem dX11_year_60 : decode cX11_year 60 = .ok (.ldc2_w 205, 3) := by decide +kernel
theorem dX11_year_63 : decode cX11_year 63 = .ok (.iload 4, 2) := by decide +kernel
theorem dX11_year_65 : decode cX11_year 65 = .ok (.i2l, 1) := by decide +kernel
theorem dX11_year_66 : decode cX11_year 66 = .ok (.lmul, 1) := by decide +kernel
theorem dX11_year_67 : decode cX11_year 67 = .ok (.ladd, 1) := by decide +kernel
theorem dX11_year_68 : decode cX11_year 68 = .ok (.lconst 1, 1) := by decide +kernel
theorem dX11_year_69 : decode cX11_year 69 = .ok (.ladd, 1) := by decide +kernel
theorem dX11_year_70 : decode cX11_year 70 = .ok (.lstore 5, 2) := by decide +kernel
theorem dX11_year_72 : decode cX11_year 72 = .ok (.lload 5, 2) := by decide +kernel
theorem dX11_year_74 : decode cX11_year 74 = .ok (.lload 5, 2) := by decide +kernel
theorem dX11_year_76 : decode cX11_year 76 = .ok (.lmul, 1) := by decide +kernel
theorem dX11_year_77 : decode cX11_year 77 = .ok (.ldc2_w 207, 3) := by decide +kernel
theorem dX11_year_80 : decode cX11_year 80 = .ok (.lrem, 1) := by decide +kernel
theorem dX11_year_81 : decode cX11_year 81 = .ok (.ldc2_w 209, 3) := by decide +kernel
theorem dX11_year_84 : decode cX11_year 84 = .ok (.ldiv, 1) := by decide +kernel
theorem dX11_year_85 : decode cX11_year 85 = .ok (.l2i, 1) := by decide +kernel
theorem dX11_year_86 : decode cX11_year 86 = .ok (.istore 7, 2) := by decide +kernel
theorem dX11_year_88 : decode cX11_year 88 = .ok (.iload 7, 2) := by decide +kernel
theorem dX11_year_90 : decode cX11_year 90 = .ok (.aload_n 0, 1) := by decide +kernel
theorem dX11_year_91 : decode cX11_year 91 = .ok (.getfield 91, 3) := by decide +kernel
theorem dX11_year_94 : decode cX11_year 94 = .ok (.irem, 1) := by decide +kernel
theorem dX11_year_95 : decode cX11_year 95 = .ok (.iload 7, 2) := by decide +kernel
theorem dX11_year_97 : decode cX11_year 97 = .ok (.bipush 8, 2) := by decide +kernel
theorem dX11_year_99 : decode cX11_year 99 = .ok (.idiv, 1) := by decide +kernel
theorem dX11_year_100 : decode cX11_year 100 = .ok (.aload_n 0, 1) := by decide +kernel
theorem dX11_year_101 : decode cX11_year 101 = .ok (.getfield 91, 3) := by decide +kernel
theorem dX11_year_104 : decode cX11_year 104 = .ok (.irem, 1) := by decide +kernel
theorem dX11_year_105 : decode cX11_year 105 = .ok (.if_icmp .eq 28, 3) := by decide +kernel
theorem dX11_year_108 : decode cX11_year 108 = .ok (.aload_n 0, 1) := by decide +kernel
theorem dX11_year_109 : decode cX11_year 109 = .ok (.aload_n 0, 1) := by decide +kernel
theorem dX11_year_110 : decode cX11_year 110 = .ok (.getfield 37, 3) := by decide +kernel
theorem dX11_year_113 : decode cX11_year 113 = .ok (.iload 7, 2) := by decide +kernel
theorem dX11_year_115 : decode cX11_year 115 = .ok (.aload_n 0, 1) := by decide +kernel
theorem dX11_year_116 : decode cX11_year 116 = .ok (.getfield 91, 3) := by decide +kernel
theorem dX11_year_119 : decode cX11_year 119 = .ok (.irem, 1) := by decide +kernel
theorem dX11_year_120 : decode cX11_year 120 = .ok (.iload 7, 2) := by decide +kernel
theorem dX11_year_122 : decode cX11_year 122 = .ok (.bipush 8, 2) := by decide +kernel
theorem dX11_year_124 : decode cX11_year 124 = .ok (.idiv, 1) := by decide +kernel
theorem dX11_year_125 : decode cX11_year 125 = .ok (.aload_n 0, 1) := by decide +kernel
theorem dX11_year_126 : decode cX11_year 126 = .ok (.getfield 91, 3) := by decide +kernel
theorem dX11_year_129 : decode cX11_year 129 = .ok (.irem, 1) := by decide +kernel
theorem dX11_year_130 : decode cX11_year 130 = .ok (.invokevirtual 154, 3) := by decide +kernel
theorem dX11_year_133 : decode cX11_year 133 = .ok (.aload_n 0, 1) := by decide +kernel
theorem dX11_year_134 : decode cX11_year 134 = .ok (.aload_n 0, 1) := by decide +kernel
theorem dX11_year_135 : decode cX11_year 135 = .ok (.getfield 37, 3) := by decide +kernel
theorem dX11_year_138 : decode cX11_year 138 = .ok (.iconst 1, 1) := by decide +kernel
theorem dX11_year_139 : decode cX11_year 139 = .ok (.invokevirtual 172, 3) := by decide +kernel
theorem dX11_year_142 : decode cX11_year 142 = .ok (.iinc 4 1, 3) := by decide +kernel
theorem dX11_year_145 : decode cX11_year 145 = .ok (.goto (-97), 3) := by decide +kernel
theorem dX11_year_148 : decode cX11_year 148 = .ok (.iload_n 3, 1) := by decide +kernel
theorem dX11_year_149 : decode cX11_year 149 = .ok (.ifCond .ne 18, 3) := by decide +kernel
theorem dX11_year_152 : decode cX11_year 152 = .ok (.aload_n 0, 1) := by decide +kernel
theorem dX11_year_153 : decode cX11_year 153 = .ok (.aload_n 0, 1) := by decide +kernel
theorem dX11_year_154 : decode cX11_year 154 = .ok (.getfield 37, 3) := by decide +kernel
theorem dX11_year_157 : decode cX11_year 157 = .ok (.invokevirtual 140, 3) := by decide +kernel
theorem dX11_year_160 : decode cX11_year 160 = .ok (.sipush 600, 3) := by decide +kernel
theorem dX11_year_163 : decode cX11_year 163 = .ok (.iadd, 1) := by decide +kernel
theorem dX11_year_164 : decode cX11_year 164 = .ok (.goto 11, 3) := by decide +kernel
theorem dX11_year_167 : decode cX11_year 167 = .ok (.aload_n 0, 1) := by decide +kernel
theorem dX11_year_168 : decode cX11_year 168 = .ok (.aload_n 0, 1) := by decide +kernel
theorem dX11_year_169 : decode cX11_year 169 = .ok (.getfield 37, 3) := by decide +kernel
theorem dX11_year_172 : decode cX11_year 172 = .ok (.invokevirtual 211, 3) := by decide +kernel
theorem dX11_year_175 : decode cX11_year 175 = .ok (.ireturn, 1) := by decide +kernel
theorem dX11_keep_0 : decode cX11_keep 0 = .ok (.aload_n 0, 1) := by decide +kernel
theorem dX11_keep_1 : decode cX11_keep 1 = .ok (.getfield 128, 3) := by decide +kernel
theorem dX11_keep_4 : decode cX11_keep 4 = .ok (.iconst 2, 1) := by decide +kernel
theorem dX11_keep_5 : decode cX11_keep 5 = .ok (.if_icmp .ne 6, 3) := by decide +kernel
theorem dX11_keep_8 : decode cX11_keep 8 = .ok (.bipush (-3), 2) := by decide +kernel
theorem dX11_keep_10 : decode cX11_keep 10 = .ok (.ireturn, 1) := by decide +kernel
theorem dX11_keep_11 : decode cX11_keep 11 = .ok (.aload_n 0, 1) := by decide +kernel
theorem dX11_keep_12 : decode cX11_keep 12 = .ok (.getfield 34, 3) := by decide +kernel
theorem dX11_keep_15 : decode cX11_keep 15 = .ok (.iconst 0, 1) := by decide +kernel
theorem dX11_keep_16 : decode cX11_keep 16 = .ok (.aload_n 0, 1) := by decide +kernel
theorem dX11_keep_17 : decode cX11_keep 17 = .ok (.getfield 46, 3) := by decide +kernel
theorem dX11_keep_20 : decode cX11_keep 20 = .ok (.bipush 15, 2) := by decide +kernel
theorem dX11_keep_22 : decode cX11_keep 22 = .ok (.aload_n 0, 1) := by decide +kernel
theorem dX11_keep_23 : decode cX11_keep 23 = .ok (.getfield 128, 3) := by decide +kernel
theorem dX11_keep_26 : decode cX11_keep 26 = .ok (.imul, 1) := by decide +kernel
theorem dX11_keep_27 : decode cX11_keep 27 = .ok (.invokestatic 165, 3) := by decide +kernel
theorem dX11_keep_30 : decode cX11_keep 30 = .ok (.aload_n 0, 1) := by decide +kernel
theorem dX11_keep_31 : decode cX11_keep 31 = .ok (.dup, 1) := by decide +kernel
theorem dX11_keep_32 : decode cX11_keep 32 = .ok (.getfield 128, 3) := by decide +kernel
theorem dX11_keep_35 : decode cX11_keep 35 = .ok (.iconst 1, 1) := by decide +kernel
theorem dX11_keep_36 : decode cX11_keep 36 = .ok (.iadd, 1) := by decide +kernel
theorem dX11_keep_37 : decode cX11_keep 37 = .ok (.putfield 128, 3) := by decide +kernel
theorem dX11_keep_40 : decode cX11_keep 40 = .ok (.aload_n 0, 1) := by decide +kernel
theorem dX11_keep_41 : decode cX11_keep 41 = .ok (.getfield 128, 3) := by decide +kernel
theorem dX11_keep_44 : decode cX11_keep 44 = .ok (.ireturn, 1) := by decide +kernel
theorem dX11_back_0 : decode cX11_back 0 = .ok (.aload_n 0, 1) := by decide +kernel
theorem dX11_back_1 : decode cX11_back 1 = .ok (.getfield 128, 3) := by decide +kernel
theorem dX11_back_4 : decode cX11_back 4 = .ok (.ifCond .ne 6, 3) := by decide +kernel
theorem dX11_back_7 : decode cX11_back 7 = .ok (.bipush (-2), 2) := by decide +kernel
theorem dX11_back_9 : decode cX11_back 9 = .ok (.ireturn, 1) := by decide +kernel
theorem dX11_back_10 : decode cX11_back 10 = .ok (.aload_n 0, 1) := by decide +kernel
theorem dX11_back_11 : decode cX11_back 11 = .ok (.dup, 1) := by decide +kernel
theorem dX11_back_12 : decode cX11_back 12 = .ok (.getfield 128, 3) := by decide +kernel
theorem dX11_back_15 : decode cX11_back 15 = .ok (.iconst 1, 1) := by decide +kernel
theorem dX11_back_16 : decode cX11_back 16 = .ok (.isub, 1) := by decide +kernel
theorem dX11_back_17 : decode cX11_back 17 = .ok (.putfield 128, 3) := by decide +kernel
theorem dX11_back_20 : decode cX11_back 20 = .ok (.aload_n 0, 1) := by decide +kernel
theorem dX11_back_21 : decode cX11_back 21 = .ok (.getfield 46, 3) := by decide +kernel
theorem dX11_back_24 : decode cX11_back 24 = .ok (.bipush 15, 2) := by decide +kernel
theorem dX11_back_26 : decode cX11_back 26 = .ok (.aload_n 0, 1) := by decide +kernel
theorem dX11_back_27 : decode cX11_back 27 = .ok (.getfield 128, 3) := by decide +kernel
theorem dX11_back_30 : decode cX11_back 30 = .ok (.imul, 1) := by decide +kernel
theorem dX11_back_31 : decode cX11_back 31 = .ok (.aload_n 0, 1) := by decide +kernel
theorem dX11_back_32 : decode cX11_back 32 = .ok (.getfield 34, 3) := by decide +kernel
theorem dX11_back_35 : decode cX11_back 35 = .ok (.iconst 0, 1) := by decide +kernel
theorem dX11_back_36 : decode cX11_back 36 = .ok (.invokestatic 165, 3) := by decide +kernel
theorem dX11_back_39 : decode cX11_back 39 = .ok (.aload_n 0, 1) := by decide +kernel
theorem dX11_back_40 : decode cX11_back 40 = .ok (.iconst 0, 1) := by decide +kernel
theorem dX11_back_41 : decode cX11_back 41 = .ok (.putfield 125, 3) := by decide +kernel
theorem dX11_back_44 : decode cX11_back 44 = .ok (.aload_n 0, 1) := by decide +kernel
theorem dX11_back_45 : decode cX11_back 45 = .ok (.getfield 128, 3) := by decide +kernel
theorem dX11_back_48 : decode cX11_back 48 = .ok (.ireturn, 1) := by decide +kernel
theorem dX11_count_0 : decode cX11_count 0 = .ok (.iconst 0, 1) := by decide +kernel
theorem dX11_count_1 : decode cX11_count 1 = .ok (.istore_n 2, 1) := by decide +kernel
theorem dX11_count_2 : decode cX11_count 2 = .ok (.iconst 0, 1) := by decide +kernel
theorem dX11_count_3 : decode cX11_count 3 = .ok (.istore_n 3, 1) := by decide +kernel
theorem dX11_count_4 : decode cX11_count 4 = .ok (.iload_n 3, 1) := by decide +kernel
theorem dX11_count_5 : decode cX11_count 5 = .ok (.aload_n 0, 1) := by decide +kernel
theorem dX11_count_6 : decode cX11_count 6 = .ok (.getfield 91, 3) := by decide +kernel
theorem dX11_count_9 : decode cX11_count 9 = .ok (.if_icmp .ge 21, 3) := by decide +kernel
theorem dX11_count_12 : decode cX11_count 12 = .ok (.iload_n 2, 1) := by decide +kernel
theorem dX11_count_13 : decode cX11_count 13 = .ok (.aload_n 0, 1) := by decide +kernel
theorem dX11_count_14 : decode cX11_count 14 = .ok (.getfield 28, 3) := by decide +kernel
theorem dX11_count_17 : decode cX11_count 17 = .ok (.iload_n 3, 1) := by decide +kernel
theorem dX11_count_18 : decode cX11_count 18 = .ok (.iaload, 1) := by decide +kernel
theorem dX11_count_19 : decode cX11_count 19 = .ok (.invokestatic 137, 3) := by decide +kernel
theorem dX11_count_22 : decode cX11_count 22 = .ok (.iadd, 1) := by decide +kernel
theorem dX11_count_23 : decode cX11_count 23 = .ok (.istore_n 2, 1) := by decide +kernel
theorem dX11_count_24 : decode cX11_count 24 = .ok (.iinc 3 1, 3) := by decide +kernel
theorem dX11_count_27 : decode cX11_count 27 = .ok (.goto (-23), 3) := by decide +kernel
theorem dX11_count_30 : decode cX11_count 30 = .ok (.iload_n 1, 1) := by decide +kernel
theorem dX11_count_31 : decode cX11_count 31 = .ok (.tableswitch 99 0 8 #[49, 54, 58, 63, 70, 79, 84, 89, 94], 49) := by decide +kernel
theorem dX11_count_80 : decode cX11_count 80 = .ok (.aload_n 0, 1) := by decide +kernel
theorem dX11_count_81 : decode cX11_count 81 = .ok (.getfield 91, 3) := by decide +kernel
theorem dX11_count_84 : decode cX11_count 84 = .ok (.ireturn, 1) := by decide +kernel
theorem dX11_count_85 : decode cX11_count 85 = .ok (.iload_n 2, 1) := by decide +kernel
theorem dX11_count_86 : decode cX11_count 86 = .ok (.iconst 2, 1) := by decide +kernel
theorem dX11_count_87 : decode cX11_count 87 = .ok (.idiv, 1) := by decide +kernel
theorem dX11_count_88 : decode cX11_count 88 = .ok (.ireturn, 1) := by decide +kernel
theorem dX11_count_89 : decode cX11_count 89 = .ok (.aload_n 0, 1) := by decide +kernel
theorem dX11_count_90 : decode cX11_count 90 = .ok (.getfield 122, 3) := by decide +kernel
theorem dX11_count_93 : decode cX11_count 93 = .ok (.ireturn, 1) := by decide +kernel
theorem dX11_count_94 : decode cX11_count 94 = .ok (.aload_n 0, 1) := by decide +kernel
theorem dX11_count_95 : decode cX11_count 95 = .ok (.getfield 34, 3) := by decide +kernel
theorem dX11_count_98 : decode cX11_count 98 = .ok (.iconst 0, 1) := by decide +kernel
theorem dX11_count_99 : decode cX11_count 99 = .ok (.iaload, 1) := by decide +kernel
theorem dX11_count_100 : decode cX11_count 100 = .ok (.ireturn, 1) := by decide +kernel
theorem dX11_count_101 : decode cX11_count 101 = .ok (.aload_n 0, 1) := by decide +kernel
theorem dX11_count_102 : decode cX11_count 102 = .ok (.aload_n 0, 1) := by decide +kernel
theorem dX11_count_103 : decode cX11_count 103 = .ok (.getfield 34, 3) := by decide +kernel
theorem dX11_count_106 : decode cX11_count 106 = .ok (.invokevirtual 211, 3) := by decide +kernel
theorem dX11_count_109 : decode cX11_count 109 = .ok (.ireturn, 1) := by decide +kernel
theorem dX11_count_110 : decode cX11_count 110 = .ok (.aload_n 0, 1) := by decide +kernel
theorem dX11_count_111 : decode cX11_count 111 = .ok (.getfield 131, 3) := by decide +kernel
theorem dX11_count_114 : decode cX11_count 114 = .ok (.ireturn, 1) := by decide +kernel
theorem dX11_count_115 : decode cX11_count 115 = .ok (.aload_n 0, 1) := by decide +kernel
theorem dX11_count_116 : decode cX11_count 116 = .ok (.getfield 125, 3) := by decide +kernel
theorem dX11_count_119 : decode cX11_count 119 = .ok (.ireturn, 1) := by decide +kernel
theorem dX11_count_120 : decode cX11_count 120 = .ok (.aload_n 0, 1) := by decide +kernel
theorem dX11_count_121 : decode cX11_count 121 = .ok (.getfield 128, 3) := by decide +kernel
theorem dX11_count_124 : decode cX11_count 124 = .ok (.ireturn, 1) := by decide +kernel
theorem dX11_count_125 : decode cX11_count 125 = .ok (.aload_n 0, 1) := by decide +kernel
theorem dX11_count_126 : decode cX11_count 126 = .ok (.getfield 98, 3) := by decide +kernel
theorem dX11_count_129 : decode cX11_count 129 = .ok (.ireturn, 1) := by decide +kernel
theorem dX11_count_130 : decode cX11_count 130 = .ok (.iconst (-1), 1) := by decide +kernel
theorem dX11_count_131 : decode cX11_count 131 = .ok (.ireturn, 1) := by decide +kernel
theorem dJ6_bitCount_0f7a4_0 : decode cJ6_bitCount_0f7a4 0 = .ok (.iload_n 0, 1) := by decide +kernel
theorem dJ6_bitCount_0f7a4_1 : decode cJ6_bitCount_0f7a4 1 = .ok (.iload_n 0, 1) := by decide +kernel
theorem dJ6_bitCount_0f7a4_2 : decode cJ6_bitCount_0f7a4 2 = .ok (.iconst 1, 1) := by decide +kernel
theorem dJ6_bitCount_0f7a4_3 : decode cJ6_bitCount_0f7a4 3 = .ok (.iushr, 1) := by decide +kernel
theorem dJ6_bitCount_0f7a4_4 : decode cJ6_bitCount_0f7a4 4 = .ok (.ldc_w 265, 3) := by decide +kernel
theorem dJ6_bitCount_0f7a4_7 : decode cJ6_bitCount_0f7a4 7 = .ok (.iand, 1) := by decide +kernel
theorem dJ6_bitCount_0f7a4_8 : decode cJ6_bitCount_0f7a4 8 = .ok (.isub, 1) := by decide +kernel
theorem dJ6_bitCount_0f7a4_9 : decode cJ6_bitCount_0f7a4 9 = .ok (.istore_n 0, 1) := by decide +kernel
theorem dJ6_bitCount_0f7a4_10 : decode cJ6_bitCount_0f7a4 10 = .ok (.iload_n 0, 1) := by decide +kernel
theorem dJ6_bitCount_0f7a4_11 : decode cJ6_bitCount_0f7a4 11 = .ok (.ldc_w 266, 3) := by decide +kernel
theorem dJ6_bitCount_0f7a4_14 : decode cJ6_bitCount_0f7a4 14 = .ok (.iand, 1) := by decide +kernel
theorem dJ6_bitCount_0f7a4_15 : decode cJ6_bitCount_0f7a4 15 = .ok (.iload_n 0, 1) := by decide +kernel
theorem dJ6_bitCount_0f7a4_16 : decode cJ6_bitCount_0f7a4 16 = .ok (.iconst 2, 1) := by decide +kernel
theorem dJ6_bitCount_0f7a4_17 : decode cJ6_bitCount_0f7a4 17 = .ok (.iushr, 1) := by decide +kernel
theorem dJ6_bitCount_0f7a4_18 : decode cJ6_bitCount_0f7a4 18 = .ok (.ldc_w 266, 3) := by decide +kernel
theorem dJ6_bitCount_0f7a4_21 : decode cJ6_bitCount_0f7a4 21 = .ok (.iand, 1) := by decide +kernel
theorem dJ6_bitCount_0f7a4_22 : decode cJ6_bitCount_0f7a4 22 = .ok (.iadd, 1) := by decide +kernel
theorem dJ6_bitCount_0f7a4_23 : decode cJ6_bitCount_0f7a4 23 = .ok (.istore_n 0, 1) := by decide +kernel
theorem dJ6_bitCount_0f7a4_24 : decode cJ6_bitCount_0f7a4 24 = .ok (.iload_n 0, 1) := by decide +kernel
theorem dJ6_bitCount_0f7a4_25 : decode cJ6_bitCount_0f7a4 25 = .ok (.iload_n 0, 1) := by decide +kernel
theorem dJ6_bitCount_0f7a4_26 : decode cJ6_bitCount_0f7a4 26 = .ok (.iconst 4, 1) := by decide +kernel
theorem dJ6_bitCount_0f7a4_27 : decode cJ6_bitCount_0f7a4 27 = .ok (.iushr, 1) := by decide +kernel
theorem dJ6_bitCount_0f7a4_28 : decode cJ6_bitCount_0f7a4 28 = .ok (.iadd, 1) := by decide +kernel
theorem dJ6_bitCount_0f7a4_29 : decode cJ6_bitCount_0f7a4 29 = .ok (.ldc_w 267, 3) := by decide +kernel
theorem dJ6_bitCount_0f7a4_32 : decode cJ6_bitCount_0f7a4 32 = .ok (.iand, 1) := by decide +kernel
theorem dJ6_bitCount_0f7a4_33 : decode cJ6_bitCount_0f7a4 33 = .ok (.istore_n 0, 1) := by decide +kernel
theorem dJ6_bitCount_0f7a4_34 : decode cJ6_bitCount_0f7a4 34 = .ok (.iload_n 0, 1) := by decide +kernel
theorem dJ6_bitCount_0f7a4_35 : decode cJ6_bitCount_0f7a4 35 = .ok (.iload_n 0, 1) := by decide +kernel
theorem dJ6_bitCount_0f7a4_36 : decode cJ6_bitCount_0f7a4 36 = .ok (.bipush 8, 2) := by decide +kernel
theorem dJ6_bitCount_0f7a4_38 : decode cJ6_bitCount_0f7a4 38 = .ok (.iushr, 1) := by decide +kernel
theorem dJ6_bitCount_0f7a4_39 : decode cJ6_bitCount_0f7a4 39 = .ok (.iadd, 1) := by decide +kernel
theorem dJ6_bitCount_0f7a4_40 : decode cJ6_bitCount_0f7a4 40 = .ok (.istore_n 0, 1) := by decide +kernel
theorem dJ6_bitCount_0f7a4_41 : decode cJ6_bitCount_0f7a4 41 = .ok (.iload_n 0, 1) := by decide +kernel
theorem dJ6_bitCount_0f7a4_42 : decode cJ6_bitCount_0f7a4 42 = .ok (.iload_n 0, 1) := by decide +kernel
theorem dJ6_bitCount_0f7a4_43 : decode cJ6_bitCount_0f7a4 43 = .ok (.bipush 16, 2) := by decide +kernel
theorem dJ6_bitCount_0f7a4_45 : decode cJ6_bitCount_0f7a4 45 = .ok (.iushr, 1) := by decide +kernel
theorem dJ6_bitCount_0f7a4_46 : decode cJ6_bitCount_0f7a4 46 = .ok (.iadd, 1) := by decide +kernel
theorem dJ6_bitCount_0f7a4_47 : decode cJ6_bitCount_0f7a4 47 = .ok (.istore_n 0, 1) := by decide +kernel
theorem dJ6_bitCount_0f7a4_48 : decode cJ6_bitCount_0f7a4 48 = .ok (.iload_n 0, 1) := by decide +kernel
theorem dJ6_bitCount_0f7a4_49 : decode cJ6_bitCount_0f7a4 49 = .ok (.bipush 63, 2) := by decide +kernel
theorem dJ6_bitCount_0f7a4_51 : decode cJ6_bitCount_0f7a4 51 = .ok (.iand, 1) := by decide +kernel
theorem dJ6_bitCount_0f7a4_52 : decode cJ6_bitCount_0f7a4 52 = .ok (.ireturn, 1) := by decide +kernel
theorem dJ9_abs_0f7a4_0 : decode cJ9_abs_0f7a4 0 = .ok (.iload_n 0, 1) := by decide +kernel
theorem dJ9_abs_0f7a4_1 : decode cJ9_abs_0f7a4 1 = .ok (.ifCond .ge 8, 3) := by decide +kernel
theorem dJ9_abs_0f7a4_4 : decode cJ9_abs_0f7a4 4 = .ok (.iload_n 0, 1) := by decide +kernel
theorem dJ9_abs_0f7a4_5 : decode cJ9_abs_0f7a4 5 = .ok (.ineg, 1) := by decide +kernel
theorem dJ9_abs_0f7a4_6 : decode cJ9_abs_0f7a4 6 = .ok (.goto 4, 3) := by decide +kernel
theorem dJ9_abs_0f7a4_9 : decode cJ9_abs_0f7a4 9 = .ok (.iload_n 0, 1) := by decide +kernel
theorem dJ9_abs_0f7a4_10 : decode cJ9_abs_0f7a4 10 = .ok (.ireturn, 1) := by decide +kernel
theorem dJ9_max_7cf53_0 : decode cJ9_max_7cf53 0 = .ok (.iload_n 0, 1) := by decide +kernel
theorem dJ9_max_7cf53_1 : decode cJ9_max_7cf53 1 = .ok (.iload_n 1, 1) := by decide +kernel
theorem dJ9_max_7cf53_2 : decode cJ9_max_7cf53 2 = .ok (.if_icmp .lt 7, 3) := by decide +kernel
theorem dJ9_max_7cf53_5 : decode cJ9_max_7cf53 5 = .ok (.iload_n 0, 1) := by decide +kernel
theorem dJ9_max_7cf53_6 : decode cJ9_max_7cf53 6 = .ok (.goto 4, 3) := by decide +kernel
theorem dJ9_max_7cf53_9 : decode cJ9_max_7cf53 9 = .ok (.iload_n 1, 1) := by decide +kernel
theorem dJ9_max_7cf53_10 : decode cJ9_max_7cf53 10 = .ok (.ireturn, 1) := by decide +kernel
theorem dJ9_min_7cf53_0 : decode cJ9_min_7cf53 0 = .ok (.iload_n 0, 1) := by decide +kernel
theorem dJ9_min_7cf53_1 : decode cJ9_min_7cf53 1 = .ok (.iload_n 1, 1) := by decide +kernel
theorem dJ9_min_7cf53_2 : decode cJ9_min_7cf53 2 = .ok (.if_icmp .gt 7, 3) := by decide +kernel
theorem dJ9_min_7cf53_5 : decode cJ9_min_7cf53 5 = .ok (.iload_n 0, 1) := by decide +kernel
theorem dJ9_min_7cf53_6 : decode cJ9_min_7cf53 6 = .ok (.goto 4, 3) := by decide +kernel
theorem dJ9_min_7cf53_9 : decode cJ9_min_7cf53 9 = .ok (.iload_n 1, 1) := by decide +kernel
theorem dJ9_min_7cf53_10 : decode cJ9_min_7cf53 10 = .ok (.ireturn, 1) := by decide +kernel
theorem dJ0_length_8abf5_0 : decode cJ0_length_8abf5 0 = .ok (.aload_n 0, 1) := by decide +kernel
theorem dJ0_length_8abf5_1 : decode cJ0_length_8abf5 1 = .ok (.getfield 9, 3) := by decide +kernel
theorem dJ0_length_8abf5_4 : decode cJ0_length_8abf5 4 = .ok (.arraylength, 1) := by decide +kernel
theorem dJ0_length_8abf5_5 : decode cJ0_length_8abf5 5 = .ok (.aload_n 0, 1) := by decide +kernel
theorem dJ0_length_8abf5_6 : decode cJ0_length_8abf5 6 = .ok (.invokevirtual 335, 3) := by decide +kernel
theorem dJ0_length_8abf5_9 : decode cJ0_length_8abf5 9 = .ok (.ishr, 1) := by decide +kernel
theorem dJ0_length_8abf5_10 : decode cJ0_length_8abf5 10 = .ok (.ireturn, 1) := by decide +kernel
theorem dJ0_charAt_5068e_0 : decode cJ0_charAt_5068e 0 = .ok (.aload_n 0, 1) := by decide +kernel
theorem dJ0_charAt_5068e_1 : decode cJ0_charAt_5068e 1 = .ok (.invokevirtual 492, 3) := by decide +kernel
theorem dJ0_charAt_5068e_4 : decode cJ0_charAt_5068e 4 = .ok (.ifCond .eq 12, 3) := by decide +kernel
theorem dJ0_charAt_5068e_7 : decode cJ0_charAt_5068e 7 = .ok (.aload_n 0, 1) := by decide +kernel
theorem dJ0_charAt_5068e_8 : decode cJ0_charAt_5068e 8 = .ok (.getfield 9, 3) := by decide +kernel
theorem dJ0_charAt_5068e_11 : decode cJ0_charAt_5068e 11 = .ok (.iload_n 1, 1) := by decide +kernel
theorem dJ0_charAt_5068e_12 : decode cJ0_charAt_5068e 12 = .ok (.invokestatic 495, 3) := by decide +kernel
theorem dJ0_charAt_5068e_15 : decode cJ0_charAt_5068e 15 = .ok (.ireturn, 1) := by decide +kernel
theorem dJ0_charAt_5068e_16 : decode cJ0_charAt_5068e 16 = .ok (.aload_n 0, 1) := by decide +kernel
theorem dJ0_charAt_5068e_17 : decode cJ0_charAt_5068e 17 = .ok (.getfield 9, 3) := by decide +kernel
theorem dJ0_charAt_5068e_20 : decode cJ0_charAt_5068e 20 = .ok (.iload_n 1, 1) := by decide +kernel
theorem dJ0_charAt_5068e_21 : decode cJ0_charAt_5068e 21 = .ok (.invokestatic 498, 3) := by decide +kernel
theorem dJ0_charAt_5068e_24 : decode cJ0_charAt_5068e 24 = .ok (.ireturn, 1) := by decide +kernel
theorem dJ0_coder_7d493_0 : decode cJ0_coder_7d493 0 = .ok (.getstatic 38, 3) := by decide +kernel
theorem dJ0_coder_7d493_3 : decode cJ0_coder_7d493 3 = .ok (.ifCond .eq 10, 3) := by decide +kernel
theorem dJ0_coder_7d493_6 : decode cJ0_coder_7d493 6 = .ok (.aload_n 0, 1) := by decide +kernel
theorem dJ0_coder_7d493_7 : decode cJ0_coder_7d493 7 = .ok (.getfield 15, 3) := by decide +kernel
theorem dJ0_coder_7d493_10 : decode cJ0_coder_7d493 10 = .ok (.goto 4, 3) := by decide +kernel
theorem dJ0_coder_7d493_13 : decode cJ0_coder_7d493 13 = .ok (.iconst 1, 1) := by decide +kernel
theorem dJ0_coder_7d493_14 : decode cJ0_coder_7d493 14 = .ok (.ireturn, 1) := by decide +kernel
theorem dJ0_isLatin1_aae02_0 : decode cJ0_isLatin1_aae02 0 = .ok (.getstatic 38, 3) := by decide +kernel
theorem dJ0_isLatin1_aae02_3 : decode cJ0_isLatin1_aae02 3 = .ok (.ifCond .eq 14, 3) := by decide +kernel
theorem dJ0_isLatin1_aae02_6 : decode cJ0_isLatin1_aae02 6 = .ok (.aload_n 0, 1) := by decide +kernel
theorem dJ0_isLatin1_aae02_7 : decode cJ0_isLatin1_aae02 7 = .ok (.getfield 15, 3) := by decide +kernel
theorem dJ0_isLatin1_aae02_10 : decode cJ0_isLatin1_aae02 10 = .ok (.ifCond .ne 7, 3) := by decide +kernel
theorem dJ0_isLatin1_aae02_13 : decode cJ0_isLatin1_aae02 13 = .ok (.iconst 1, 1) := by decide +kernel
theorem dJ0_isLatin1_aae02_14 : decode cJ0_isLatin1_aae02 14 = .ok (.goto 4, 3) := by decide +kernel
theorem dJ0_isLatin1_aae02_17 : decode cJ0_isLatin1_aae02 17 = .ok (.iconst 0, 1) := by decide +kernel
theorem dJ0_isLatin1_aae02_18 : decode cJ0_isLatin1_aae02 18 = .ok (.ireturn, 1) := by decide +kernel
theorem dJ0_checkIndex_df160_0 : decode cJ0_checkIndex_df160 0 = .ok (.iload_n 0, 1) := by decide +kernel
theorem dJ0_checkIndex_df160_1 : decode cJ0_checkIndex_df160 1 = .ok (.iload_n 1, 1) := by decide +kernel
theorem dJ0_checkIndex_df160_2 : decode cJ0_checkIndex_df160 2 = .ok (.getstatic 1053, 3) := by decide +kernel
theorem dJ0_checkIndex_df160_5 : decode cJ0_checkIndex_df160 5 = .ok (.invokestatic 1059, 3) := by decide +kernel
theorem dJ0_checkIndex_df160_8 : decode cJ0_checkIndex_df160 8 = .ok (.pop, 1) := by decide +kernel
theorem dJ0_checkIndex_df160_9 : decode cJ0_checkIndex_df160 9 = .ok (.return_, 1) := by decide +kernel
theorem dJ1_charAt_3b067_0 : decode cJ1_charAt_3b067 0 = .ok (.iload_n 1, 1) := by decide +kernel
theorem dJ1_charAt_3b067_1 : decode cJ1_charAt_3b067 1 = .ok (.aload_n 0, 1) := by decide +kernel
theorem dJ1_charAt_3b067_2 : decode cJ1_charAt_3b067 2 = .ok (.arraylength, 1) := by decide +kernel
theorem dJ1_charAt_3b067_3 : decode cJ1_charAt_3b067 3 = .ok (.invokestatic 9, 3) := by decide +kernel
theorem dJ1_charAt_3b067_6 : decode cJ1_charAt_3b067 6 = .ok (.aload_n 0, 1) := by decide +kernel
theorem dJ1_charAt_3b067_7 : decode cJ1_charAt_3b067 7 = .ok (.iload_n 1, 1) := by decide +kernel
theorem dJ1_charAt_3b067_8 : decode cJ1_charAt_3b067 8 = .ok (.baload, 1) := by decide +kernel
theorem dJ1_charAt_3b067_9 : decode cJ1_charAt_3b067 9 = .ok (.sipush 255, 3) := by decide +kernel
theorem dJ1_charAt_3b067_12 : decode cJ1_charAt_3b067 12 = .ok (.iand, 1) := by decide +kernel
theorem dJ1_charAt_3b067_13 : decode cJ1_charAt_3b067 13 = .ok (.i2c, 1) := by decide +kernel
theorem dJ1_charAt_3b067_14 : decode cJ1_charAt_3b067 14 = .ok (.ireturn, 1) := by decide +kernel
theorem dJ2_getChar_3b067_0 : decode cJ2_getChar_3b067 0 = .ok (.getstatic 44, 3) := by decide +kernel
theorem dJ2_getChar_3b067_3 : decode cJ2_getChar_3b067 3 = .ok (.ifCond .ne 25, 3) := by decide +kernel
theorem dJ2_getChar_3b067_6 : decode cJ2_getChar_3b067 6 = .ok (.iload_n 1, 1) := by decide +kernel
theorem dJ2_getChar_3b067_7 : decode cJ2_getChar_3b067 7 = .ok (.ifCond .lt 11, 3) := by decide +kernel
theorem dJ2_getChar_3b067_10 : decode cJ2_getChar_3b067 10 = .ok (.iload_n 1, 1) := by decide +kernel
theorem dJ2_getChar_3b067_11 : decode cJ2_getChar_3b067 11 = .ok (.aload_n 0, 1) := by decide +kernel
theorem dJ2_getChar_3b067_12 : decode cJ2_getChar_3b067 12 = .ok (.invokestatic 48, 3) := by decide +kernel
theorem dJ2_getChar_3b067_15 : decode cJ2_getChar_3b067 15 = .ok (.if_icmp .lt 13, 3) := by decide +kernel
theorem dJ2_getChar_3b067_18 : decode cJ2_getChar_3b067 18 = .ok (.new 52, 3) := by decide +kernel
theorem dJ2_getChar_3b067_21 : decode cJ2_getChar_3b067 21 = .ok (.dup, 1) := by decide +kernel
theorem dJ2_getChar_3b067_22 : decode cJ2_getChar_3b067 22 = .ok (.ldc 54, 2) := by decide +kernel
theorem dJ2_getChar_3b067_24 : decode cJ2_getChar_3b067 24 = .ok (.invokespecial 56, 3) := by decide +kernel
theorem dJ2_getChar_3b067_27 : decode cJ2_getChar_3b067 27 = .ok (.athrow, 1) := by decide +kernel
theorem dJ2_getChar_3b067_28 : decode cJ2_getChar_3b067 28 = .ok (.iload_n 1, 1) := by decide +kernel
theorem dJ2_getChar_3b067_29 : decode cJ2_getChar_3b067 29 = .ok (.iconst 1, 1) := by decide +kernel
theorem dJ2_getChar_3b067_30 : decode cJ2_getChar_3b067 30 = .ok (.ishl, 1) := by decide +kernel
theorem dJ2_getChar_3b067_31 : decode cJ2_getChar_3b067 31 = .ok (.istore_n 1, 1) := by decide +kernel
theorem dJ2_getChar_3b067_32 : decode cJ2_getChar_3b067 32 = .ok (.aload_n 0, 1) := by decide +kernel
theorem dJ2_getChar_3b067_33 : decode cJ2_getChar_3b067 33 = .ok (.iload_n 1, 1) := by decide +kernel
theorem dJ2_getChar_3b067_34 : decode cJ2_getChar_3b067 34 = .ok (.iinc 1 1, 3) := by decide +kernel
theorem dJ2_getChar_3b067_37 : decode cJ2_getChar_3b067 37 = .ok (.baload, 1) := by decide +kernel
theorem dJ2_getChar_3b067_38 : decode cJ2_getChar_3b067 38 = .ok (.sipush 255, 3) := by decide +kernel
theorem dJ2_getChar_3b067_41 : decode cJ2_getChar_3b067 41 = .ok (.iand, 1) := by decide +kernel
theorem dJ2_getChar_3b067_42 : decode cJ2_getChar_3b067 42 = .ok (.getstatic 59, 3) := by decide +kernel
theorem dJ2_getChar_3b067_45 : decode cJ2_getChar_3b067 45 = .ok (.ishl, 1) := by decide +kernel
theorem dJ2_getChar_3b067_46 : decode cJ2_getChar_3b067 46 = .ok (.aload_n 0, 1) := by decide +kernel
theorem dJ2_getChar_3b067_47 : decode cJ2_getChar_3b067 47 = .ok (.iload_n 1, 1) := by decide +kernel
theorem dJ2_getChar_3b067_48 : decode cJ2_getChar_3b067 48 = .ok (.baload, 1) := by decide +kernel
theorem dJ2_getChar_3b067_49 : decode cJ2_getChar_3b067 49 = .ok (.sipush 255, 3) := by decide +kernel
theorem dJ2_getChar_3b067_52 : decode cJ2_getChar_3b067 52 = .ok (.iand, 1) := by decide +kernel
theorem dJ2_getChar_3b067_53 : decode cJ2_getChar_3b067 53 = .ok (.getstatic 63, 3) := by decide +kernel
theorem dJ2_getChar_3b067_56 : decode cJ2_getChar_3b067 56 = .ok (.ishl, 1) := by decide +kernel
theorem dJ2_getChar_3b067_57 : decode cJ2_getChar_3b067 57 = .ok (.ior, 1) := by decide +kernel
theorem dJ2_getChar_3b067_58 : decode cJ2_getChar_3b067 58 = .ok (.i2c, 1) := by decide +kernel
theorem dJ2_getChar_3b067_59 : decode cJ2_getChar_3b067 59 = .ok (.ireturn, 1) := by decide +kernel
theorem dJ2_length_9d52b_0 : decode cJ2_length_9d52b 0 = .ok (.aload_n 0, 1) := by decide +kernel
theorem dJ2_length_9d52b_1 : decode cJ2_length_9d52b 1 = .ok (.arraylength, 1) := by decide +kernel
theorem dJ2_length_9d52b_2 : decode cJ2_length_9d52b 2 = .ok (.iconst 1, 1) := by decide +kernel
theorem dJ2_length_9d52b_3 : decode cJ2_length_9d52b 3 = .ok (.ishr, 1) := by decide +kernel
theorem dJ2_length_9d52b_4 : decode cJ2_length_9d52b 4 = .ok (.ireturn, 1) := by decide +kernel
theorem dJ2_charAt_3b067_0 : decode cJ2_charAt_3b067 0 = .ok (.iload_n 1, 1) := by decide +kernel
theorem dJ2_charAt_3b067_1 : decode cJ2_charAt_3b067 1 = .ok (.aload_n 0, 1) := by decide +kernel
theorem dJ2_charAt_3b067_2 : decode cJ2_charAt_3b067 2 = .ok (.invokestatic 67, 3) := by decide +kernel
theorem dJ2_charAt_3b067_5 : decode cJ2_charAt_3b067 5 = .ok (.aload_n 0, 1) := by decide +kernel
theorem dJ2_charAt_3b067_6 : decode cJ2_charAt_3b067 6 = .ok (.iload_n 1, 1) := by decide +kernel
theorem dJ2_charAt_3b067_7 : decode cJ2_charAt_3b067 7 = .ok (.invokestatic 71, 3) := by decide +kernel
theorem dJ2_charAt_3b067_10 : decode cJ2_charAt_3b067 10 = .ok (.ireturn, 1) := by decide +kernel
theorem dJ2_checkIndex_2214a_0 : decode cJ2_checkIndex_2214a 0 = .ok (.iload_n 0, 1) := by decide +kernel
theorem dJ2_checkIndex_2214a_1 : decode cJ2_checkIndex_2214a 1 = .ok (.aload_n 1, 1) := by decide +kernel
theorem dJ2_checkIndex_2214a_2 : decode cJ2_checkIndex_2214a 2 = .ok (.invokestatic 48, 3) := by decide +kernel
theorem dJ2_checkIndex_2214a_5 : decode cJ2_checkIndex_2214a 5 = .ok (.invokestatic 414, 3) := by decide +kernel
theorem dJ2_checkIndex_2214a_8 : decode cJ2_checkIndex_2214a 8 = .ok (.return_, 1) := by decide +kernel
theorem dJ3_checkIndex_8e157_0 : decode cJ3_checkIndex_8e157 0 = .ok (.iload_n 0, 1) := by decide +kernel
theorem dJ3_checkIndex_8e157_1 : decode cJ3_checkIndex_8e157 1 = .ok (.ifCond .lt 8, 3) := by decide +kernel
theorem dJ3_checkIndex_8e157_4 : decode cJ3_checkIndex_8e157 4 = .ok (.iload_n 0, 1) := by decide +kernel
theorem dJ3_checkIndex_8e157_5 : decode cJ3_checkIndex_8e157 5 = .ok (.iload_n 1, 1) := by decide +kernel
theorem dJ3_checkIndex_8e157_6 : decode cJ3_checkIndex_8e157 6 = .ok (.if_icmp .lt 10, 3) := by decide +kernel
theorem dJ3_checkIndex_8e157_9 : decode cJ3_checkIndex_8e157 9 = .ok (.aload_n 2, 1) := by decide +kernel
theorem dJ3_checkIndex_8e157_10 : decode cJ3_checkIndex_8e157 10 = .ok (.iload_n 0, 1) := by decide +kernel
theorem dJ3_checkIndex_8e157_11 : decode cJ3_checkIndex_8e157 11 = .ok (.iload_n 1, 1) := by decide +kernel
theorem dJ3_checkIndex_8e157_12 : decode cJ3_checkIndex_8e157 12 = .ok (.invokestatic 95, 3) := by decide +kernel
theorem dJ3_checkIndex_8e157_15 : decode cJ3_checkIndex_8e157 15 = .ok (.athrow, 1) := by decide +kernel
theorem dJ3_checkIndex_8e157_16 : decode cJ3_checkIndex_8e157 16 = .ok (.iload_n 0, 1) := by decide +kernel
theorem dJ3_checkIndex_8e157_17 : decode cJ3_checkIndex_8e157 17 = .ok (.ireturn, 1) := by decide +kernel
theorem dL_law_0 : decode code 0 = .ok (.new 7, 3) := by decide +kernel
theorem dL_law_3 : decode code 3 = .ok (.dup, 1) := by decide +kernel
theorem dL_law_4 : decode code 4 = .ok (.invokespecial 9, 3) := by decide +kernel
theorem dL_law_7 : decode code 7 = .ok (.astore_n 1, 1) := by decide +kernel
theorem dL_law_8 : decode code 8 = .ok (.new 10, 3) := by decide +kernel
theorem dL_law_11 : decode code 11 = .ok (.dup, 1) := by decide +kernel
theorem dL_law_12 : decode code 12 = .ok (.invokespecial 12, 3) := by decide +kernel
theorem dL_law_15 : decode code 15 = .ok (.astore_n 2, 1) := by decide +kernel
theorem dL_law_16 : decode code 16 = .ok (.iconst 0, 1) := by decide +kernel
theorem dL_law_17 : decode code 17 = .ok (.istore_n 3, 1) := by decide +kernel
theorem dL_law_18 : decode code 18 = .ok (.iload_n 3, 1) := by decide +kernel
theorem dL_law_19 : decode code 19 = .ok (.aload_n 0, 1) := by decide +kernel
theorem dL_law_20 : decode code 20 = .ok (.arraylength, 1) := by decide +kernel
theorem dL_law_21 : decode code 21 = .ok (.iconst 5, 1) := by decide +kernel
theorem dL_law_22 : decode code 22 = .ok (.isub, 1) := by decide +kernel
theorem dL_law_23 : decode code 23 = .ok (.if_icmp .gt 827, 3) := by decide +kernel
theorem dL_law_26 : decode code 26 = .ok (.aload_n 0, 1) := by decide +kernel
theorem dL_law_27 : decode code 27 = .ok (.iload_n 3, 1) := by decide +kernel
theorem dL_law_28 : decode code 28 = .ok (.iaload, 1) := by decide +kernel
theorem dL_law_29 : decode code 29 = .ok (.bipush 31, 2) := by decide +kernel
theorem dL_law_31 : decode code 31 = .ok (.iand, 1) := by decide +kernel
theorem dL_law_32 : decode code 32 = .ok (.tableswitch 812 0 27 #[128, 151, 164, 177, 190, 223, 256, 269, 292, 325, 348, 371, 384, 417, 450, 473, 486, 509, 552, 585, 598, 621, 644, 667, 720, 763, 776, 789], 128) := by decide +kernel
theorem dL_law_160 : decode code 160 = .ok (.aload_n 1, 1) := by decide +kernel
theorem dL_law_161 : decode code 161 = .ok (.aload_n 0, 1) := by decide +kernel
theorem dL_law_162 : decode code 162 = .ok (.iload_n 3, 1) := by decide +kernel
theorem dL_law_163 : decode code 163 = .ok (.iconst 1, 1) := by decide +kernel
theorem dL_law_164 : decode code 164 = .ok (.iadd, 1) := by decide +kernel
theorem dL_law_165 : decode code 165 = .ok (.iaload, 1) := by decide +kernel
theorem dL_law_166 : decode code 166 = .ok (.invokevirtual 13, 3) := by decide +kernel
theorem dL_law_169 : decode code 169 = .ok (.aload_n 2, 1) := by decide +kernel
theorem dL_law_170 : decode code 170 = .ok (.aload_n 0, 1) := by decide +kernel
theorem dL_law_171 : decode code 171 = .ok (.iload_n 3, 1) := by decide +kernel
theorem dL_law_172 : decode code 172 = .ok (.iconst 1, 1) := by decide +kernel
theorem dL_law_173 : decode code 173 = .ok (.iadd, 1) := by decide +kernel
theorem dL_law_174 : decode code 174 = .ok (.iaload, 1) := by decide +kernel
theorem dL_law_175 : decode code 175 = .ok (.invokevirtual 17, 3) := by decide +kernel
theorem dL_law_178 : decode code 178 = .ok (.if_icmp .eq 666, 3) := by decide +kernel
theorem dL_law_181 : decode code 181 = .ok (.iconst 0, 1) := by decide +kernel
theorem dL_law_182 : decode code 182 = .ok (.ireturn, 1) := by decide +kernel
theorem dL_law_183 : decode code 183 = .ok (.aload_n 1, 1) := by decide +kernel
theorem dL_law_184 : decode code 184 = .ok (.invokevirtual 18, 3) := by decide +kernel
theorem dL_law_187 : decode code 187 = .ok (.aload_n 2, 1) := by decide +kernel
theorem dL_law_188 : decode code 188 = .ok (.invokevirtual 22, 3) := by decide +kernel
theorem dL_law_191 : decode code 191 = .ok (.if_icmp .eq 653, 3) := by decide +kernel
theorem dL_law_194 : decode code 194 = .ok (.iconst 0, 1) := by decide +kernel
theorem dL_law_195 : decode code 195 = .ok (.ireturn, 1) := by decide +kernel
theorem dL_law_196 : decode code 196 = .ok (.aload_n 1, 1) := by decide +kernel
theorem dL_law_197 : decode code 197 = .ok (.invokevirtual 23, 3) := by decide +kernel
theorem dL_law_200 : decode code 200 = .ok (.aload_n 2, 1) := by decide +kernel
theorem dL_law_201 : decode code 201 = .ok (.invokevirtual 26, 3) := by decide +kernel
theorem dL_law_204 : decode code 204 = .ok (.if_icmp .eq 640, 3) := by decide +kernel
theorem dL_law_207 : decode code 207 = .ok (.iconst 0, 1) := by decide +kernel
theorem dL_law_208 : decode code 208 = .ok (.ireturn, 1) := by decide +kernel
theorem dL_law_209 : decode code 209 = .ok (.aload_n 1, 1) := by decide +kernel
theorem dL_law_210 : decode code 210 = .ok (.invokevirtual 27, 3) := by decide +kernel
theorem dL_law_213 : decode code 213 = .ok (.aload_n 2, 1) := by decide +kernel
theorem dL_law_214 : decode code 214 = .ok (.invokevirtual 30, 3) := by decide +kernel
theorem dL_law_217 : decode code 217 = .ok (.if_icmp .eq 627, 3) := by decide +kernel
theorem dL_law_220 : decode code 220 = .ok (.iconst 0, 1) := by decide +kernel
theorem dL_law_221 : decode code 221 = .ok (.ireturn, 1) := by decide +kernel
theorem dL_law_222 : decode code 222 = .ok (.aload_n 1, 1) := by decide +kernel
theorem dL_law_223 : decode code 223 = .ok (.aload_n 0, 1) := by decide +kernel
theorem dL_law_224 : decode code 224 = .ok (.iload_n 3, 1) := by decide +kernel
theorem dL_law_225 : decode code 225 = .ok (.iconst 1, 1) := by decide +kernel
theorem dL_law_226 : decode code 226 = .ok (.iadd, 1) := by decide +kernel
theorem dL_law_227 : decode code 227 = .ok (.iaload, 1) := by decide +kernel
theorem dL_law_228 : decode code 228 = .ok (.aload_n 0, 1) := by decide +kernel
theorem dL_law_229 : decode code 229 = .ok (.iload_n 3, 1) := by decide +kernel
theorem dL_law_230 : decode code 230 = .ok (.iconst 2, 1) := by decide +kernel
theorem dL_law_231 : decode code 231 = .ok (.iadd, 1) := by decide +kernel
theorem dL_law_232 : decode code 232 = .ok (.iaload, 1) := by decide +kernel
theorem dL_law_233 : decode code 233 = .ok (.invokevirtual 31, 3) := by decide +kernel
theorem dL_law_236 : decode code 236 = .ok (.aload_n 2, 1) := by decide +kernel
theorem dL_law_237 : decode code 237 = .ok (.aload_n 0, 1) := by decide +kernel
theorem dL_law_238 : decode code 238 = .ok (.iload_n 3, 1) := by decide +kernel
theorem dL_law_239 : decode code 239 = .ok (.iconst 1, 1) := by decide +kernel
theorem dL_law_240 : decode code 240 = .ok (.iadd, 1) := by decide +kernel
theorem dL_law_241 : decode code 241 = .ok (.iaload, 1) := by decide +kernel
theorem dL_law_242 : decode code 242 = .ok (.aload_n 0, 1) := by decide +kernel
theorem dL_law_243 : decode code 243 = .ok (.iload_n 3, 1) := by decide +kernel
theorem dL_law_244 : decode code 244 = .ok (.iconst 2, 1) := by decide +kernel
theorem dL_law_245 : decode code 245 = .ok (.iadd, 1) := by decide +kernel
theorem dL_law_246 : decode code 246 = .ok (.iaload, 1) := by decide +kernel
theorem dL_law_247 : decode code 247 = .ok (.invokevirtual 35, 3) := by decide +kernel
theorem dL_law_250 : decode code 250 = .ok (.if_icmp .eq 594, 3) := by decide +kernel
theorem dL_law_253 : decode code 253 = .ok (.iconst 0, 1) := by decide +kernel
theorem dL_law_254 : decode code 254 = .ok (.ireturn, 1) := by decide +kernel
theorem dL_law_255 : decode code 255 = .ok (.aload_n 1, 1) := by decide +kernel
theorem dL_law_256 : decode code 256 = .ok (.aload_n 0, 1) := by decide +kernel
theorem dL_law_257 : decode code 257 = .ok (.iload_n 3, 1) := by decide +kernel
theorem dL_law_258 : decode code 258 = .ok (.iconst 1, 1) := by decide +kernel
theorem dL_law_259 : decode code 259 = .ok (.iadd, 1) := by decide +kernel
theorem dL_law_260 : decode code 260 = .ok (.iaload, 1) := by decide +kernel
theorem dL_law_261 : decode code 261 = .ok (.aload_n 0, 1) := by decide +kernel
theorem dL_law_262 : decode code 262 = .ok (.iload_n 3, 1) := by decide +kernel
theorem dL_law_263 : decode code 263 = .ok (.iconst 2, 1) := by decide +kernel
theorem dL_law_264 : decode code 264 = .ok (.iadd, 1) := by decide +kernel
theorem dL_law_265 : decode code 265 = .ok (.iaload, 1) := by decide +kernel
theorem dL_law_266 : decode code 266 = .ok (.invokevirtual 36, 3) := by decide +kernel
theorem dL_law_269 : decode code 269 = .ok (.aload_n 2, 1) := by decide +kernel
theorem dL_law_270 : decode code 270 = .ok (.aload_n 0, 1) := by decide +kernel
theorem dL_law_271 : decode code 271 = .ok (.iload_n 3, 1) := by decide +kernel
theorem dL_law_272 : decode code 272 = .ok (.iconst 1, 1) := by decide +kernel
theorem dL_law_273 : decode code 273 = .ok (.iadd, 1) := by decide +kernel
theorem dL_law_274 : decode code 274 = .ok (.iaload, 1) := by decide +kernel
theorem dL_law_275 : decode code 275 = .ok (.aload_n 0, 1) := by decide +kernel
theorem dL_law_276 : decode code 276 = .ok (.iload_n 3, 1) := by decide +kernel
theorem dL_law_277 : decode code 277 = .ok (.iconst 2, 1) := by decide +kernel
theorem dL_law_278 : decode code 278 = .ok (.iadd, 1) := by decide +kernel
theorem dL_law_279 : decode code 279 = .ok (.iaload, 1) := by decide +kernel
theorem dL_law_280 : decode code 280 = .ok (.invokevirtual 39, 3) := by decide +kernel
theorem dL_law_283 : decode code 283 = .ok (.if_icmp .eq 561, 3) := by decide +kernel
theorem dL_law_286 : decode code 286 = .ok (.iconst 0, 1) := by decide +kernel
theorem dL_law_287 : decode code 287 = .ok (.ireturn, 1) := by decide +kernel
theorem dL_law_288 : decode code 288 = .ok (.aload_n 1, 1) := by decide +kernel
theorem dL_law_289 : decode code 289 = .ok (.invokevirtual 40, 3) := by decide +kernel
theorem dL_law_292 : decode code 292 = .ok (.aload_n 2, 1) := by decide +kernel
theorem dL_law_293 : decode code 293 = .ok (.invokevirtual 43, 3) := by decide +kernel
theorem dL_law_296 : decode code 296 = .ok (.if_icmp .eq 548, 3) := by decide +kernel
theorem dL_law_299 : decode code 299 = .ok (.iconst 0, 1) := by decide +kernel
theorem dL_law_300 : decode code 300 = .ok (.ireturn, 1) := by decide +kernel
theorem dL_law_301 : decode code 301 = .ok (.aload_n 1, 1) := by decide +kernel
theorem dL_law_302 : decode code 302 = .ok (.aload_n 0, 1) := by decide +kernel
theorem dL_law_303 : decode code 303 = .ok (.iload_n 3, 1) := by decide +kernel
theorem dL_law_304 : decode code 304 = .ok (.iconst 1, 1) := by decide +kernel
theorem dL_law_305 : decode code 305 = .ok (.iadd, 1) := by decide +kernel
theorem dL_law_306 : decode code 306 = .ok (.iaload, 1) := by decide +kernel
theorem dL_law_307 : decode code 307 = .ok (.invokevirtual 44, 3) := by decide +kernel
theorem dL_law_310 : decode code 310 = .ok (.aload_n 2, 1) := by decide +kernel
theorem dL_law_311 : decode code 311 = .ok (.aload_n 0, 1) := by decide +kernel
theorem dL_law_312 : decode code 312 = .ok (.iload_n 3, 1) := by decide +kernel
theorem dL_law_313 : decode code 313 = .ok (.iconst 1, 1) := by decide +kernel
theorem dL_law_314 : decode code 314 = .ok (.iadd, 1) := by decide +kernel
theorem dL_law_315 : decode code 315 = .ok (.iaload, 1) := by decide +kernel
theorem dL_law_316 : decode code 316 = .ok (.invokevirtual 47, 3) := by decide +kernel
theorem dL_law_319 : decode code 319 = .ok (.if_icmp .eq 525, 3) := by decide +kernel
theorem dL_law_322 : decode code 322 = .ok (.iconst 0, 1) := by decide +kernel
theorem dL_law_323 : decode code 323 = .ok (.ireturn, 1) := by decide +kernel
theorem dL_law_324 : decode code 324 = .ok (.aload_n 1, 1) := by decide +kernel
theorem dL_law_325 : decode code 325 = .ok (.aload_n 0, 1) := by decide +kernel
theorem dL_law_326 : decode code 326 = .ok (.iload_n 3, 1) := by decide +kernel
theorem dL_law_327 : decode code 327 = .ok (.iconst 1, 1) := by decide +kernel
theorem dL_law_328 : decode code 328 = .ok (.iadd, 1) := by decide +kernel
theorem dL_law_329 : decode code 329 = .ok (.iaload, 1) := by decide +kernel
theorem dL_law_330 : decode code 330 = .ok (.aload_n 0, 1) := by decide +kernel
theorem dL_law_331 : decode code 331 = .ok (.iload_n 3, 1) := by decide +kernel
theorem dL_law_332 : decode code 332 = .ok (.iconst 2, 1) := by decide +kernel
theorem dL_law_333 : decode code 333 = .ok (.iadd, 1) := by decide +kernel
theorem dL_law_334 : decode code 334 = .ok (.iaload, 1) := by decide +kernel
theorem dL_law_335 : decode code 335 = .ok (.invokevirtual 48, 3) := by decide +kernel
theorem dL_law_338 : decode code 338 = .ok (.aload_n 2, 1) := by decide +kernel
theorem dL_law_339 : decode code 339 = .ok (.aload_n 0, 1) := by decide +kernel
theorem dL_law_340 : decode code 340 = .ok (.iload_n 3, 1) := by decide +kernel
theorem dL_law_341 : decode code 341 = .ok (.iconst 1, 1) := by decide +kernel
theorem dL_law_342 : decode code 342 = .ok (.iadd, 1) := by decide +kernel
theorem dL_law_343 : decode code 343 = .ok (.iaload, 1) := by decide +kernel
theorem dL_law_344 : decode code 344 = .ok (.aload_n 0, 1) := by decide +kernel
theorem dL_law_345 : decode code 345 = .ok (.iload_n 3, 1) := by decide +kernel
theorem dL_law_346 : decode code 346 = .ok (.iconst 2, 1) := by decide +kernel
theorem dL_law_347 : decode code 347 = .ok (.iadd, 1) := by decide +kernel
theorem dL_law_348 : decode code 348 = .ok (.iaload, 1) := by decide +kernel
theorem dL_law_349 : decode code 349 = .ok (.invokevirtual 51, 3) := by decide +kernel
theorem dL_law_352 : decode code 352 = .ok (.if_icmp .eq 492, 3) := by decide +kernel
theorem dL_law_355 : decode code 355 = .ok (.iconst 0, 1) := by decide +kernel
theorem dL_law_356 : decode code 356 = .ok (.ireturn, 1) := by decide +kernel
theorem dL_law_357 : decode code 357 = .ok (.aload_n 1, 1) := by decide +kernel
theorem dL_law_358 : decode code 358 = .ok (.aload_n 0, 1) := by decide +kernel
theorem dL_law_359 : decode code 359 = .ok (.iload_n 3, 1) := by decide +kernel
theorem dL_law_360 : decode code 360 = .ok (.iconst 1, 1) := by decide +kernel
theorem dL_law_361 : decode code 361 = .ok (.iadd, 1) := by decide +kernel
theorem dL_law_362 : decode code 362 = .ok (.iaload, 1) := by decide +kernel
theorem dL_law_363 : decode code 363 = .ok (.invokevirtual 52, 3) := by decide +kernel
theorem dL_law_366 : decode code 366 = .ok (.aload_n 2, 1) := by decide +kernel
theorem dL_law_367 : decode code 367 = .ok (.aload_n 0, 1) := by decide +kernel
theorem dL_law_368 : decode code 368 = .ok (.iload_n 3, 1) := by decide +kernel
theorem dL_law_369 : decode code 369 = .ok (.iconst 1, 1) := by decide +kernel
theorem dL_law_370 : decode code 370 = .ok (.iadd, 1) := by decide +kernel
theorem dL_law_371 : decode code 371 = .ok (.iaload, 1) := by decide +kernel
theorem dL_law_372 : decode code 372 = .ok (.invokevirtual 55, 3) := by decide +kernel
theorem dL_law_375 : decode code 375 = .ok (.if_icmp .eq 469, 3) := by decide +kernel
theorem dL_law_378 : decode code 378 = .ok (.iconst 0, 1) := by decide +kernel
theorem dL_law_379 : decode code 379 = .ok (.ireturn, 1) := by decide +kernel
theorem dL_law_380 : decode code 380 = .ok (.aload_n 1, 1) := by decide +kernel
theorem dL_law_381 : decode code 381 = .ok (.aload_n 0, 1) := by decide +kernel
theorem dL_law_382 : decode code 382 = .ok (.iload_n 3, 1) := by decide +kernel
theorem dL_law_383 : decode code 383 = .ok (.iconst 1, 1) := by decide +kernel
theorem dL_law_384 : decode code 384 = .ok (.iadd, 1) := by decide +kernel
theorem dL_law_385 : decode code 385 = .ok (.iaload, 1) := by decide +kernel
theorem dL_law_386 : decode code 386 = .ok (.invokevirtual 56, 3) := by decide +kernel
theorem dL_law_389 : decode code 389 = .ok (.aload_n 2, 1) := by decide +kernel
theorem dL_law_390 : decode code 390 = .ok (.aload_n 0, 1) := by decide +kernel
theorem dL_law_391 : decode code 391 = .ok (.iload_n 3, 1) := by decide +kernel
theorem dL_law_392 : decode code 392 = .ok (.iconst 1, 1) := by decide +kernel
theorem dL_law_393 : decode code 393 = .ok (.iadd, 1) := by decide +kernel
theorem dL_law_394 : decode code 394 = .ok (.iaload, 1) := by decide +kernel
theorem dL_law_395 : decode code 395 = .ok (.invokevirtual 59, 3) := by decide +kernel
theorem dL_law_398 : decode code 398 = .ok (.if_icmp .eq 446, 3) := by decide +kernel
theorem dL_law_401 : decode code 401 = .ok (.iconst 0, 1) := by decide +kernel
theorem dL_law_402 : decode code 402 = .ok (.ireturn, 1) := by decide +kernel
theorem dL_law_403 : decode code 403 = .ok (.aload_n 1, 1) := by decide +kernel
theorem dL_law_404 : decode code 404 = .ok (.invokevirtual 60, 3) := by decide +kernel
theorem dL_law_407 : decode code 407 = .ok (.aload_n 2, 1) := by decide +kernel
theorem dL_law_408 : decode code 408 = .ok (.invokevirtual 63, 3) := by decide +kernel
theorem dL_law_411 : decode code 411 = .ok (.if_icmp .eq 433, 3) := by decide +kernel
theorem dL_law_414 : decode code 414 = .ok (.iconst 0, 1) := by decide +kernel
theorem dL_law_415 : decode code 415 = .ok (.ireturn, 1) := by decide +kernel
theorem dL_law_416 : decode code 416 = .ok (.aload_n 1, 1) := by decide +kernel
theorem dL_law_417 : decode code 417 = .ok (.aload_n 0, 1) := by decide +kernel
theorem dL_law_418 : decode code 418 = .ok (.iload_n 3, 1) := by decide +kernel
theorem dL_law_419 : decode code 419 = .ok (.iconst 1, 1) := by decide +kernel
theorem dL_law_420 : decode code 420 = .ok (.iadd, 1) := by decide +kernel
theorem dL_law_421 : decode code 421 = .ok (.iaload, 1) := by decide +kernel
theorem dL_law_422 : decode code 422 = .ok (.aload_n 0, 1) := by decide +kernel
theorem dL_law_423 : decode code 423 = .ok (.iload_n 3, 1) := by decide +kernel
theorem dL_law_424 : decode code 424 = .ok (.iconst 2, 1) := by decide +kernel
theorem dL_law_425 : decode code 425 = .ok (.iadd, 1) := by decide +kernel
theorem dL_law_426 : decode code 426 = .ok (.iaload, 1) := by decide +kernel
theorem dL_law_427 : decode code 427 = .ok (.invokevirtual 64, 3) := by decide +kernel
theorem dL_law_430 : decode code 430 = .ok (.aload_n 2, 1) := by decide +kernel
theorem dL_law_431 : decode code 431 = .ok (.aload_n 0, 1) := by decide +kernel
theorem dL_law_432 : decode code 432 = .ok (.iload_n 3, 1) := by decide +kernel
theorem dL_law_433 : decode code 433 = .ok (.iconst 1, 1) := by decide +kernel
theorem dL_law_434 : decode code 434 = .ok (.iadd, 1) := by decide +kernel
theorem dL_law_435 : decode code 435 = .ok (.iaload, 1) := by decide +kernel
theorem dL_law_436 : decode code 436 = .ok (.aload_n 0, 1) := by decide +kernel
theorem dL_law_437 : decode code 437 = .ok (.iload_n 3, 1) := by decide +kernel
theorem dL_law_438 : decode code 438 = .ok (.iconst 2, 1) := by decide +kernel
theorem dL_law_439 : decode code 439 = .ok (.iadd, 1) := by decide +kernel
theorem dL_law_440 : decode code 440 = .ok (.iaload, 1) := by decide +kernel
theorem dL_law_441 : decode code 441 = .ok (.invokevirtual 67, 3) := by decide +kernel
theorem dL_law_444 : decode code 444 = .ok (.if_icmp .eq 400, 3) := by decide +kernel
theorem dL_law_447 : decode code 447 = .ok (.iconst 0, 1) := by decide +kernel
theorem dL_law_448 : decode code 448 = .ok (.ireturn, 1) := by decide +kernel
theorem dL_law_449 : decode code 449 = .ok (.aload_n 1, 1) := by decide +kernel
theorem dL_law_450 : decode code 450 = .ok (.aload_n 0, 1) := by decide +kernel
theorem dL_law_451 : decode code 451 = .ok (.iload_n 3, 1) := by decide +kernel
theorem dL_law_452 : decode code 452 = .ok (.iconst 1, 1) := by decide +kernel
theorem dL_law_453 : decode code 453 = .ok (.iadd, 1) := by decide +kernel
theorem dL_law_454 : decode code 454 = .ok (.iaload, 1) := by decide +kernel
theorem dL_law_455 : decode code 455 = .ok (.aload_n 0, 1) := by decide +kernel
theorem dL_law_456 : decode code 456 = .ok (.iload_n 3, 1) := by decide +kernel
theorem dL_law_457 : decode code 457 = .ok (.iconst 2, 1) := by decide +kernel
theorem dL_law_458 : decode code 458 = .ok (.iadd, 1) := by decide +kernel
theorem dL_law_459 : decode code 459 = .ok (.iaload, 1) := by decide +kernel
theorem dL_law_460 : decode code 460 = .ok (.invokevirtual 68, 3) := by decide +kernel
theorem dL_law_463 : decode code 463 = .ok (.aload_n 2, 1) := by decide +kernel
theorem dL_law_464 : decode code 464 = .ok (.aload_n 0, 1) := by decide +kernel
theorem dL_law_465 : decode code 465 = .ok (.iload_n 3, 1) := by decide +kernel
theorem dL_law_466 : decode code 466 = .ok (.iconst 1, 1) := by decide +kernel
theorem dL_law_467 : decode code 467 = .ok (.iadd, 1) := by decide +kernel
theorem dL_law_468 : decode code 468 = .ok (.iaload, 1) := by decide +kernel
theorem dL_law_469 : decode code 469 = .ok (.aload_n 0, 1) := by decide +kernel
theorem dL_law_470 : decode code 470 = .ok (.iload_n 3, 1) := by decide +kernel
theorem dL_law_471 : decode code 471 = .ok (.iconst 2, 1) := by decide +kernel
theorem dL_law_472 : decode code 472 = .ok (.iadd, 1) := by decide +kernel
theorem dL_law_473 : decode code 473 = .ok (.iaload, 1) := by decide +kernel
theorem dL_law_474 : decode code 474 = .ok (.invokevirtual 71, 3) := by decide +kernel
theorem dL_law_477 : decode code 477 = .ok (.if_icmp .eq 367, 3) := by decide +kernel
theorem dL_law_480 : decode code 480 = .ok (.iconst 0, 1) := by decide +kernel
theorem dL_law_481 : decode code 481 = .ok (.ireturn, 1) := by decide +kernel
theorem dL_law_482 : decode code 482 = .ok (.aload_n 1, 1) := by decide +kernel
theorem dL_law_483 : decode code 483 = .ok (.aload_n 0, 1) := by decide +kernel
theorem dL_law_484 : decode code 484 = .ok (.iload_n 3, 1) := by decide +kernel
theorem dL_law_485 : decode code 485 = .ok (.iconst 1, 1) := by decide +kernel
theorem dL_law_486 : decode code 486 = .ok (.iadd, 1) := by decide +kernel
theorem dL_law_487 : decode code 487 = .ok (.iaload, 1) := by decide +kernel
theorem dL_law_488 : decode code 488 = .ok (.invokevirtual 72, 3) := by decide +kernel
theorem dL_law_491 : decode code 491 = .ok (.aload_n 2, 1) := by decide +kernel
theorem dL_law_492 : decode code 492 = .ok (.aload_n 0, 1) := by decide +kernel
theorem dL_law_493 : decode code 493 = .ok (.iload_n 3, 1) := by decide +kernel
theorem dL_law_494 : decode code 494 = .ok (.iconst 1, 1) := by decide +kernel
theorem dL_law_495 : decode code 495 = .ok (.iadd, 1) := by decide +kernel
theorem dL_law_496 : decode code 496 = .ok (.iaload, 1) := by decide +kernel
theorem dL_law_497 : decode code 497 = .ok (.invokevirtual 75, 3) := by decide +kernel
theorem dL_law_500 : decode code 500 = .ok (.if_icmp .eq 344, 3) := by decide +kernel
theorem dL_law_503 : decode code 503 = .ok (.iconst 0, 1) := by decide +kernel
theorem dL_law_504 : decode code 504 = .ok (.ireturn, 1) := by decide +kernel
theorem dL_law_505 : decode code 505 = .ok (.aload_n 1, 1) := by decide +kernel
theorem dL_law_506 : decode code 506 = .ok (.invokevirtual 76, 3) := by decide +kernel
theorem dL_law_509 : decode code 509 = .ok (.aload_n 2, 1) := by decide +kernel
theorem dL_law_510 : decode code 510 = .ok (.invokevirtual 79, 3) := by decide +kernel
theorem dL_law_513 : decode code 513 = .ok (.if_icmp .eq 331, 3) := by decide +kernel
theorem dL_law_516 : decode code 516 = .ok (.iconst 0, 1) := by decide +kernel
theorem dL_law_517 : decode code 517 = .ok (.ireturn, 1) := by decide +kernel
theorem dL_law_518 : decode code 518 = .ok (.aload_n 1, 1) := by decide +kernel
theorem dL_law_519 : decode code 519 = .ok (.aload_n 0, 1) := by decide +kernel
theorem dL_law_520 : decode code 520 = .ok (.iload_n 3, 1) := by decide +kernel
theorem dL_law_521 : decode code 521 = .ok (.iconst 1, 1) := by decide +kernel
theorem dL_law_522 : decode code 522 = .ok (.iadd, 1) := by decide +kernel
theorem dL_law_523 : decode code 523 = .ok (.iaload, 1) := by decide +kernel
theorem dL_law_524 : decode code 524 = .ok (.invokevirtual 80, 3) := by decide +kernel
theorem dL_law_527 : decode code 527 = .ok (.aload_n 2, 1) := by decide +kernel
theorem dL_law_528 : decode code 528 = .ok (.aload_n 0, 1) := by decide +kernel
theorem dL_law_529 : decode code 529 = .ok (.iload_n 3, 1) := by decide +kernel
theorem dL_law_530 : decode code 530 = .ok (.iconst 1, 1) := by decide +kernel
theorem dL_law_531 : decode code 531 = .ok (.iadd, 1) := by decide +kernel
theorem dL_law_532 : decode code 532 = .ok (.iaload, 1) := by decide +kernel
theorem dL_law_533 : decode code 533 = .ok (.invokevirtual 83, 3) := by decide +kernel
theorem dL_law_536 : decode code 536 = .ok (.if_icmp .eq 308, 3) := by decide +kernel
theorem dL_law_539 : decode code 539 = .ok (.iconst 0, 1) := by decide +kernel
theorem dL_law_540 : decode code 540 = .ok (.ireturn, 1) := by decide +kernel
theorem dL_law_541 : decode code 541 = .ok (.aload_n 1, 1) := by decide +kernel
theorem dL_law_542 : decode code 542 = .ok (.aload_n 0, 1) := by decide +kernel
theorem dL_law_543 : decode code 543 = .ok (.iload_n 3, 1) := by decide +kernel
theorem dL_law_544 : decode code 544 = .ok (.iconst 1, 1) := by decide +kernel
theorem dL_law_545 : decode code 545 = .ok (.iadd, 1) := by decide +kernel
theorem dL_law_546 : decode code 546 = .ok (.iaload, 1) := by decide +kernel
theorem dL_law_547 : decode code 547 = .ok (.aload_n 0, 1) := by decide +kernel
theorem dL_law_548 : decode code 548 = .ok (.iload_n 3, 1) := by decide +kernel
theorem dL_law_549 : decode code 549 = .ok (.iconst 2, 1) := by decide +kernel
theorem dL_law_550 : decode code 550 = .ok (.iadd, 1) := by decide +kernel
theorem dL_law_551 : decode code 551 = .ok (.iaload, 1) := by decide +kernel
theorem dL_law_552 : decode code 552 = .ok (.aload_n 0, 1) := by decide +kernel
theorem dL_law_553 : decode code 553 = .ok (.iload_n 3, 1) := by decide +kernel
theorem dL_law_554 : decode code 554 = .ok (.iconst 3, 1) := by decide +kernel
theorem dL_law_555 : decode code 555 = .ok (.iadd, 1) := by decide +kernel
theorem dL_law_556 : decode code 556 = .ok (.iaload, 1) := by decide +kernel
theorem dL_law_557 : decode code 557 = .ok (.invokevirtual 84, 3) := by decide +kernel
theorem dL_law_560 : decode code 560 = .ok (.aload_n 2, 1) := by decide +kernel
theorem dL_law_561 : decode code 561 = .ok (.aload_n 0, 1) := by decide +kernel
theorem dL_law_562 : decode code 562 = .ok (.iload_n 3, 1) := by decide +kernel
theorem dL_law_563 : decode code 563 = .ok (.iconst 1, 1) := by decide +kernel
theorem dL_law_564 : decode code 564 = .ok (.iadd, 1) := by decide +kernel
theorem dL_law_565 : decode code 565 = .ok (.iaload, 1) := by decide +kernel
theorem dL_law_566 : decode code 566 = .ok (.aload_n 0, 1) := by decide +kernel
theorem dL_law_567 : decode code 567 = .ok (.iload_n 3, 1) := by decide +kernel
theorem dL_law_568 : decode code 568 = .ok (.iconst 2, 1) := by decide +kernel
theorem dL_law_569 : decode code 569 = .ok (.iadd, 1) := by decide +kernel
theorem dL_law_570 : decode code 570 = .ok (.iaload, 1) := by decide +kernel
theorem dL_law_571 : decode code 571 = .ok (.aload_n 0, 1) := by decide +kernel
theorem dL_law_572 : decode code 572 = .ok (.iload_n 3, 1) := by decide +kernel
theorem dL_law_573 : decode code 573 = .ok (.iconst 3, 1) := by decide +kernel
theorem dL_law_574 : decode code 574 = .ok (.iadd, 1) := by decide +kernel
theorem dL_law_575 : decode code 575 = .ok (.iaload, 1) := by decide +kernel
theorem dL_law_576 : decode code 576 = .ok (.invokevirtual 88, 3) := by decide +kernel
theorem dL_law_579 : decode code 579 = .ok (.if_icmp .eq 265, 3) := by decide +kernel
theorem dL_law_582 : decode code 582 = .ok (.iconst 0, 1) := by decide +kernel
theorem dL_law_583 : decode code 583 = .ok (.ireturn, 1) := by decide +kernel
theorem dL_law_584 : decode code 584 = .ok (.aload_n 1, 1) := by decide +kernel
theorem dL_law_585 : decode code 585 = .ok (.aload_n 0, 1) := by decide +kernel
theorem dL_law_586 : decode code 586 = .ok (.iload_n 3, 1) := by decide +kernel
theorem dL_law_587 : decode code 587 = .ok (.iconst 1, 1) := by decide +kernel
theorem dL_law_588 : decode code 588 = .ok (.iadd, 1) := by decide +kernel
theorem dL_law_589 : decode code 589 = .ok (.iaload, 1) := by decide +kernel
theorem dL_law_590 : decode code 590 = .ok (.aload_n 0, 1) := by decide +kernel
theorem dL_law_591 : decode code 591 = .ok (.iload_n 3, 1) := by decide +kernel
theorem dL_law_592 : decode code 592 = .ok (.iconst 2, 1) := by decide +kernel
theorem dL_law_593 : decode code 593 = .ok (.iadd, 1) := by decide +kernel
theorem dL_law_594 : decode code 594 = .ok (.iaload, 1) := by decide +kernel
theorem dL_law_595 : decode code 595 = .ok (.invokevirtual 89, 3) := by decide +kernel
theorem dL_law_598 : decode code 598 = .ok (.aload_n 2, 1) := by decide +kernel
theorem dL_law_599 : decode code 599 = .ok (.aload_n 0, 1) := by decide +kernel
theorem dL_law_600 : decode code 600 = .ok (.iload_n 3, 1) := by decide +kernel
theorem dL_law_601 : decode code 601 = .ok (.iconst 1, 1) := by decide +kernel
theorem dL_law_602 : decode code 602 = .ok (.iadd, 1) := by decide +kernel
theorem dL_law_603 : decode code 603 = .ok (.iaload, 1) := by decide +kernel
theorem dL_law_604 : decode code 604 = .ok (.aload_n 0, 1) := by decide +kernel
theorem dL_law_605 : decode code 605 = .ok (.iload_n 3, 1) := by decide +kernel
theorem dL_law_606 : decode code 606 = .ok (.iconst 2, 1) := by decide +kernel
theorem dL_law_607 : decode code 607 = .ok (.iadd, 1) := by decide +kernel
theorem dL_law_608 : decode code 608 = .ok (.iaload, 1) := by decide +kernel
theorem dL_law_609 : decode code 609 = .ok (.invokevirtual 92, 3) := by decide +kernel
theorem dL_law_612 : decode code 612 = .ok (.if_icmp .eq 232, 3) := by decide +kernel
theorem dL_law_615 : decode code 615 = .ok (.iconst 0, 1) := by decide +kernel
theorem dL_law_616 : decode code 616 = .ok (.ireturn, 1) := by decide +kernel
theorem dL_law_617 : decode code 617 = .ok (.aload_n 1, 1) := by decide +kernel
theorem dL_law_618 : decode code 618 = .ok (.invokevirtual 93, 3) := by decide +kernel
theorem dL_law_621 : decode code 621 = .ok (.aload_n 2, 1) := by decide +kernel
theorem dL_law_622 : decode code 622 = .ok (.invokevirtual 96, 3) := by decide +kernel
theorem dL_law_625 : decode code 625 = .ok (.if_icmp .eq 219, 3) := by decide +kernel
theorem dL_law_628 : decode code 628 = .ok (.iconst 0, 1) := by decide +kernel
theorem dL_law_629 : decode code 629 = .ok (.ireturn, 1) := by decide +kernel
theorem dL_law_630 : decode code 630 = .ok (.aload_n 1, 1) := by decide +kernel
theorem dL_law_631 : decode code 631 = .ok (.aload_n 0, 1) := by decide +kernel
theorem dL_law_632 : decode code 632 = .ok (.iload_n 3, 1) := by decide +kernel
theorem dL_law_633 : decode code 633 = .ok (.iconst 1, 1) := by decide +kernel
theorem dL_law_634 : decode code 634 = .ok (.iadd, 1) := by decide +kernel
theorem dL_law_635 : decode code 635 = .ok (.iaload, 1) := by decide +kernel
theorem dL_law_636 : decode code 636 = .ok (.invokevirtual 97, 3) := by decide +kernel
theorem dL_law_639 : decode code 639 = .ok (.aload_n 2, 1) := by decide +kernel
theorem dL_law_640 : decode code 640 = .ok (.aload_n 0, 1) := by decide +kernel
theorem dL_law_641 : decode code 641 = .ok (.iload_n 3, 1) := by decide +kernel
theorem dL_law_642 : decode code 642 = .ok (.iconst 1, 1) := by decide +kernel
theorem dL_law_643 : decode code 643 = .ok (.iadd, 1) := by decide +kernel
theorem dL_law_644 : decode code 644 = .ok (.iaload, 1) := by decide +kernel
theorem dL_law_645 : decode code 645 = .ok (.invokevirtual 100, 3) := by decide +kernel
theorem dL_law_648 : decode code 648 = .ok (.if_icmp .eq 196, 3) := by decide +kernel
theorem dL_law_651 : decode code 651 = .ok (.iconst 0, 1) := by decide +kernel
theorem dL_law_652 : decode code 652 = .ok (.ireturn, 1) := by decide +kernel
theorem dL_law_653 : decode code 653 = .ok (.aload_n 1, 1) := by decide +kernel
theorem dL_law_654 : decode code 654 = .ok (.aload_n 0, 1) := by decide +kernel
theorem dL_law_655 : decode code 655 = .ok (.iload_n 3, 1) := by decide +kernel
theorem dL_law_656 : decode code 656 = .ok (.iconst 1, 1) := by decide +kernel
theorem dL_law_657 : decode code 657 = .ok (.iadd, 1) := by decide +kernel
theorem dL_law_658 : decode code 658 = .ok (.iaload, 1) := by decide +kernel
theorem dL_law_659 : decode code 659 = .ok (.invokevirtual 101, 3) := by decide +kernel
theorem dL_law_662 : decode code 662 = .ok (.aload_n 2, 1) := by decide +kernel
theorem dL_law_663 : decode code 663 = .ok (.aload_n 0, 1) := by decide +kernel
theorem dL_law_664 : decode code 664 = .ok (.iload_n 3, 1) := by decide +kernel
theorem dL_law_665 : decode code 665 = .ok (.iconst 1, 1) := by decide +kernel
theorem dL_law_666 : decode code 666 = .ok (.iadd, 1) := by decide +kernel
theorem dL_law_667 : decode code 667 = .ok (.iaload, 1) := by decide +kernel
theorem dL_law_668 : decode code 668 = .ok (.invokevirtual 104, 3) := by decide +kernel
theorem dL_law_671 : decode code 671 = .ok (.if_icmp .eq 173, 3) := by decide +kernel
theorem dL_law_674 : decode code 674 = .ok (.iconst 0, 1) := by decide +kernel
theorem dL_law_675 : decode code 675 = .ok (.ireturn, 1) := by decide +kernel
theorem dL_law_676 : decode code 676 = .ok (.aload_n 1, 1) := by decide +kernel
theorem dL_law_677 : decode code 677 = .ok (.aload_n 0, 1) := by decide +kernel
theorem dL_law_678 : decode code 678 = .ok (.iload_n 3, 1) := by decide +kernel
theorem dL_law_679 : decode code 679 = .ok (.iconst 1, 1) := by decide +kernel
theorem dL_law_680 : decode code 680 = .ok (.iadd, 1) := by decide +kernel
theorem dL_law_681 : decode code 681 = .ok (.iaload, 1) := by decide +kernel
theorem dL_law_682 : decode code 682 = .ok (.invokevirtual 105, 3) := by decide +kernel
theorem dL_law_685 : decode code 685 = .ok (.aload_n 2, 1) := by decide +kernel
theorem dL_law_686 : decode code 686 = .ok (.aload_n 0, 1) := by decide +kernel
theorem dL_law_687 : decode code 687 = .ok (.iload_n 3, 1) := by decide +kernel
theorem dL_law_688 : decode code 688 = .ok (.iconst 1, 1) := by decide +kernel
theorem dL_law_689 : decode code 689 = .ok (.iadd, 1) := by decide +kernel
theorem dL_law_690 : decode code 690 = .ok (.iaload, 1) := by decide +kernel
theorem dL_law_691 : decode code 691 = .ok (.invokevirtual 108, 3) := by decide +kernel
theorem dL_law_694 : decode code 694 = .ok (.if_icmp .eq 150, 3) := by decide +kernel
theorem dL_law_697 : decode code 697 = .ok (.iconst 0, 1) := by decide +kernel
theorem dL_law_698 : decode code 698 = .ok (.ireturn, 1) := by decide +kernel
theorem dL_law_699 : decode code 699 = .ok (.aload_n 1, 1) := by decide +kernel
theorem dL_law_700 : decode code 700 = .ok (.aload_n 0, 1) := by decide +kernel
theorem dL_law_701 : decode code 701 = .ok (.iload_n 3, 1) := by decide +kernel
theorem dL_law_702 : decode code 702 = .ok (.iconst 1, 1) := by decide +kernel
theorem dL_law_703 : decode code 703 = .ok (.iadd, 1) := by decide +kernel
theorem dL_law_704 : decode code 704 = .ok (.iaload, 1) := by decide +kernel
theorem dL_law_705 : decode code 705 = .ok (.aload_n 0, 1) := by decide +kernel
theorem dL_law_706 : decode code 706 = .ok (.iload_n 3, 1) := by decide +kernel
theorem dL_law_707 : decode code 707 = .ok (.iconst 2, 1) := by decide +kernel
theorem dL_law_708 : decode code 708 = .ok (.iadd, 1) := by decide +kernel
theorem dL_law_709 : decode code 709 = .ok (.iaload, 1) := by decide +kernel
theorem dL_law_710 : decode code 710 = .ok (.aload_n 0, 1) := by decide +kernel
theorem dL_law_711 : decode code 711 = .ok (.iload_n 3, 1) := by decide +kernel
theorem dL_law_712 : decode code 712 = .ok (.iconst 3, 1) := by decide +kernel
theorem dL_law_713 : decode code 713 = .ok (.iadd, 1) := by decide +kernel
theorem dL_law_714 : decode code 714 = .ok (.iaload, 1) := by decide +kernel
theorem dL_law_715 : decode code 715 = .ok (.aload_n 0, 1) := by decide +kernel
theorem dL_law_716 : decode code 716 = .ok (.iload_n 3, 1) := by decide +kernel
theorem dL_law_717 : decode code 717 = .ok (.iconst 4, 1) := by decide +kernel
theorem dL_law_718 : decode code 718 = .ok (.iadd, 1) := by decide +kernel
theorem dL_law_719 : decode code 719 = .ok (.iaload, 1) := by decide +kernel
theorem dL_law_720 : decode code 720 = .ok (.invokevirtual 109, 3) := by decide +kernel
theorem dL_law_723 : decode code 723 = .ok (.aload_n 2, 1) := by decide +kernel
theorem dL_law_724 : decode code 724 = .ok (.aload_n 0, 1) := by decide +kernel
theorem dL_law_725 : decode code 725 = .ok (.iload_n 3, 1) := by decide +kernel
theorem dL_law_726 : decode code 726 = .ok (.iconst 1, 1) := by decide +kernel
theorem dL_law_727 : decode code 727 = .ok (.iadd, 1) := by decide +kernel
theorem dL_law_728 : decode code 728 = .ok (.iaload, 1) := by decide +kernel
theorem dL_law_729 : decode code 729 = .ok (.aload_n 0, 1) := by decide +kernel
theorem dL_law_730 : decode code 730 = .ok (.iload_n 3, 1) := by decide +kernel
theorem dL_law_731 : decode code 731 = .ok (.iconst 2, 1) := by decide +kernel
theorem dL_law_732 : decode code 732 = .ok (.iadd, 1) := by decide +kernel
theorem dL_law_733 : decode code 733 = .ok (.iaload, 1) := by decide +kernel
theorem dL_law_734 : decode code 734 = .ok (.aload_n 0, 1) := by decide +kernel
theorem dL_law_735 : decode code 735 = .ok (.iload_n 3, 1) := by decide +kernel
theorem dL_law_736 : decode code 736 = .ok (.iconst 3, 1) := by decide +kernel
theorem dL_law_737 : decode code 737 = .ok (.iadd, 1) := by decide +kernel
theorem dL_law_738 : decode code 738 = .ok (.iaload, 1) := by decide +kernel
theorem dL_law_739 : decode code 739 = .ok (.aload_n 0, 1) := by decide +kernel
theorem dL_law_740 : decode code 740 = .ok (.iload_n 3, 1) := by decide +kernel
theorem dL_law_741 : decode code 741 = .ok (.iconst 4, 1) := by decide +kernel
theorem dL_law_742 : decode code 742 = .ok (.iadd, 1) := by decide +kernel
theorem dL_law_743 : decode code 743 = .ok (.iaload, 1) := by decide +kernel
theorem dL_law_744 : decode code 744 = .ok (.invokevirtual 113, 3) := by decide +kernel
theorem dL_law_747 : decode code 747 = .ok (.if_icmp .eq 97, 3) := by decide +kernel
theorem dL_law_750 : decode code 750 = .ok (.iconst 0, 1) := by decide +kernel
theorem dL_law_751 : decode code 751 = .ok (.ireturn, 1) := by decide +kernel
theorem dL_law_752 : decode code 752 = .ok (.aload_n 1, 1) := by decide +kernel
theorem dL_law_753 : decode code 753 = .ok (.aload_n 0, 1) := by decide +kernel
theorem dL_law_754 : decode code 754 = .ok (.iload_n 3, 1) := by decide +kernel
theorem dL_law_755 : decode code 755 = .ok (.iconst 1, 1) := by decide +kernel
theorem dL_law_756 : decode code 756 = .ok (.iadd, 1) := by decide +kernel
theorem dL_law_757 : decode code 757 = .ok (.iaload, 1) := by decide +kernel
theorem dL_law_758 : decode code 758 = .ok (.aload_n 0, 1) := by decide +kernel
theorem dL_law_759 : decode code 759 = .ok (.iload_n 3, 1) := by decide +kernel
theorem dL_law_760 : decode code 760 = .ok (.iconst 2, 1) := by decide +kernel
theorem dL_law_761 : decode code 761 = .ok (.iadd, 1) := by decide +kernel
theorem dL_law_762 : decode code 762 = .ok (.iaload, 1) := by decide +kernel
theorem dL_law_763 : decode code 763 = .ok (.aload_n 0, 1) := by decide +kernel
theorem dL_law_764 : decode code 764 = .ok (.iload_n 3, 1) := by decide +kernel
theorem dL_law_765 : decode code 765 = .ok (.iconst 3, 1) := by decide +kernel
theorem dL_law_766 : decode code 766 = .ok (.iadd, 1) := by decide +kernel
theorem dL_law_767 : decode code 767 = .ok (.iaload, 1) := by decide +kernel
theorem dL_law_768 : decode code 768 = .ok (.invokevirtual 114, 3) := by decide +kernel
theorem dL_law_771 : decode code 771 = .ok (.aload_n 2, 1) := by decide +kernel
theorem dL_law_772 : decode code 772 = .ok (.aload_n 0, 1) := by decide +kernel
theorem dL_law_773 : decode code 773 = .ok (.iload_n 3, 1) := by decide +kernel
theorem dL_law_774 : decode code 774 = .ok (.iconst 1, 1) := by decide +kernel
theorem dL_law_775 : decode code 775 = .ok (.iadd, 1) := by decide +kernel
theorem dL_law_776 : decode code 776 = .ok (.iaload, 1) := by decide +kernel
theorem dL_law_777 : decode code 777 = .ok (.aload_n 0, 1) := by decide +kernel
theorem dL_law_778 : decode code 778 = .ok (.iload_n 3, 1) := by decide +kernel
theorem dL_law_779 : decode code 779 = .ok (.iconst 2, 1) := by decide +kernel
theorem dL_law_780 : decode code 780 = .ok (.iadd, 1) := by decide +kernel
theorem dL_law_781 : decode code 781 = .ok (.iaload, 1) := by decide +kernel
theorem dL_law_782 : decode code 782 = .ok (.aload_n 0, 1) := by decide +kernel
theorem dL_law_783 : decode code 783 = .ok (.iload_n 3, 1) := by decide +kernel
theorem dL_law_784 : decode code 784 = .ok (.iconst 3, 1) := by decide +kernel
theorem dL_law_785 : decode code 785 = .ok (.iadd, 1) := by decide +kernel
theorem dL_law_786 : decode code 786 = .ok (.iaload, 1) := by decide +kernel
theorem dL_law_787 : decode code 787 = .ok (.invokevirtual 117, 3) := by decide +kernel
theorem dL_law_790 : decode code 790 = .ok (.if_icmp .eq 54, 3) := by decide +kernel
theorem dL_law_793 : decode code 793 = .ok (.iconst 0, 1) := by decide +kernel
theorem dL_law_794 : decode code 794 = .ok (.ireturn, 1) := by decide +kernel
theorem dL_law_795 : decode code 795 = .ok (.aload_n 1, 1) := by decide +kernel
theorem dL_law_796 : decode code 796 = .ok (.invokevirtual 118, 3) := by decide +kernel
theorem dL_law_799 : decode code 799 = .ok (.aload_n 2, 1) := by decide +kernel
theorem dL_law_800 : decode code 800 = .ok (.invokevirtual 121, 3) := by decide +kernel
theorem dL_law_803 : decode code 803 = .ok (.if_icmp .eq 41, 3) := by decide +kernel
theorem dL_law_806 : decode code 806 = .ok (.iconst 0, 1) := by decide +kernel
theorem dL_law_807 : decode code 807 = .ok (.ireturn, 1) := by decide +kernel
theorem dL_law_808 : decode code 808 = .ok (.aload_n 1, 1) := by decide +kernel
theorem dL_law_809 : decode code 809 = .ok (.invokevirtual 122, 3) := by decide +kernel
theorem dL_law_812 : decode code 812 = .ok (.aload_n 2, 1) := by decide +kernel
theorem dL_law_813 : decode code 813 = .ok (.invokevirtual 125, 3) := by decide +kernel
theorem dL_law_816 : decode code 816 = .ok (.if_icmp .eq 28, 3) := by decide +kernel
theorem dL_law_819 : decode code 819 = .ok (.iconst 0, 1) := by decide +kernel
theorem dL_law_820 : decode code 820 = .ok (.ireturn, 1) := by decide +kernel
theorem dL_law_821 : decode code 821 = .ok (.aload_n 1, 1) := by decide +kernel
theorem dL_law_822 : decode code 822 = .ok (.aload_n 0, 1) := by decide +kernel
theorem dL_law_823 : decode code 823 = .ok (.iload_n 3, 1) := by decide +kernel
theorem dL_law_824 : decode code 824 = .ok (.iconst 1, 1) := by decide +kernel
theorem dL_law_825 : decode code 825 = .ok (.iadd, 1) := by decide +kernel
theorem dL_law_826 : decode code 826 = .ok (.iaload, 1) := by decide +kernel
theorem dL_law_827 : decode code 827 = .ok (.invokevirtual 126, 3) := by decide +kernel
theorem dL_law_830 : decode code 830 = .ok (.aload_n 2, 1) := by decide +kernel
theorem dL_law_831 : decode code 831 = .ok (.aload_n 0, 1) := by decide +kernel
theorem dL_law_832 : decode code 832 = .ok (.iload_n 3, 1) := by decide +kernel
theorem dL_law_833 : decode code 833 = .ok (.iconst 1, 1) := by decide +kernel
theorem dL_law_834 : decode code 834 = .ok (.iadd, 1) := by decide +kernel
theorem dL_law_835 : decode code 835 = .ok (.iaload, 1) := by decide +kernel
theorem dL_law_836 : decode code 836 = .ok (.invokevirtual 129, 3) := by decide +kernel
theorem dL_law_839 : decode code 839 = .ok (.if_icmp .eq 5, 3) := by decide +kernel
theorem dL_law_842 : decode code 842 = .ok (.iconst 0, 1) := by decide +kernel
theorem dL_law_843 : decode code 843 = .ok (.ireturn, 1) := by decide +kernel
theorem dL_law_844 : decode code 844 = .ok (.iinc 3 5, 3) := by decide +kernel
theorem dL_law_847 : decode code 847 = .ok (.goto (-829), 3) := by decide +kernel
theorem dL_law_850 : decode code 850 = .ok (.iconst 1, 1) := by decide +kernel
theorem dL_law_851 : decode code 851 = .ok (.ireturn, 1) := by decide +kernel
