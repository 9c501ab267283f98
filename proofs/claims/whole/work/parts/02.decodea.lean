theorem dX0_init_0 : decode cX0_init 0 = .ok (.aload_n 0, 1) := by decide +kernel
theorem dX0_init_1 : decode cX0_init 1 = .ok (.invokespecial 3, 3) := by decide +kernel
theorem dX0_init_4 : decode cX0_init 4 = .ok (.aload_n 0, 1) := by decide +kernel
theorem dX0_init_5 : decode cX0_init 5 = .ok (.iconst 4, 1) := by decide +kernel
theorem dX0_init_6 : decode cX0_init 6 = .ok (.newarray .int, 2) := by decide +kernel
theorem dX0_init_8 : decode cX0_init 8 = .ok (.dup, 1) := by decide +kernel
theorem dX0_init_9 : decode cX0_init 9 = .ok (.iconst 0, 1) := by decide +kernel
theorem dX0_init_10 : decode cX0_init 10 = .ok (.bipush 100, 2) := by decide +kernel
theorem dX0_init_12 : decode cX0_init 12 = .ok (.iastore, 1) := by decide +kernel
theorem dX0_init_13 : decode cX0_init 13 = .ok (.dup, 1) := by decide +kernel
theorem dX0_init_14 : decode cX0_init 14 = .ok (.iconst 1, 1) := by decide +kernel
theorem dX0_init_15 : decode cX0_init 15 = .ok (.sipush 200, 3) := by decide +kernel
theorem dX0_init_18 : decode cX0_init 18 = .ok (.iastore, 1) := by decide +kernel
theorem dX0_init_19 : decode cX0_init 19 = .ok (.dup, 1) := by decide +kernel
theorem dX0_init_20 : decode cX0_init 20 = .ok (.iconst 2, 1) := by decide +kernel
theorem dX0_init_21 : decode cX0_init 21 = .ok (.sipush 300, 3) := by decide +kernel
theorem dX0_init_24 : decode cX0_init 24 = .ok (.iastore, 1) := by decide +kernel
theorem dX0_init_25 : decode cX0_init 25 = .ok (.dup, 1) := by decide +kernel
theorem dX0_init_26 : decode cX0_init 26 = .ok (.iconst 3, 1) := by decide +kernel
theorem dX0_init_27 : decode cX0_init 27 = .ok (.sipush 400, 3) := by decide +kernel
theorem dX0_init_30 : decode cX0_init 30 = .ok (.iastore, 1) := by decide +kernel
theorem dX0_init_31 : decode cX0_init 31 = .ok (.putfield 9, 3) := by decide +kernel
theorem dX0_init_34 : decode cX0_init 34 = .ok (.aload_n 0, 1) := by decide +kernel
theorem dX0_init_35 : decode cX0_init 35 = .ok (.iconst 4, 1) := by decide +kernel
theorem dX0_init_36 : decode cX0_init 36 = .ok (.newarray .int, 2) := by decide +kernel
theorem dX0_init_38 : decode cX0_init 38 = .ok (.dup, 1) := by decide +kernel
theorem dX0_init_39 : decode cX0_init 39 = .ok (.iconst 0, 1) := by decide +kernel
theorem dX0_init_40 : decode cX0_init 40 = .ok (.sipush 160, 3) := by decide +kernel
theorem dX0_init_43 : decode cX0_init 43 = .ok (.iastore, 1) := by decide +kernel
theorem dX0_init_44 : decode cX0_init 44 = .ok (.dup, 1) := by decide +kernel
theorem dX0_init_45 : decode cX0_init 45 = .ok (.iconst 1, 1) := by decide +kernel
theorem dX0_init_46 : decode cX0_init 46 = .ok (.sipush 260, 3) := by decide +kernel
theorem dX0_init_49 : decode cX0_init 49 = .ok (.iastore, 1) := by decide +kernel
theorem dX0_init_50 : decode cX0_init 50 = .ok (.dup, 1) := by decide +kernel
theorem dX0_init_51 : decode cX0_init 51 = .ok (.iconst 2, 1) := by decide +kernel
theorem dX0_init_52 : decode cX0_init 52 = .ok (.sipush 360, 3) := by decide +kernel
theorem dX0_init_55 : decode cX0_init 55 = .ok (.iastore, 1) := by decide +kernel
theorem dX0_init_56 : decode cX0_init 56 = .ok (.dup, 1) := by decide +kernel
theorem dX0_init_57 : decode cX0_init 57 = .ok (.iconst 3, 1) := by decide +kernel
theorem dX0_init_58 : decode cX0_init 58 = .ok (.sipush 460, 3) := by decide +kernel
theorem dX0_init_61 : decode cX0_init 61 = .ok (.iastore, 1) := by decide +kernel
theorem dX0_init_62 : decode cX0_init 62 = .ok (.putfield 15, 3) := by decide +kernel
theorem dX0_init_65 : decode cX0_init 65 = .ok (.aload_n 0, 1) := by decide +kernel
theorem dX0_init_66 : decode cX0_init 66 = .ok (.iconst 4, 1) := by decide +kernel
theorem dX0_init_67 : decode cX0_init 67 = .ok (.newarray .int, 2) := by decide +kernel
theorem dX0_init_69 : decode cX0_init 69 = .ok (.dup, 1) := by decide +kernel
theorem dX0_init_70 : decode cX0_init 70 = .ok (.iconst 0, 1) := by decide +kernel
theorem dX0_init_71 : decode cX0_init 71 = .ok (.iconst 5, 1) := by decide +kernel
theorem dX0_init_72 : decode cX0_init 72 = .ok (.iastore, 1) := by decide +kernel
theorem dX0_init_73 : decode cX0_init 73 = .ok (.dup, 1) := by decide +kernel
theorem dX0_init_74 : decode cX0_init 74 = .ok (.iconst 1, 1) := by decide +kernel
theorem dX0_init_75 : decode cX0_init 75 = .ok (.iconst 5, 1) := by decide +kernel
theorem dX0_init_76 : decode cX0_init 76 = .ok (.iastore, 1) := by decide +kernel
theorem dX0_init_77 : decode cX0_init 77 = .ok (.dup, 1) := by decide +kernel
theorem dX0_init_78 : decode cX0_init 78 = .ok (.iconst 2, 1) := by decide +kernel
theorem dX0_init_79 : decode cX0_init 79 = .ok (.iconst 5, 1) := by decide +kernel
theorem dX0_init_80 : decode cX0_init 80 = .ok (.iastore, 1) := by decide +kernel
theorem dX0_init_81 : decode cX0_init 81 = .ok (.dup, 1) := by decide +kernel
theorem dX0_init_82 : decode cX0_init 82 = .ok (.iconst 3, 1) := by decide +kernel
theorem dX0_init_83 : decode cX0_init 83 = .ok (.iconst 5, 1) := by decide +kernel
theorem dX0_init_84 : decode cX0_init 84 = .ok (.iastore, 1) := by decide +kernel
theorem dX0_init_85 : decode cX0_init 85 = .ok (.putfield 18, 3) := by decide +kernel
theorem dX0_init_88 : decode cX0_init 88 = .ok (.aload_n 0, 1) := by decide +kernel
theorem dX0_init_89 : decode cX0_init 89 = .ok (.iconst 4, 1) := by decide +kernel
theorem dX0_init_90 : decode cX0_init 90 = .ok (.newarray .int, 2) := by decide +kernel
theorem dX0_init_92 : decode cX0_init 92 = .ok (.dup, 1) := by decide +kernel
theorem dX0_init_93 : decode cX0_init 93 = .ok (.iconst 0, 1) := by decide +kernel
theorem dX0_init_94 : decode cX0_init 94 = .ok (.iconst 0, 1) := by decide +kernel
theorem dX0_init_95 : decode cX0_init 95 = .ok (.iastore, 1) := by decide +kernel
theorem dX0_init_96 : decode cX0_init 96 = .ok (.dup, 1) := by decide +kernel
theorem dX0_init_97 : decode cX0_init 97 = .ok (.iconst 1, 1) := by decide +kernel
theorem dX0_init_98 : decode cX0_init 98 = .ok (.iconst 0, 1) := by decide +kernel
theorem dX0_init_99 : decode cX0_init 99 = .ok (.iastore, 1) := by decide +kernel
theorem dX0_init_100 : decode cX0_init 100 = .ok (.dup, 1) := by decide +kernel
theorem dX0_init_101 : decode cX0_init 101 = .ok (.iconst 2, 1) := by decide +kernel
theorem dX0_init_102 : decode cX0_init 102 = .ok (.iconst 0, 1) := by decide +kernel
theorem dX0_init_103 : decode cX0_init 103 = .ok (.iastore, 1) := by decide +kernel
theorem dX0_init_104 : decode cX0_init 104 = .ok (.dup, 1) := by decide +kernel
theorem dX0_init_105 : decode cX0_init 105 = .ok (.iconst 3, 1) := by decide +kernel
theorem dX0_init_106 : decode cX0_init 106 = .ok (.iconst 0, 1) := by decide +kernel
theorem dX0_init_107 : decode cX0_init 107 = .ok (.iastore, 1) := by decide +kernel
theorem dX0_init_108 : decode cX0_init 108 = .ok (.putfield 21, 3) := by decide +kernel
theorem dX0_init_111 : decode cX0_init 111 = .ok (.aload_n 0, 1) := by decide +kernel
theorem dX0_init_112 : decode cX0_init 112 = .ok (.iconst 4, 1) := by decide +kernel
theorem dX0_init_113 : decode cX0_init 113 = .ok (.newarray .int, 2) := by decide +kernel
theorem dX0_init_115 : decode cX0_init 115 = .ok (.dup, 1) := by decide +kernel
theorem dX0_init_116 : decode cX0_init 116 = .ok (.iconst 0, 1) := by decide +kernel
theorem dX0_init_117 : decode cX0_init 117 = .ok (.bipush 15, 2) := by decide +kernel
theorem dX0_init_119 : decode cX0_init 119 = .ok (.iastore, 1) := by decide +kernel
theorem dX0_init_120 : decode cX0_init 120 = .ok (.dup, 1) := by decide +kernel
theorem dX0_init_121 : decode cX0_init 121 = .ok (.iconst 1, 1) := by decide +kernel
theorem dX0_init_122 : decode cX0_init 122 = .ok (.bipush 15, 2) := by decide +kernel
theorem dX0_init_124 : decode cX0_init 124 = .ok (.iastore, 1) := by decide +kernel
theorem dX0_init_125 : decode cX0_init 125 = .ok (.dup, 1) := by decide +kernel
theorem dX0_init_126 : decode cX0_init 126 = .ok (.iconst 2, 1) := by decide +kernel
theorem dX0_init_127 : decode cX0_init 127 = .ok (.bipush 15, 2) := by decide +kernel
theorem dX0_init_129 : decode cX0_init 129 = .ok (.iastore, 1) := by decide +kernel
theorem dX0_init_130 : decode cX0_init 130 = .ok (.dup, 1) := by decide +kernel
theorem dX0_init_131 : decode cX0_init 131 = .ok (.iconst 3, 1) := by decide +kernel
theorem dX0_init_132 : decode cX0_init 132 = .ok (.bipush 15, 2) := by decide +kernel
theorem dX0_init_134 : decode cX0_init 134 = .ok (.iastore, 1) := by decide +kernel
theorem dX0_init_135 : decode cX0_init 135 = .ok (.putfield 24, 3) := by decide +kernel
theorem dX0_init_138 : decode cX0_init 138 = .ok (.return_, 1) := by decide +kernel
theorem dX0_copyFrom_0 : decode cX0_copyFrom 0 = .ok (.aload_n 1, 1) := by decide +kernel
theorem dX0_copyFrom_1 : decode cX0_copyFrom 1 = .ok (.getfield 9, 3) := by decide +kernel
theorem dX0_copyFrom_4 : decode cX0_copyFrom 4 = .ok (.iconst 0, 1) := by decide +kernel
theorem dX0_copyFrom_5 : decode cX0_copyFrom 5 = .ok (.aload_n 0, 1) := by decide +kernel
theorem dX0_copyFrom_6 : decode cX0_copyFrom 6 = .ok (.getfield 9, 3) := by decide +kernel
theorem dX0_copyFrom_9 : decode cX0_copyFrom 9 = .ok (.iconst 0, 1) := by decide +kernel
theorem dX0_copyFrom_10 : decode cX0_copyFrom 10 = .ok (.iconst 4, 1) := by decide +kernel
theorem dX0_copyFrom_11 : decode cX0_copyFrom 11 = .ok (.invokestatic 27, 3) := by decide +kernel
theorem dX0_copyFrom_14 : decode cX0_copyFrom 14 = .ok (.aload_n 1, 1) := by decide +kernel
theorem dX0_copyFrom_15 : decode cX0_copyFrom 15 = .ok (.getfield 15, 3) := by decide +kernel
theorem dX0_copyFrom_18 : decode cX0_copyFrom 18 = .ok (.iconst 0, 1) := by decide +kernel
theorem dX0_copyFrom_19 : decode cX0_copyFrom 19 = .ok (.aload_n 0, 1) := by decide +kernel
theorem dX0_copyFrom_20 : decode cX0_copyFrom 20 = .ok (.getfield 15, 3) := by decide +kernel
theorem dX0_copyFrom_23 : decode cX0_copyFrom 23 = .ok (.iconst 0, 1) := by decide +kernel
theorem dX0_copyFrom_24 : decode cX0_copyFrom 24 = .ok (.iconst 4, 1) := by decide +kernel
theorem dX0_copyFrom_25 : decode cX0_copyFrom 25 = .ok (.invokestatic 27, 3) := by decide +kernel
theorem dX0_copyFrom_28 : decode cX0_copyFrom 28 = .ok (.aload_n 1, 1) := by decide +kernel
theorem dX0_copyFrom_29 : decode cX0_copyFrom 29 = .ok (.getfield 18, 3) := by decide +kernel
theorem dX0_copyFrom_32 : decode cX0_copyFrom 32 = .ok (.iconst 0, 1) := by decide +kernel
theorem dX0_copyFrom_33 : decode cX0_copyFrom 33 = .ok (.aload_n 0, 1) := by decide +kernel
theorem dX0_copyFrom_34 : decode cX0_copyFrom 34 = .ok (.getfield 18, 3) := by decide +kernel
theorem dX0_copyFrom_37 : decode cX0_copyFrom 37 = .ok (.iconst 0, 1) := by decide +kernel
theorem dX0_copyFrom_38 : decode cX0_copyFrom 38 = .ok (.iconst 4, 1) := by decide +kernel
theorem dX0_copyFrom_39 : decode cX0_copyFrom 39 = .ok (.invokestatic 27, 3) := by decide +kernel
theorem dX0_copyFrom_42 : decode cX0_copyFrom 42 = .ok (.aload_n 1, 1) := by decide +kernel
theorem dX0_copyFrom_43 : decode cX0_copyFrom 43 = .ok (.getfield 21, 3) := by decide +kernel
theorem dX0_copyFrom_46 : decode cX0_copyFrom 46 = .ok (.iconst 0, 1) := by decide +kernel
theorem dX0_copyFrom_47 : decode cX0_copyFrom 47 = .ok (.aload_n 0, 1) := by decide +kernel
theorem dX0_copyFrom_48 : decode cX0_copyFrom 48 = .ok (.getfield 21, 3) := by decide +kernel
theorem dX0_copyFrom_51 : decode cX0_copyFrom 51 = .ok (.iconst 0, 1) := by decide +kernel
theorem dX0_copyFrom_52 : decode cX0_copyFrom 52 = .ok (.iconst 4, 1) := by decide +kernel
theorem dX0_copyFrom_53 : decode cX0_copyFrom 53 = .ok (.invokestatic 27, 3) := by decide +kernel
theorem dX0_copyFrom_56 : decode cX0_copyFrom 56 = .ok (.aload_n 1, 1) := by decide +kernel
theorem dX0_copyFrom_57 : decode cX0_copyFrom 57 = .ok (.getfield 24, 3) := by decide +kernel
theorem dX0_copyFrom_60 : decode cX0_copyFrom 60 = .ok (.iconst 0, 1) := by decide +kernel
theorem dX0_copyFrom_61 : decode cX0_copyFrom 61 = .ok (.aload_n 0, 1) := by decide +kernel
theorem dX0_copyFrom_62 : decode cX0_copyFrom 62 = .ok (.getfield 24, 3) := by decide +kernel
theorem dX0_copyFrom_65 : decode cX0_copyFrom 65 = .ok (.iconst 0, 1) := by decide +kernel
theorem dX0_copyFrom_66 : decode cX0_copyFrom 66 = .ok (.iconst 4, 1) := by decide +kernel
theorem dX0_copyFrom_67 : decode cX0_copyFrom 67 = .ok (.invokestatic 27, 3) := by decide +kernel
theorem dX0_copyFrom_70 : decode cX0_copyFrom 70 = .ok (.return_, 1) := by decide +kernel
theorem dX0_othersReach_0 : decode cX0_othersReach 0 = .ok (.iconst 0, 1) := by decide +kernel
theorem dX0_othersReach_1 : decode cX0_othersReach 1 = .ok (.istore 4, 2) := by decide +kernel
theorem dX0_othersReach_3 : decode cX0_othersReach 3 = .ok (.iload 4, 2) := by decide +kernel
theorem dX0_othersReach_5 : decode cX0_othersReach 5 = .ok (.iconst 4, 1) := by decide +kernel
theorem dX0_othersReach_6 : decode cX0_othersReach 6 = .ok (.if_icmp .ge 39, 3) := by decide +kernel
theorem dX0_othersReach_9 : decode cX0_othersReach 9 = .ok (.iload 4, 2) := by decide +kernel
theorem dX0_othersReach_11 : decode cX0_othersReach 11 = .ok (.iload_n 1, 1) := by decide +kernel
theorem dX0_othersReach_12 : decode cX0_othersReach 12 = .ok (.if_icmp .eq 27, 3) := by decide +kernel
theorem dX0_othersReach_15 : decode cX0_othersReach 15 = .ok (.aload_n 0, 1) := by decide +kernel
theorem dX0_othersReach_16 : decode cX0_othersReach 16 = .ok (.getfield 9, 3) := by decide +kernel
theorem dX0_othersReach_19 : decode cX0_othersReach 19 = .ok (.iload 4, 2) := by decide +kernel
theorem dX0_othersReach_21 : decode cX0_othersReach 21 = .ok (.iaload, 1) := by decide +kernel
theorem dX0_othersReach_22 : decode cX0_othersReach 22 = .ok (.iload_n 3, 1) := by decide +kernel
theorem dX0_othersReach_23 : decode cX0_othersReach 23 = .ok (.if_icmp .gt 16, 3) := by decide +kernel
theorem dX0_othersReach_26 : decode cX0_othersReach 26 = .ok (.iload_n 2, 1) := by decide +kernel
theorem dX0_othersReach_27 : decode cX0_othersReach 27 = .ok (.aload_n 0, 1) := by decide +kernel
theorem dX0_othersReach_28 : decode cX0_othersReach 28 = .ok (.getfield 15, 3) := by decide +kernel
theorem dX0_othersReach_31 : decode cX0_othersReach 31 = .ok (.iload 4, 2) := by decide +kernel
theorem dX0_othersReach_33 : decode cX0_othersReach 33 = .ok (.iaload, 1) := by decide +kernel
theorem dX0_othersReach_34 : decode cX0_othersReach 34 = .ok (.if_icmp .gt 5, 3) := by decide +kernel
theorem dX0_othersReach_37 : decode cX0_othersReach 37 = .ok (.iconst 1, 1) := by decide +kernel
theorem dX0_othersReach_38 : decode cX0_othersReach 38 = .ok (.ireturn, 1) := by decide +kernel
theorem dX0_othersReach_39 : decode cX0_othersReach 39 = .ok (.iinc 4 1, 3) := by decide +kernel
theorem dX0_othersReach_42 : decode cX0_othersReach 42 = .ok (.goto (-39), 3) := by decide +kernel
theorem dX0_othersReach_45 : decode cX0_othersReach 45 = .ok (.iconst 0, 1) := by decide +kernel
theorem dX0_othersReach_46 : decode cX0_othersReach 46 = .ok (.ireturn, 1) := by decide +kernel
theorem dX0_hasLane_0 : decode cX0_hasLane 0 = .ok (.aload_n 0, 1) := by decide +kernel
theorem dX0_hasLane_1 : decode cX0_hasLane 1 = .ok (.getfield 24, 3) := by decide +kernel
theorem dX0_hasLane_4 : decode cX0_hasLane 4 = .ok (.iload_n 1, 1) := by decide +kernel
theorem dX0_hasLane_5 : decode cX0_hasLane 5 = .ok (.iaload, 1) := by decide +kernel
theorem dX0_hasLane_6 : decode cX0_hasLane 6 = .ok (.iload_n 2, 1) := by decide +kernel
theorem dX0_hasLane_7 : decode cX0_hasLane 7 = .ok (.ishr, 1) := by decide +kernel
theorem dX0_hasLane_8 : decode cX0_hasLane 8 = .ok (.iconst 1, 1) := by decide +kernel
theorem dX0_hasLane_9 : decode cX0_hasLane 9 = .ok (.iand, 1) := by decide +kernel
theorem dX0_hasLane_10 : decode cX0_hasLane 10 = .ok (.ifCond .eq 7, 3) := by decide +kernel
theorem dX0_hasLane_13 : decode cX0_hasLane 13 = .ok (.iconst 1, 1) := by decide +kernel
theorem dX0_hasLane_14 : decode cX0_hasLane 14 = .ok (.goto 4, 3) := by decide +kernel
theorem dX0_hasLane_17 : decode cX0_hasLane 17 = .ok (.iconst 0, 1) := by decide +kernel
theorem dX0_hasLane_18 : decode cX0_hasLane 18 = .ok (.ireturn, 1) := by decide +kernel
theorem dX0_reaches_0 : decode cX0_reaches 0 = .ok (.iload_n 2, 1) := by decide +kernel
theorem dX0_reaches_1 : decode cX0_reaches 1 = .ok (.aload_n 0, 1) := by decide +kernel
theorem dX0_reaches_2 : decode cX0_reaches 2 = .ok (.getfield 9, 3) := by decide +kernel
theorem dX0_reaches_5 : decode cX0_reaches 5 = .ok (.iload_n 1, 1) := by decide +kernel
theorem dX0_reaches_6 : decode cX0_reaches 6 = .ok (.iaload, 1) := by decide +kernel
theorem dX0_reaches_7 : decode cX0_reaches 7 = .ok (.aload_n 0, 1) := by decide +kernel
theorem dX0_reaches_8 : decode cX0_reaches 8 = .ok (.getfield 15, 3) := by decide +kernel
theorem dX0_reaches_11 : decode cX0_reaches 11 = .ok (.iload_n 1, 1) := by decide +kernel
theorem dX0_reaches_12 : decode cX0_reaches 12 = .ok (.iaload, 1) := by decide +kernel
theorem dX0_reaches_13 : decode cX0_reaches 13 = .ok (.invokestatic 33, 3) := by decide +kernel
theorem dX0_reaches_16 : decode cX0_reaches 16 = .ok (.ireturn, 1) := by decide +kernel
theorem dX0_hasBeatAt_0 : decode cX0_hasBeatAt 0 = .ok (.aload_n 0, 1) := by decide +kernel
theorem dX0_hasBeatAt_1 : decode cX0_hasBeatAt 1 = .ok (.iload_n 1, 1) := by decide +kernel
theorem dX0_hasBeatAt_2 : decode cX0_hasBeatAt 2 = .ok (.iload_n 2, 1) := by decide +kernel
theorem dX0_hasBeatAt_3 : decode cX0_hasBeatAt 3 = .ok (.invokevirtual 37, 3) := by decide +kernel
theorem dX0_hasBeatAt_6 : decode cX0_hasBeatAt 6 = .ok (.iload_n 2, 1) := by decide +kernel
theorem dX0_hasBeatAt_7 : decode cX0_hasBeatAt 7 = .ok (.if_icmp .ne 7, 3) := by decide +kernel
theorem dX0_hasBeatAt_10 : decode cX0_hasBeatAt 10 = .ok (.iconst 1, 1) := by decide +kernel
theorem dX0_hasBeatAt_11 : decode cX0_hasBeatAt 11 = .ok (.goto 4, 3) := by decide +kernel
theorem dX0_hasBeatAt_14 : decode cX0_hasBeatAt 14 = .ok (.iconst 0, 1) := by decide +kernel
theorem dX0_hasBeatAt_15 : decode cX0_hasBeatAt 15 = .ok (.ireturn, 1) := by decide +kernel
theorem dX0_beatFrom_0 : decode cX0_beatFrom 0 = .ok (.iconst 1, 1) := by decide +kernel
theorem dX0_beatFrom_1 : decode cX0_beatFrom 1 = .ok (.aload_n 0, 1) := by decide +kernel
theorem dX0_beatFrom_2 : decode cX0_beatFrom 2 = .ok (.getfield 18, 3) := by decide +kernel
theorem dX0_beatFrom_5 : decode cX0_beatFrom 5 = .ok (.iload_n 1, 1) := by decide +kernel
theorem dX0_beatFrom_6 : decode cX0_beatFrom 6 = .ok (.iaload, 1) := by decide +kernel
theorem dX0_beatFrom_7 : decode cX0_beatFrom 7 = .ok (.invokestatic 41, 3) := by decide +kernel
theorem dX0_beatFrom_10 : decode cX0_beatFrom 10 = .ok (.istore_n 3, 1) := by decide +kernel
theorem dX0_beatFrom_11 : decode cX0_beatFrom 11 = .ok (.iload_n 2, 1) := by decide +kernel
theorem dX0_beatFrom_12 : decode cX0_beatFrom 12 = .ok (.aload_n 0, 1) := by decide +kernel
theorem dX0_beatFrom_13 : decode cX0_beatFrom 13 = .ok (.getfield 21, 3) := by decide +kernel
theorem dX0_beatFrom_16 : decode cX0_beatFrom 16 = .ok (.iload_n 1, 1) := by decide +kernel
theorem dX0_beatFrom_17 : decode cX0_beatFrom 17 = .ok (.iaload, 1) := by decide +kernel
theorem dX0_beatFrom_18 : decode cX0_beatFrom 18 = .ok (.iload_n 2, 1) := by decide +kernel
theorem dX0_beatFrom_19 : decode cX0_beatFrom 19 = .ok (.isub, 1) := by decide +kernel
theorem dX0_beatFrom_20 : decode cX0_beatFrom 20 = .ok (.iload_n 3, 1) := by decide +kernel
theorem dX0_beatFrom_21 : decode cX0_beatFrom 21 = .ok (.invokestatic 46, 3) := by decide +kernel
theorem dX0_beatFrom_24 : decode cX0_beatFrom 24 = .ok (.iadd, 1) := by decide +kernel
theorem dX0_beatFrom_25 : decode cX0_beatFrom 25 = .ok (.ireturn, 1) := by decide +kernel
theorem dX0_beatTill_0 : decode cX0_beatTill 0 = .ok (.iconst 1, 1) := by decide +kernel
theorem dX0_beatTill_1 : decode cX0_beatTill 1 = .ok (.aload_n 0, 1) := by decide +kernel
theorem dX0_beatTill_2 : decode cX0_beatTill 2 = .ok (.getfield 18, 3) := by decide +kernel
theorem dX0_beatTill_5 : decode cX0_beatTill 5 = .ok (.iload_n 1, 1) := by decide +kernel
theorem dX0_beatTill_6 : decode cX0_beatTill 6 = .ok (.iaload, 1) := by decide +kernel
theorem dX0_beatTill_7 : decode cX0_beatTill 7 = .ok (.invokestatic 41, 3) := by decide +kernel
theorem dX0_beatTill_10 : decode cX0_beatTill 10 = .ok (.istore_n 3, 1) := by decide +kernel
theorem dX0_beatTill_11 : decode cX0_beatTill 11 = .ok (.iload_n 2, 1) := by decide +kernel
theorem dX0_beatTill_12 : decode cX0_beatTill 12 = .ok (.iload_n 2, 1) := by decide +kernel
theorem dX0_beatTill_13 : decode cX0_beatTill 13 = .ok (.aload_n 0, 1) := by decide +kernel
theorem dX0_beatTill_14 : decode cX0_beatTill 14 = .ok (.getfield 21, 3) := by decide +kernel
theorem dX0_beatTill_17 : decode cX0_beatTill 17 = .ok (.iload_n 1, 1) := by decide +kernel
theorem dX0_beatTill_18 : decode cX0_beatTill 18 = .ok (.iaload, 1) := by decide +kernel
theorem dX0_beatTill_19 : decode cX0_beatTill 19 = .ok (.isub, 1) := by decide +kernel
theorem dX0_beatTill_20 : decode cX0_beatTill 20 = .ok (.iload_n 3, 1) := by decide +kernel
theorem dX0_beatTill_21 : decode cX0_beatTill 21 = .ok (.invokestatic 46, 3) := by decide +kernel
theorem dX0_beatTill_24 : decode cX0_beatTill 24 = .ok (.isub, 1) := by decide +kernel
theorem dX0_beatTill_25 : decode cX0_beatTill 25 = .ok (.ireturn, 1) := by decide +kernel
theorem dX0_nextAlong_0 : decode cX0_nextAlong 0 = .ok (.iconst (-1), 1) := by decide +kernel
theorem dX0_nextAlong_1 : decode cX0_nextAlong 1 = .ok (.istore_n 2, 1) := by decide +kernel
theorem dX0_nextAlong_2 : decode cX0_nextAlong 2 = .ok (.iconst 0, 1) := by decide +kernel
theorem dX0_nextAlong_3 : decode cX0_nextAlong 3 = .ok (.istore_n 3, 1) := by decide +kernel
theorem dX0_nextAlong_4 : decode cX0_nextAlong 4 = .ok (.iload_n 3, 1) := by decide +kernel
theorem dX0_nextAlong_5 : decode cX0_nextAlong 5 = .ok (.iconst 4, 1) := by decide +kernel
theorem dX0_nextAlong_6 : decode cX0_nextAlong 6 = .ok (.if_icmp .ge 41, 3) := by decide +kernel
theorem dX0_nextAlong_9 : decode cX0_nextAlong 9 = .ok (.aload_n 0, 1) := by decide +kernel
theorem dX0_nextAlong_10 : decode cX0_nextAlong 10 = .ok (.getfield 9, 3) := by decide +kernel
theorem dX0_nextAlong_13 : decode cX0_nextAlong 13 = .ok (.iload_n 3, 1) := by decide +kernel
theorem dX0_nextAlong_14 : decode cX0_nextAlong 14 = .ok (.iaload, 1) := by decide +kernel
theorem dX0_nextAlong_15 : decode cX0_nextAlong 15 = .ok (.iload_n 1, 1) := by decide +kernel
theorem dX0_nextAlong_16 : decode cX0_nextAlong 16 = .ok (.if_icmp .le 25, 3) := by decide +kernel
theorem dX0_nextAlong_19 : decode cX0_nextAlong 19 = .ok (.iload_n 2, 1) := by decide +kernel
theorem dX0_nextAlong_20 : decode cX0_nextAlong 20 = .ok (.iconst (-1), 1) := by decide +kernel
theorem dX0_nextAlong_21 : decode cX0_nextAlong 21 = .ok (.if_icmp .eq 18, 3) := by decide +kernel
theorem dX0_nextAlong_24 : decode cX0_nextAlong 24 = .ok (.aload_n 0, 1) := by decide +kernel
theorem dX0_nextAlong_25 : decode cX0_nextAlong 25 = .ok (.getfield 9, 3) := by decide +kernel
theorem dX0_nextAlong_28 : decode cX0_nextAlong 28 = .ok (.iload_n 3, 1) := by decide +kernel
theorem dX0_nextAlong_29 : decode cX0_nextAlong 29 = .ok (.iaload, 1) := by decide +kernel
theorem dX0_nextAlong_30 : decode cX0_nextAlong 30 = .ok (.aload_n 0, 1) := by decide +kernel
theorem dX0_nextAlong_31 : decode cX0_nextAlong 31 = .ok (.getfield 9, 3) := by decide +kernel
theorem dX0_nextAlong_34 : decode cX0_nextAlong 34 = .ok (.iload_n 2, 1) := by decide +kernel
theorem dX0_nextAlong_35 : decode cX0_nextAlong 35 = .ok (.iaload, 1) := by decide +kernel
theorem dX0_nextAlong_36 : decode cX0_nextAlong 36 = .ok (.if_icmp .ge 5, 3) := by decide +kernel
theorem dX0_nextAlong_39 : decode cX0_nextAlong 39 = .ok (.iload_n 3, 1) := by decide +kernel
theorem dX0_nextAlong_40 : decode cX0_nextAlong 40 = .ok (.istore_n 2, 1) := by decide +kernel
theorem dX0_nextAlong_41 : decode cX0_nextAlong 41 = .ok (.iinc 3 1, 3) := by decide +kernel
theorem dX0_nextAlong_44 : decode cX0_nextAlong 44 = .ok (.goto (-40), 3) := by decide +kernel
theorem dX0_nextAlong_47 : decode cX0_nextAlong 47 = .ok (.iload_n 2, 1) := by decide +kernel
theorem dX0_nextAlong_48 : decode cX0_nextAlong 48 = .ok (.ireturn, 1) := by decide +kernel
theorem dX1_init_0 : decode cX1_init 0 = .ok (.aload_n 0, 1) := by decide +kernel
theorem dX1_init_1 : decode cX1_init 1 = .ok (.invokespecial 3, 3) := by decide +kernel
theorem dX1_init_4 : decode cX1_init 4 = .ok (.aload_n 0, 1) := by decide +kernel
theorem dX1_init_5 : decode cX1_init 5 = .ok (.iconst 2, 1) := by decide +kernel
theorem dX1_init_6 : decode cX1_init 6 = .ok (.putfield 9, 3) := by decide +kernel
theorem dX1_init_9 : decode cX1_init 9 = .ok (.aload_n 0, 1) := by decide +kernel
theorem dX1_init_10 : decode cX1_init 10 = .ok (.iconst 0, 1) := by decide +kernel
theorem dX1_init_11 : decode cX1_init 11 = .ok (.putfield 15, 3) := by decide +kernel
theorem dX1_init_14 : decode cX1_init 14 = .ok (.aload_n 0, 1) := by decide +kernel
theorem dX1_init_15 : decode cX1_init 15 = .ok (.bipush 8, 2) := by decide +kernel
theorem dX1_init_17 : decode cX1_init 17 = .ok (.newarray .int, 2) := by decide +kernel
theorem dX1_init_19 : decode cX1_init 19 = .ok (.putfield 18, 3) := by decide +kernel
theorem dX1_init_22 : decode cX1_init 22 = .ok (.aload_n 0, 1) := by decide +kernel
theorem dX1_init_23 : decode cX1_init 23 = .ok (.bipush 8, 2) := by decide +kernel
theorem dX1_init_25 : decode cX1_init 25 = .ok (.newarray .int, 2) := by decide +kernel
theorem dX1_init_27 : decode cX1_init 27 = .ok (.putfield 22, 3) := by decide +kernel
theorem dX1_init_30 : decode cX1_init 30 = .ok (.aload_n 0, 1) := by decide +kernel
theorem dX1_init_31 : decode cX1_init 31 = .ok (.sipush 301, 3) := by decide +kernel
theorem dX1_init_34 : decode cX1_init 34 = .ok (.newarray .int, 2) := by decide +kernel
theorem dX1_init_36 : decode cX1_init 36 = .ok (.putfield 25, 3) := by decide +kernel
theorem dX1_init_39 : decode cX1_init 39 = .ok (.aload_n 0, 1) := by decide +kernel
theorem dX1_init_40 : decode cX1_init 40 = .ok (.invokevirtual 28, 3) := by decide +kernel
theorem dX1_init_43 : decode cX1_init 43 = .ok (.return_, 1) := by decide +kernel
theorem dX1_copyFrom_0 : decode cX1_copyFrom 0 = .ok (.aload_n 0, 1) := by decide +kernel
theorem dX1_copyFrom_1 : decode cX1_copyFrom 1 = .ok (.aload_n 1, 1) := by decide +kernel
theorem dX1_copyFrom_2 : decode cX1_copyFrom 2 = .ok (.getfield 9, 3) := by decide +kernel
theorem dX1_copyFrom_5 : decode cX1_copyFrom 5 = .ok (.putfield 9, 3) := by decide +kernel
theorem dX1_copyFrom_8 : decode cX1_copyFrom 8 = .ok (.aload_n 0, 1) := by decide +kernel
theorem dX1_copyFrom_9 : decode cX1_copyFrom 9 = .ok (.aload_n 1, 1) := by decide +kernel
theorem dX1_copyFrom_10 : decode cX1_copyFrom 10 = .ok (.getfield 15, 3) := by decide +kernel
theorem dX1_copyFrom_13 : decode cX1_copyFrom 13 = .ok (.putfield 15, 3) := by decide +kernel
theorem dX1_copyFrom_16 : decode cX1_copyFrom 16 = .ok (.aload_n 1, 1) := by decide +kernel
theorem dX1_copyFrom_17 : decode cX1_copyFrom 17 = .ok (.getfield 18, 3) := by decide +kernel
theorem dX1_copyFrom_20 : decode cX1_copyFrom 20 = .ok (.iconst 0, 1) := by decide +kernel
theorem dX1_copyFrom_21 : decode cX1_copyFrom 21 = .ok (.aload_n 0, 1) := by decide +kernel
theorem dX1_copyFrom_22 : decode cX1_copyFrom 22 = .ok (.getfield 18, 3) := by decide +kernel
theorem dX1_copyFrom_25 : decode cX1_copyFrom 25 = .ok (.iconst 0, 1) := by decide +kernel
theorem dX1_copyFrom_26 : decode cX1_copyFrom 26 = .ok (.bipush 8, 2) := by decide +kernel
theorem dX1_copyFrom_28 : decode cX1_copyFrom 28 = .ok (.invokestatic 31, 3) := by decide +kernel
theorem dX1_copyFrom_31 : decode cX1_copyFrom 31 = .ok (.aload_n 1, 1) := by decide +kernel
theorem dX1_copyFrom_32 : decode cX1_copyFrom 32 = .ok (.getfield 22, 3) := by decide +kernel
theorem dX1_copyFrom_35 : decode cX1_copyFrom 35 = .ok (.iconst 0, 1) := by decide +kernel
theorem dX1_copyFrom_36 : decode cX1_copyFrom 36 = .ok (.aload_n 0, 1) := by decide +kernel
theorem dX1_copyFrom_37 : decode cX1_copyFrom 37 = .ok (.getfield 22, 3) := by decide +kernel
theorem dX1_copyFrom_40 : decode cX1_copyFrom 40 = .ok (.iconst 0, 1) := by decide +kernel
theorem dX1_copyFrom_41 : decode cX1_copyFrom 41 = .ok (.bipush 8, 2) := by decide +kernel
theorem dX1_copyFrom_43 : decode cX1_copyFrom 43 = .ok (.invokestatic 31, 3) := by decide +kernel
theorem dX1_copyFrom_46 : decode cX1_copyFrom 46 = .ok (.aload_n 1, 1) := by decide +kernel
theorem dX1_copyFrom_47 : decode cX1_copyFrom 47 = .ok (.getfield 25, 3) := by decide +kernel
theorem dX1_copyFrom_50 : decode cX1_copyFrom 50 = .ok (.iconst 0, 1) := by decide +kernel
theorem dX1_copyFrom_51 : decode cX1_copyFrom 51 = .ok (.aload_n 0, 1) := by decide +kernel
theorem dX1_copyFrom_52 : decode cX1_copyFrom 52 = .ok (.getfield 25, 3) := by decide +kernel
theorem dX1_copyFrom_55 : decode cX1_copyFrom 55 = .ok (.iconst 0, 1) := by decide +kernel
theorem dX1_copyFrom_56 : decode cX1_copyFrom 56 = .ok (.sipush 301, 3) := by decide +kernel
theorem dX1_copyFrom_59 : decode cX1_copyFrom 59 = .ok (.invokestatic 31, 3) := by decide +kernel
theorem dX1_copyFrom_62 : decode cX1_copyFrom 62 = .ok (.return_, 1) := by decide +kernel
theorem dX1_begunBy_0 : decode cX1_begunBy 0 = .ok (.iconst 0, 1) := by decide +kernel
theorem dX1_begunBy_1 : decode cX1_begunBy 1 = .ok (.istore_n 2, 1) := by decide +kernel
theorem dX1_begunBy_2 : decode cX1_begunBy 2 = .ok (.iload_n 2, 1) := by decide +kernel
theorem dX1_begunBy_3 : decode cX1_begunBy 3 = .ok (.aload_n 0, 1) := by decide +kernel
theorem dX1_begunBy_4 : decode cX1_begunBy 4 = .ok (.getfield 15, 3) := by decide +kernel
theorem dX1_begunBy_7 : decode cX1_begunBy 7 = .ok (.if_icmp .ge 19, 3) := by decide +kernel
theorem dX1_begunBy_10 : decode cX1_begunBy 10 = .ok (.aload_n 0, 1) := by decide +kernel
theorem dX1_begunBy_11 : decode cX1_begunBy 11 = .ok (.getfield 18, 3) := by decide +kernel
theorem dX1_begunBy_14 : decode cX1_begunBy 14 = .ok (.iload_n 2, 1) := by decide +kernel
theorem dX1_begunBy_15 : decode cX1_begunBy 15 = .ok (.iaload, 1) := by decide +kernel
theorem dX1_begunBy_16 : decode cX1_begunBy 16 = .ok (.iload_n 1, 1) := by decide +kernel
theorem dX1_begunBy_17 : decode cX1_begunBy 17 = .ok (.if_icmp .gt 9, 3) := by decide +kernel
theorem dX1_begunBy_20 : decode cX1_begunBy 20 = .ok (.iinc 2 1, 3) := by decide +kernel
theorem dX1_begunBy_23 : decode cX1_begunBy 23 = .ok (.goto (-21), 3) := by decide +kernel
theorem dX1_begunBy_26 : decode cX1_begunBy 26 = .ok (.iload_n 2, 1) := by decide +kernel
theorem dX1_begunBy_27 : decode cX1_begunBy 27 = .ok (.ireturn, 1) := by decide +kernel
theorem dX1_speedAt_0 : decode cX1_speedAt 0 = .ok (.aload_n 0, 1) := by decide +kernel
theorem dX1_speedAt_1 : decode cX1_speedAt 1 = .ok (.iload_n 1, 1) := by decide +kernel
theorem dX1_speedAt_2 : decode cX1_speedAt 2 = .ok (.invokevirtual 37, 3) := by decide +kernel
theorem dX1_speedAt_5 : decode cX1_speedAt 5 = .ok (.istore_n 2, 1) := by decide +kernel
theorem dX1_speedAt_6 : decode cX1_speedAt 6 = .ok (.iload_n 2, 1) := by decide +kernel
theorem dX1_speedAt_7 : decode cX1_speedAt 7 = .ok (.ifCond .ne 10, 3) := by decide +kernel
theorem dX1_speedAt_10 : decode cX1_speedAt 10 = .ok (.aload_n 0, 1) := by decide +kernel
theorem dX1_speedAt_11 : decode cX1_speedAt 11 = .ok (.getfield 9, 3) := by decide +kernel
theorem dX1_speedAt_14 : decode cX1_speedAt 14 = .ok (.goto 11, 3) := by decide +kernel
theorem dX1_speedAt_17 : decode cX1_speedAt 17 = .ok (.aload_n 0, 1) := by decide +kernel
theorem dX1_speedAt_18 : decode cX1_speedAt 18 = .ok (.getfield 22, 3) := by decide +kernel
theorem dX1_speedAt_21 : decode cX1_speedAt 21 = .ok (.iload_n 2, 1) := by decide +kernel
theorem dX1_speedAt_22 : decode cX1_speedAt 22 = .ok (.iconst 1, 1) := by decide +kernel
theorem dX1_speedAt_23 : decode cX1_speedAt 23 = .ok (.isub, 1) := by decide +kernel
theorem dX1_speedAt_24 : decode cX1_speedAt 24 = .ok (.iaload, 1) := by decide +kernel
theorem dX1_speedAt_25 : decode cX1_speedAt 25 = .ok (.ireturn, 1) := by decide +kernel
theorem dX1_changeAt_0 : decode cX1_changeAt 0 = .ok (.aload_n 0, 1) := by decide +kernel
theorem dX1_changeAt_1 : decode cX1_changeAt 1 = .ok (.iload_n 1, 1) := by decide +kernel
theorem dX1_changeAt_2 : decode cX1_changeAt 2 = .ok (.invokevirtual 37, 3) := by decide +kernel
theorem dX1_changeAt_5 : decode cX1_changeAt 5 = .ok (.iconst 1, 1) := by decide +kernel
theorem dX1_changeAt_6 : decode cX1_changeAt 6 = .ok (.isub, 1) := by decide +kernel
theorem dX1_changeAt_7 : decode cX1_changeAt 7 = .ok (.istore_n 2, 1) := by decide +kernel
theorem dX1_changeAt_8 : decode cX1_changeAt 8 = .ok (.iload_n 2, 1) := by decide +kernel
theorem dX1_changeAt_9 : decode cX1_changeAt 9 = .ok (.ifCond .lt 17, 3) := by decide +kernel
theorem dX1_changeAt_12 : decode cX1_changeAt 12 = .ok (.aload_n 0, 1) := by decide +kernel
theorem dX1_changeAt_13 : decode cX1_changeAt 13 = .ok (.getfield 18, 3) := by decide +kernel
theorem dX1_changeAt_16 : decode cX1_changeAt 16 = .ok (.iload_n 2, 1) := by decide +kernel
theorem dX1_changeAt_17 : decode cX1_changeAt 17 = .ok (.iaload, 1) := by decide +kernel
theorem dX1_changeAt_18 : decode cX1_changeAt 18 = .ok (.iload_n 1, 1) := by decide +kernel
theorem dX1_changeAt_19 : decode cX1_changeAt 19 = .ok (.if_icmp .ne 7, 3) := by decide +kernel
theorem dX1_changeAt_22 : decode cX1_changeAt 22 = .ok (.iload_n 2, 1) := by decide +kernel
theorem dX1_changeAt_23 : decode cX1_changeAt 23 = .ok (.goto 4, 3) := by decide +kernel
theorem dX1_changeAt_26 : decode cX1_changeAt 26 = .ok (.iconst (-1), 1) := by decide +kernel
theorem dX1_changeAt_27 : decode cX1_changeAt 27 = .ok (.ireturn, 1) := by decide +kernel
theorem dX1_tell_0 : decode cX1_tell 0 = .ok (.aload_n 0, 1) := by decide +kernel
theorem dX1_tell_1 : decode cX1_tell 1 = .ok (.iload_n 1, 1) := by decide +kernel
theorem dX1_tell_2 : decode cX1_tell 2 = .ok (.invokevirtual 41, 3) := by decide +kernel
theorem dX1_tell_5 : decode cX1_tell 5 = .ok (.istore_n 3, 1) := by decide +kernel
theorem dX1_tell_6 : decode cX1_tell 6 = .ok (.iload_n 1, 1) := by decide +kernel
theorem dX1_tell_7 : decode cX1_tell 7 = .ok (.ifCond .ne 11, 3) := by decide +kernel
theorem dX1_tell_10 : decode cX1_tell 10 = .ok (.aload_n 0, 1) := by decide +kernel
theorem dX1_tell_11 : decode cX1_tell 11 = .ok (.iload_n 2, 1) := by decide +kernel
theorem dX1_tell_12 : decode cX1_tell 12 = .ok (.putfield 9, 3) := by decide +kernel
theorem dX1_tell_15 : decode cX1_tell 15 = .ok (.goto 37, 3) := by decide +kernel
theorem dX1_tell_18 : decode cX1_tell 18 = .ok (.iload_n 3, 1) := by decide +kernel
theorem dX1_tell_19 : decode cX1_tell 19 = .ok (.ifCond .lt 13, 3) := by decide +kernel
theorem dX1_tell_22 : decode cX1_tell 22 = .ok (.aload_n 0, 1) := by decide +kernel
theorem dX1_tell_23 : decode cX1_tell 23 = .ok (.getfield 22, 3) := by decide +kernel
theorem dX1_tell_26 : decode cX1_tell 26 = .ok (.iload_n 3, 1) := by decide +kernel
theorem dX1_tell_27 : decode cX1_tell 27 = .ok (.iload_n 2, 1) := by decide +kernel
theorem dX1_tell_28 : decode cX1_tell 28 = .ok (.iastore, 1) := by decide +kernel
theorem dX1_tell_29 : decode cX1_tell 29 = .ok (.goto 23, 3) := by decide +kernel
theorem dX1_tell_32 : decode cX1_tell 32 = .ok (.aload_n 0, 1) := by decide +kernel
theorem dX1_tell_33 : decode cX1_tell 33 = .ok (.getfield 15, 3) := by decide +kernel
theorem dX1_tell_36 : decode cX1_tell 36 = .ok (.bipush 8, 2) := by decide +kernel
theorem dX1_tell_38 : decode cX1_tell 38 = .ok (.if_icmp .ge 14, 3) := by decide +kernel
theorem dX1_tell_41 : decode cX1_tell 41 = .ok (.aload_n 0, 1) := by decide +kernel
theorem dX1_tell_42 : decode cX1_tell 42 = .ok (.aload_n 0, 1) := by decide +kernel
theorem dX1_tell_43 : decode cX1_tell 43 = .ok (.iload_n 1, 1) := by decide +kernel
theorem dX1_tell_44 : decode cX1_tell 44 = .ok (.invokevirtual 37, 3) := by decide +kernel
theorem dX1_tell_47 : decode cX1_tell 47 = .ok (.iload_n 1, 1) := by decide +kernel
theorem dX1_tell_48 : decode cX1_tell 48 = .ok (.iload_n 2, 1) := by decide +kernel
theorem dX1_tell_49 : decode cX1_tell 49 = .ok (.invokevirtual 44, 3) := by decide +kernel
theorem dX1_tell_52 : decode cX1_tell 52 = .ok (.aload_n 0, 1) := by decide +kernel
theorem dX1_tell_53 : decode cX1_tell 53 = .ok (.invokevirtual 28, 3) := by decide +kernel
theorem dX1_tell_56 : decode cX1_tell 56 = .ok (.return_, 1) := by decide +kernel
theorem dX1_insert_0 : decode cX1_insert 0 = .ok (.aload_n 0, 1) := by decide +kernel
theorem dX1_insert_1 : decode cX1_insert 1 = .ok (.getfield 15, 3) := by decide +kernel
theorem dX1_insert_4 : decode cX1_insert 4 = .ok (.istore 4, 2) := by decide +kernel
theorem dX1_insert_6 : decode cX1_insert 6 = .ok (.iload 4, 2) := by decide +kernel
theorem dX1_insert_8 : decode cX1_insert 8 = .ok (.iload_n 1, 1) := by decide +kernel
theorem dX1_insert_9 : decode cX1_insert 9 = .ok (.if_icmp .le 41, 3) := by decide +kernel
theorem dX1_insert_12 : decode cX1_insert 12 = .ok (.aload_n 0, 1) := by decide +kernel
theorem dX1_insert_13 : decode cX1_insert 13 = .ok (.getfield 18, 3) := by decide +kernel
theorem dX1_insert_16 : decode cX1_insert 16 = .ok (.iload 4, 2) := by decide +kernel
theorem dX1_insert_18 : decode cX1_insert 18 = .ok (.aload_n 0, 1) := by decide +kernel
theorem dX1_insert_19 : decode cX1_insert 19 = .ok (.getfield 18, 3) := by decide +kernel
theorem dX1_insert_22 : decode cX1_insert 22 = .ok (.iload 4, 2) := by decide +kernel
theorem dX1_insert_24 : decode cX1_insert 24 = .ok (.iconst 1, 1) := by decide +kernel
theorem dX1_insert_25 : decode cX1_insert 25 = .ok (.isub, 1) := by decide +kernel
theorem dX1_insert_26 : decode cX1_insert 26 = .ok (.iaload, 1) := by decide +kernel
theorem dX1_insert_27 : decode cX1_insert 27 = .ok (.iastore, 1) := by decide +kernel
theorem dX1_insert_28 : decode cX1_insert 28 = .ok (.aload_n 0, 1) := by decide +kernel
theorem dX1_insert_29 : decode cX1_insert 29 = .ok (.getfield 22, 3) := by decide +kernel
theorem dX1_insert_32 : decode cX1_insert 32 = .ok (.iload 4, 2) := by decide +kernel
theorem dX1_insert_34 : decode cX1_insert 34 = .ok (.aload_n 0, 1) := by decide +kernel
theorem dX1_insert_35 : decode cX1_insert 35 = .ok (.getfield 22, 3) := by decide +kernel
theorem dX1_insert_38 : decode cX1_insert 38 = .ok (.iload 4, 2) := by decide +kernel
theorem dX1_insert_40 : decode cX1_insert 40 = .ok (.iconst 1, 1) := by decide +kernel
theorem dX1_insert_41 : decode cX1_insert 41 = .ok (.isub, 1) := by decide +kernel
theorem dX1_insert_42 : decode cX1_insert 42 = .ok (.iaload, 1) := by decide +kernel
theorem dX1_insert_43 : decode cX1_insert 43 = .ok (.iastore, 1) := by decide +kernel
theorem dX1_insert_44 : decode cX1_insert 44 = .ok (.iinc 4 (-1), 3) := by decide +kernel
theorem dX1_insert_47 : decode cX1_insert 47 = .ok (.goto (-41), 3) := by decide +kernel
theorem dX1_insert_50 : decode cX1_insert 50 = .ok (.aload_n 0, 1) := by decide +kernel
theorem dX1_insert_51 : decode cX1_insert 51 = .ok (.getfield 18, 3) := by decide +kernel
theorem dX1_insert_54 : decode cX1_insert 54 = .ok (.iload_n 1, 1) := by decide +kernel
theorem dX1_insert_55 : decode cX1_insert 55 = .ok (.iload_n 2, 1) := by decide +kernel
theorem dX1_insert_56 : decode cX1_insert 56 = .ok (.iastore, 1) := by decide +kernel
theorem dX1_insert_57 : decode cX1_insert 57 = .ok (.aload_n 0, 1) := by decide +kernel
theorem dX1_insert_58 : decode cX1_insert 58 = .ok (.getfield 22, 3) := by decide +kernel
theorem dX1_insert_61 : decode cX1_insert 61 = .ok (.iload_n 1, 1) := by decide +kernel
theorem dX1_insert_62 : decode cX1_insert 62 = .ok (.iload_n 3, 1) := by decide +kernel
theorem dX1_insert_63 : decode cX1_insert 63 = .ok (.iastore, 1) := by decide +kernel
theorem dX1_insert_64 : decode cX1_insert 64 = .ok (.aload_n 0, 1) := by decide +kernel
theorem dX1_insert_65 : decode cX1_insert 65 = .ok (.dup, 1) := by decide +kernel
theorem dX1_insert_66 : decode cX1_insert 66 = .ok (.getfield 15, 3) := by decide +kernel
theorem dX1_insert_69 : decode cX1_insert 69 = .ok (.iconst 1, 1) := by decide +kernel
theorem dX1_insert_70 : decode cX1_insert 70 = .ok (.iadd, 1) := by decide +kernel
theorem dX1_insert_71 : decode cX1_insert 71 = .ok (.putfield 15, 3) := by decide +kernel
theorem dX1_insert_74 : decode cX1_insert 74 = .ok (.return_, 1) := by decide +kernel
theorem dX1_forget_0 : decode cX1_forget 0 = .ok (.aload_n 0, 1) := by decide +kernel
theorem dX1_forget_1 : decode cX1_forget 1 = .ok (.dup, 1) := by decide +kernel
theorem dX1_forget_2 : decode cX1_forget 2 = .ok (.getfield 15, 3) := by decide +kernel
theorem dX1_forget_5 : decode cX1_forget 5 = .ok (.iconst 1, 1) := by decide +kernel
theorem dX1_forget_6 : decode cX1_forget 6 = .ok (.isub, 1) := by decide +kernel
theorem dX1_forget_7 : decode cX1_forget 7 = .ok (.putfield 15, 3) := by decide +kernel
theorem dX1_forget_10 : decode cX1_forget 10 = .ok (.iload_n 1, 1) := by decide +kernel
theorem dX1_forget_11 : decode cX1_forget 11 = .ok (.istore_n 2, 1) := by decide +kernel
theorem dX1_forget_12 : decode cX1_forget 12 = .ok (.iload_n 2, 1) := by decide +kernel
theorem dX1_forget_13 : decode cX1_forget 13 = .ok (.aload_n 0, 1) := by decide +kernel
theorem dX1_forget_14 : decode cX1_forget 14 = .ok (.getfield 15, 3) := by decide +kernel
theorem dX1_forget_17 : decode cX1_forget 17 = .ok (.if_icmp .ge 37, 3) := by decide +kernel
theorem dX1_forget_20 : decode cX1_forget 20 = .ok (.aload_n 0, 1) := by decide +kernel
theorem dX1_forget_21 : decode cX1_forget 21 = .ok (.getfield 18, 3) := by decide +kernel
theorem dX1_forget_24 : decode cX1_forget 24 = .ok (.iload_n 2, 1) := by decide +kernel
theorem dX1_forget_25 : decode cX1_forget 25 = .ok (.aload_n 0, 1) := by decide +kernel
theorem dX1_forget_26 : decode cX1_forget 26 = .ok (.getfield 18, 3) := by decide +kernel
theorem dX1_forget_29 : decode cX1_forget 29 = .ok (.iload_n 2, 1) := by decide +kernel
theorem dX1_forget_30 : decode cX1_forget 30 = .ok (.iconst 1, 1) := by decide +kernel
theorem dX1_forget_31 : decode cX1_forget 31 = .ok (.iadd, 1) := by decide +kernel
theorem dX1_forget_32 : decode cX1_forget 32 = .ok (.iaload, 1) := by decide +kernel
theorem dX1_forget_33 : decode cX1_forget 33 = .ok (.iastore, 1) := by decide +kernel
theorem dX1_forget_34 : decode cX1_forget 34 = .ok (.aload_n 0, 1) := by decide +kernel
theorem dX1_forget_35 : decode cX1_forget 35 = .ok (.getfield 22, 3) := by decide +kernel
theorem dX1_forget_38 : decode cX1_forget 38 = .ok (.iload_n 2, 1) := by decide +kernel
theorem dX1_forget_39 : decode cX1_forget 39 = .ok (.aload_n 0, 1) := by decide +kernel
theorem dX1_forget_40 : decode cX1_forget 40 = .ok (.getfield 22, 3) := by decide +kernel
theorem dX1_forget_43 : decode cX1_forget 43 = .ok (.iload_n 2, 1) := by decide +kernel
theorem dX1_forget_44 : decode cX1_forget 44 = .ok (.iconst 1, 1) := by decide +kernel
theorem dX1_forget_45 : decode cX1_forget 45 = .ok (.iadd, 1) := by decide +kernel
theorem dX1_forget_46 : decode cX1_forget 46 = .ok (.iaload, 1) := by decide +kernel
theorem dX1_forget_47 : decode cX1_forget 47 = .ok (.iastore, 1) := by decide +kernel
theorem dX1_forget_48 : decode cX1_forget 48 = .ok (.iinc 2 1, 3) := by decide +kernel
theorem dX1_forget_51 : decode cX1_forget 51 = .ok (.goto (-39), 3) := by decide +kernel
theorem dX1_forget_54 : decode cX1_forget 54 = .ok (.aload_n 0, 1) := by decide +kernel
theorem dX1_forget_55 : decode cX1_forget 55 = .ok (.invokevirtual 28, 3) := by decide +kernel
theorem dX1_forget_58 : decode cX1_forget 58 = .ok (.return_, 1) := by decide +kernel
theorem dX1_addUp_0 : decode cX1_addUp 0 = .ok (.iconst 0, 1) := by decide +kernel
theorem dX1_addUp_1 : decode cX1_addUp 1 = .ok (.istore_n 1, 1) := by decide +kernel
theorem dX1_addUp_2 : decode cX1_addUp 2 = .ok (.aload_n 0, 1) := by decide +kernel
theorem dX1_addUp_3 : decode cX1_addUp 3 = .ok (.getfield 9, 3) := by decide +kernel
theorem dX1_addUp_6 : decode cX1_addUp 6 = .ok (.istore_n 2, 1) := by decide +kernel
theorem dX1_addUp_7 : decode cX1_addUp 7 = .ok (.iconst 0, 1) := by decide +kernel
theorem dX1_addUp_8 : decode cX1_addUp 8 = .ok (.istore_n 3, 1) := by decide +kernel
theorem dX1_addUp_9 : decode cX1_addUp 9 = .ok (.iconst 0, 1) := by decide +kernel
theorem dX1_addUp_10 : decode cX1_addUp 10 = .ok (.istore 4, 2) := by decide +kernel
theorem dX1_addUp_12 : decode cX1_addUp 12 = .ok (.iload 4, 2) := by decide +kernel
theorem dX1_addUp_14 : decode cX1_addUp 14 = .ok (.sipush 301, 3) := by decide +kernel
theorem dX1_addUp_17 : decode cX1_addUp 17 = .ok (.if_icmp .ge 50, 3) := by decide +kernel
theorem dX1_addUp_20 : decode cX1_addUp 20 = .ok (.iload_n 3, 1) := by decide +kernel
theorem dX1_addUp_21 : decode cX1_addUp 21 = .ok (.aload_n 0, 1) := by decide +kernel
theorem dX1_addUp_22 : decode cX1_addUp 22 = .ok (.getfield 15, 3) := by decide +kernel
theorem dX1_addUp_25 : decode cX1_addUp 25 = .ok (.if_icmp .ge 24, 3) := by decide +kernel
theorem dX1_addUp_28 : decode cX1_addUp 28 = .ok (.aload_n 0, 1) := by decide +kernel
theorem dX1_addUp_29 : decode cX1_addUp 29 = .ok (.getfield 18, 3) := by decide +kernel
theorem dX1_addUp_32 : decode cX1_addUp 32 = .ok (.iload_n 3, 1) := by decide +kernel
theorem dX1_addUp_33 : decode cX1_addUp 33 = .ok (.iaload, 1) := by decide +kernel
theorem dX1_addUp_34 : decode cX1_addUp 34 = .ok (.iload 4, 2) := by decide +kernel
theorem dX1_addUp_36 : decode cX1_addUp 36 = .ok (.if_icmp .ne 13, 3) := by decide +kernel
theorem dX1_addUp_39 : decode cX1_addUp 39 = .ok (.aload_n 0, 1) := by decide +kernel
theorem dX1_addUp_40 : decode cX1_addUp 40 = .ok (.getfield 22, 3) := by decide +kernel
theorem dX1_addUp_43 : decode cX1_addUp 43 = .ok (.iload_n 3, 1) := by decide +kernel
theorem dX1_addUp_44 : decode cX1_addUp 44 = .ok (.iaload, 1) := by decide +kernel
theorem dX1_addUp_45 : decode cX1_addUp 45 = .ok (.istore_n 2, 1) := by decide +kernel
theorem dX1_addUp_46 : decode cX1_addUp 46 = .ok (.iinc 3 1, 3) := by decide +kernel
theorem dX1_addUp_49 : decode cX1_addUp 49 = .ok (.aload_n 0, 1) := by decide +kernel
theorem dX1_addUp_50 : decode cX1_addUp 50 = .ok (.getfield 25, 3) := by decide +kernel
theorem dX1_addUp_53 : decode cX1_addUp 53 = .ok (.iload 4, 2) := by decide +kernel
theorem dX1_addUp_55 : decode cX1_addUp 55 = .ok (.iload_n 1, 1) := by decide +kernel
theorem dX1_addUp_56 : decode cX1_addUp 56 = .ok (.iastore, 1) := by decide +kernel
theorem dX1_addUp_57 : decode cX1_addUp 57 = .ok (.iload_n 1, 1) := by decide +kernel
theorem dX1_addUp_58 : decode cX1_addUp 58 = .ok (.iload_n 2, 1) := by decide +kernel
theorem dX1_addUp_59 : decode cX1_addUp 59 = .ok (.iadd, 1) := by decide +kernel
theorem dX1_addUp_60 : decode cX1_addUp 60 = .ok (.istore_n 1, 1) := by decide +kernel
theorem dX1_addUp_61 : decode cX1_addUp 61 = .ok (.iinc 4 1, 3) := by decide +kernel
theorem dX1_addUp_64 : decode cX1_addUp 64 = .ok (.goto (-52), 3) := by decide +kernel
theorem dX1_addUp_67 : decode cX1_addUp 67 = .ok (.return_, 1) := by decide +kernel
theorem dX1_firstTickGone_0 : decode cX1_firstTickGone 0 = .ok (.iconst 0, 1) := by decide +kernel
theorem dX1_firstTickGone_1 : decode cX1_firstTickGone 1 = .ok (.istore_n 2, 1) := by decide +kernel
theorem dX1_firstTickGone_2 : decode cX1_firstTickGone 2 = .ok (.sipush 256, 3) := by decide +kernel
theorem dX1_firstTickGone_5 : decode cX1_firstTickGone 5 = .ok (.istore_n 3, 1) := by decide +kernel
theorem dX1_firstTickGone_6 : decode cX1_firstTickGone 6 = .ok (.iload_n 3, 1) := by decide +kernel
theorem dX1_firstTickGone_7 : decode cX1_firstTickGone 7 = .ok (.ifCond .le 37, 3) := by decide +kernel
theorem dX1_firstTickGone_10 : decode cX1_firstTickGone 10 = .ok (.iload_n 2, 1) := by decide +kernel
theorem dX1_firstTickGone_11 : decode cX1_firstTickGone 11 = .ok (.iload_n 3, 1) := by decide +kernel
theorem dX1_firstTickGone_12 : decode cX1_firstTickGone 12 = .ok (.iadd, 1) := by decide +kernel
theorem dX1_firstTickGone_13 : decode cX1_firstTickGone 13 = .ok (.sipush 301, 3) := by decide +kernel
theorem dX1_firstTickGone_16 : decode cX1_firstTickGone 16 = .ok (.if_icmp .gt 21, 3) := by decide +kernel
theorem dX1_firstTickGone_19 : decode cX1_firstTickGone 19 = .ok (.aload_n 0, 1) := by decide +kernel
theorem dX1_firstTickGone_20 : decode cX1_firstTickGone 20 = .ok (.getfield 25, 3) := by decide +kernel
theorem dX1_firstTickGone_23 : decode cX1_firstTickGone 23 = .ok (.iload_n 2, 1) := by decide +kernel
theorem dX1_firstTickGone_24 : decode cX1_firstTickGone 24 = .ok (.iload_n 3, 1) := by decide +kernel
theorem dX1_firstTickGone_25 : decode cX1_firstTickGone 25 = .ok (.iadd, 1) := by decide +kernel
theorem dX1_firstTickGone_26 : decode cX1_firstTickGone 26 = .ok (.iconst 1, 1) := by decide +kernel
theorem dX1_firstTickGone_27 : decode cX1_firstTickGone 27 = .ok (.isub, 1) := by decide +kernel
theorem dX1_firstTickGone_28 : decode cX1_firstTickGone 28 = .ok (.iaload, 1) := by decide +kernel
theorem dX1_firstTickGone_29 : decode cX1_firstTickGone 29 = .ok (.iload_n 1, 1) := by decide +kernel
theorem dX1_firstTickGone_30 : decode cX1_firstTickGone 30 = .ok (.if_icmp .ge 7, 3) := by decide +kernel
theorem dX1_firstTickGone_33 : decode cX1_firstTickGone 33 = .ok (.iload_n 2, 1) := by decide +kernel
theorem dX1_firstTickGone_34 : decode cX1_firstTickGone 34 = .ok (.iload_n 3, 1) := by decide +kernel
theorem dX1_firstTickGone_35 : decode cX1_firstTickGone 35 = .ok (.iadd, 1) := by decide +kernel
theorem dX1_firstTickGone_36 : decode cX1_firstTickGone 36 = .ok (.istore_n 2, 1) := by decide +kernel
theorem dX1_firstTickGone_37 : decode cX1_firstTickGone 37 = .ok (.iload_n 3, 1) := by decide +kernel
theorem dX1_firstTickGone_38 : decode cX1_firstTickGone 38 = .ok (.iconst 2, 1) := by decide +kernel
theorem dX1_firstTickGone_39 : decode cX1_firstTickGone 39 = .ok (.idiv, 1) := by decide +kernel
theorem dX1_firstTickGone_40 : decode cX1_firstTickGone 40 = .ok (.istore_n 3, 1) := by decide +kernel
theorem dX1_firstTickGone_41 : decode cX1_firstTickGone 41 = .ok (.goto (-35), 3) := by decide +kernel
theorem dX1_firstTickGone_44 : decode cX1_firstTickGone 44 = .ok (.iload_n 2, 1) := by decide +kernel
theorem dX1_firstTickGone_45 : decode cX1_firstTickGone 45 = .ok (.ireturn, 1) := by decide +kernel
theorem dX2_init_0 : decode cX2_init 0 = .ok (.aload_n 0, 1) := by decide +kernel
theorem dX2_init_1 : decode cX2_init 1 = .ok (.invokespecial 3, 3) := by decide +kernel
theorem dX2_init_4 : decode cX2_init 4 = .ok (.aload_n 0, 1) := by decide +kernel
theorem dX2_init_5 : decode cX2_init 5 = .ok (.iconst 0, 1) := by decide +kernel
theorem dX2_init_6 : decode cX2_init 6 = .ok (.putfield 9, 3) := by decide +kernel
theorem dX2_init_9 : decode cX2_init 9 = .ok (.aload_n 0, 1) := by decide +kernel
theorem dX2_init_10 : decode cX2_init 10 = .ok (.iconst 0, 1) := by decide +kernel
theorem dX2_init_11 : decode cX2_init 11 = .ok (.putfield 15, 3) := by decide +kernel
theorem dX2_init_14 : decode cX2_init 14 = .ok (.aload_n 0, 1) := by decide +kernel
theorem dX2_init_15 : decode cX2_init 15 = .ok (.sipush 400, 3) := by decide +kernel
theorem dX2_init_18 : decode cX2_init 18 = .ok (.newarray .int, 2) := by decide +kernel
theorem dX2_init_20 : decode cX2_init 20 = .ok (.putfield 18, 3) := by decide +kernel
theorem dX2_init_23 : decode cX2_init 23 = .ok (.aload_n 0, 1) := by decide +kernel
theorem dX2_init_24 : decode cX2_init 24 = .ok (.bipush 20, 2) := by decide +kernel
theorem dX2_init_26 : decode cX2_init 26 = .ok (.newarray .int, 2) := by decide +kernel
theorem dX2_init_28 : decode cX2_init 28 = .ok (.putfield 22, 3) := by decide +kernel
theorem dX2_init_31 : decode cX2_init 31 = .ok (.aload_n 0, 1) := by decide +kernel
theorem dX2_init_32 : decode cX2_init 32 = .ok (.bipush 20, 2) := by decide +kernel
theorem dX2_init_34 : decode cX2_init 34 = .ok (.newarray .int, 2) := by decide +kernel
theorem dX2_init_36 : decode cX2_init 36 = .ok (.putfield 25, 3) := by decide +kernel
theorem dX2_init_39 : decode cX2_init 39 = .ok (.aload_n 0, 1) := by decide +kernel
theorem dX2_init_40 : decode cX2_init 40 = .ok (.sipush 1204, 3) := by decide +kernel
theorem dX2_init_43 : decode cX2_init 43 = .ok (.newarray .int, 2) := by decide +kernel
theorem dX2_init_45 : decode cX2_init 45 = .ok (.putfield 28, 3) := by decide +kernel
theorem dX2_init_48 : decode cX2_init 48 = .ok (.aload_n 0, 1) := by decide +kernel
theorem dX2_init_49 : decode cX2_init 49 = .ok (.bipush 20, 2) := by decide +kernel
theorem dX2_init_51 : decode cX2_init 51 = .ok (.newarray .int, 2) := by decide +kernel
theorem dX2_init_53 : decode cX2_init 53 = .ok (.putfield 31, 3) := by decide +kernel
theorem dX2_init_56 : decode cX2_init 56 = .ok (.aload_n 0, 1) := by decide +kernel
theorem dX2_init_57 : decode cX2_init 57 = .ok (.bipush 20, 2) := by decide +kernel
theorem dX2_init_59 : decode cX2_init 59 = .ok (.newarray .int, 2) := by decide +kernel
theorem dX2_init_61 : decode cX2_init 61 = .ok (.putfield 34, 3) := by decide +kernel
theorem dX2_init_64 : decode cX2_init 64 = .ok (.aload_n 0, 1) := by decide +kernel
theorem dX2_init_65 : decode cX2_init 65 = .ok (.iconst 0, 1) := by decide +kernel
theorem dX2_init_66 : decode cX2_init 66 = .ok (.putfield 37, 3) := by decide +kernel
theorem dX2_init_69 : decode cX2_init 69 = .ok (.aload_n 0, 1) := by decide +kernel
theorem dX2_init_70 : decode cX2_init 70 = .ok (.iconst 0, 1) := by decide +kernel
theorem dX2_init_71 : decode cX2_init 71 = .ok (.putfield 40, 3) := by decide +kernel
theorem dX2_init_74 : decode cX2_init 74 = .ok (.aload_n 0, 1) := by decide +kernel
theorem dX2_init_75 : decode cX2_init 75 = .ok (.iconst 0, 1) := by decide +kernel
theorem dX2_init_76 : decode cX2_init 76 = .ok (.putfield 43, 3) := by decide +kernel
theorem dX2_init_79 : decode cX2_init 79 = .ok (.return_, 1) := by decide +kernel
theorem dX2_takeMost_0 : decode cX2_takeMost 0 = .ok (.aload_n 0, 1) := by decide +kernel
theorem dX2_takeMost_1 : decode cX2_takeMost 1 = .ok (.aload_n 1, 1) := by decide +kernel
theorem dX2_takeMost_2 : decode cX2_takeMost 2 = .ok (.getfield 46, 3) := by decide +kernel
theorem dX2_takeMost_5 : decode cX2_takeMost 5 = .ok (.getfield 52, 3) := by decide +kernel
theorem dX2_takeMost_8 : decode cX2_takeMost 8 = .ok (.putfield 9, 3) := by decide +kernel
theorem dX2_takeMost_11 : decode cX2_takeMost 11 = .ok (.aload_n 0, 1) := by decide +kernel
theorem dX2_takeMost_12 : decode cX2_takeMost 12 = .ok (.iconst 0, 1) := by decide +kernel
theorem dX2_takeMost_13 : decode cX2_takeMost 13 = .ok (.putfield 15, 3) := by decide +kernel
theorem dX2_takeMost_16 : decode cX2_takeMost 16 = .ok (.aload_n 0, 1) := by decide +kernel
theorem dX2_takeMost_17 : decode cX2_takeMost 17 = .ok (.getfield 25, 3) := by decide +kernel
theorem dX2_takeMost_20 : decode cX2_takeMost 20 = .ok (.iconst (-1), 1) := by decide +kernel
theorem dX2_takeMost_21 : decode cX2_takeMost 21 = .ok (.invokestatic 55, 3) := by decide +kernel
theorem dX2_takeMost_24 : decode cX2_takeMost 24 = .ok (.aload_n 0, 1) := by decide +kernel
theorem dX2_takeMost_25 : decode cX2_takeMost 25 = .ok (.getfield 28, 3) := by decide +kernel
theorem dX2_takeMost_28 : decode cX2_takeMost 28 = .ok (.iconst (-1), 1) := by decide +kernel
theorem dX2_takeMost_29 : decode cX2_takeMost 29 = .ok (.invokestatic 55, 3) := by decide +kernel
theorem dX2_takeMost_32 : decode cX2_takeMost 32 = .ok (.iconst 0, 1) := by decide +kernel
theorem dX2_takeMost_33 : decode cX2_takeMost 33 = .ok (.istore_n 3, 1) := by decide +kernel
theorem dX2_takeMost_34 : decode cX2_takeMost 34 = .ok (.iload_n 3, 1) := by decide +kernel
theorem dX2_takeMost_35 : decode cX2_takeMost 35 = .ok (.aload_n 0, 1) := by decide +kernel
theorem dX2_takeMost_36 : decode cX2_takeMost 36 = .ok (.getfield 9, 3) := by decide +kernel
theorem dX2_takeMost_39 : decode cX2_takeMost 39 = .ok (.if_icmp .ge 16, 3) := by decide +kernel
theorem dX2_takeMost_42 : decode cX2_takeMost 42 = .ok (.aload_n 0, 1) := by decide +kernel
theorem dX2_takeMost_43 : decode cX2_takeMost 43 = .ok (.aload_n 1, 1) := by decide +kernel
theorem dX2_takeMost_44 : decode cX2_takeMost 44 = .ok (.iload_n 3, 1) := by decide +kernel
theorem dX2_takeMost_45 : decode cX2_takeMost 45 = .ok (.iload_n 2, 1) := by decide +kernel
theorem dX2_takeMost_46 : decode cX2_takeMost 46 = .ok (.invokevirtual 61, 3) := by decide +kernel
theorem dX2_takeMost_49 : decode cX2_takeMost 49 = .ok (.iinc 3 1, 3) := by decide +kernel
theorem dX2_takeMost_52 : decode cX2_takeMost 52 = .ok (.goto (-18), 3) := by decide +kernel
theorem dX2_takeMost_55 : decode cX2_takeMost 55 = .ok (.iconst 0, 1) := by decide +kernel
theorem dX2_takeMost_56 : decode cX2_takeMost 56 = .ok (.istore_n 3, 1) := by decide +kernel
theorem dX2_takeMost_57 : decode cX2_takeMost 57 = .ok (.iload_n 3, 1) := by decide +kernel
theorem dX2_takeMost_58 : decode cX2_takeMost 58 = .ok (.aload_n 0, 1) := by decide +kernel
theorem dX2_takeMost_59 : decode cX2_takeMost 59 = .ok (.getfield 9, 3) := by decide +kernel
theorem dX2_takeMost_62 : decode cX2_takeMost 62 = .ok (.if_icmp .gt 27, 3) := by decide +kernel
theorem dX2_takeMost_65 : decode cX2_takeMost 65 = .ok (.aload_n 0, 1) := by decide +kernel
theorem dX2_takeMost_66 : decode cX2_takeMost 66 = .ok (.iconst 0, 1) := by decide +kernel
theorem dX2_takeMost_67 : decode cX2_takeMost 67 = .ok (.invokevirtual 65, 3) := by decide +kernel
theorem dX2_takeMost_70 : decode cX2_takeMost 70 = .ok (.ifCond .eq 19, 3) := by decide +kernel
theorem dX2_takeMost_73 : decode cX2_takeMost 73 = .ok (.aload_n 0, 1) := by decide +kernel
theorem dX2_takeMost_74 : decode cX2_takeMost 74 = .ok (.dup, 1) := by decide +kernel
theorem dX2_takeMost_75 : decode cX2_takeMost 75 = .ok (.getfield 15, 3) := by decide +kernel
theorem dX2_takeMost_78 : decode cX2_takeMost 78 = .ok (.iconst 1, 1) := by decide +kernel
theorem dX2_takeMost_79 : decode cX2_takeMost 79 = .ok (.iadd, 1) := by decide +kernel
theorem dX2_takeMost_80 : decode cX2_takeMost 80 = .ok (.putfield 15, 3) := by decide +kernel
theorem dX2_takeMost_83 : decode cX2_takeMost 83 = .ok (.iinc 3 1, 3) := by decide +kernel
theorem dX2_takeMost_86 : decode cX2_takeMost 86 = .ok (.goto (-29), 3) := by decide +kernel
theorem dX2_takeMost_89 : decode cX2_takeMost 89 = .ok (.aload_n 0, 1) := by decide +kernel
theorem dX2_takeMost_90 : decode cX2_takeMost 90 = .ok (.aload_n 0, 1) := by decide +kernel
theorem dX2_takeMost_91 : decode cX2_takeMost 91 = .ok (.getfield 40, 3) := by decide +kernel
theorem dX2_takeMost_94 : decode cX2_takeMost 94 = .ok (.putfield 43, 3) := by decide +kernel
theorem dX2_takeMost_97 : decode cX2_takeMost 97 = .ok (.return_, 1) := by decide +kernel
theorem dX2_listSlots_0 : decode cX2_listSlots 0 = .ok (.aload_n 0, 1) := by decide +kernel
theorem dX2_listSlots_1 : decode cX2_listSlots 1 = .ok (.getfield 22, 3) := by decide +kernel
theorem dX2_listSlots_4 : decode cX2_listSlots 4 = .ok (.iload_n 2, 1) := by decide +kernel
theorem dX2_listSlots_5 : decode cX2_listSlots 5 = .ok (.iconst 0, 1) := by decide +kernel
theorem dX2_listSlots_6 : decode cX2_listSlots 6 = .ok (.iastore, 1) := by decide +kernel
theorem dX2_listSlots_7 : decode cX2_listSlots 7 = .ok (.aload_n 1, 1) := by decide +kernel
theorem dX2_listSlots_8 : decode cX2_listSlots 8 = .ok (.getfield 69, 3) := by decide +kernel
theorem dX2_listSlots_11 : decode cX2_listSlots 11 = .ok (.iconst (-1), 1) := by decide +kernel
theorem dX2_listSlots_12 : decode cX2_listSlots 12 = .ok (.invokevirtual 73, 3) := by decide +kernel
theorem dX2_listSlots_15 : decode cX2_listSlots 15 = .ok (.istore 4, 2) := by decide +kernel
theorem dX2_listSlots_17 : decode cX2_listSlots 17 = .ok (.iconst 0, 1) := by decide +kernel
theorem dX2_listSlots_18 : decode cX2_listSlots 18 = .ok (.istore 5, 2) := by decide +kernel
theorem dX2_listSlots_20 : decode cX2_listSlots 20 = .ok (.iload 5, 2) := by decide +kernel
theorem dX2_listSlots_22 : decode cX2_listSlots 22 = .ok (.iconst 4, 1) := by decide +kernel
theorem dX2_listSlots_23 : decode cX2_listSlots 23 = .ok (.if_icmp .ge 47, 3) := by decide +kernel
theorem dX2_listSlots_26 : decode cX2_listSlots 26 = .ok (.iload 4, 2) := by decide +kernel
theorem dX2_listSlots_28 : decode cX2_listSlots 28 = .ok (.ifCond .lt 42, 3) := by decide +kernel
theorem dX2_listSlots_31 : decode cX2_listSlots 31 = .ok (.iload 4, 2) := by decide +kernel
theorem dX2_listSlots_33 : decode cX2_listSlots 33 = .ok (.iload_n 3, 1) := by decide +kernel
theorem dX2_listSlots_34 : decode cX2_listSlots 34 = .ok (.if_icmp .eq 11, 3) := by decide +kernel
theorem dX2_listSlots_37 : decode cX2_listSlots 37 = .ok (.aload_n 0, 1) := by decide +kernel
theorem dX2_listSlots_38 : decode cX2_listSlots 38 = .ok (.aload_n 1, 1) := by decide +kernel
theorem dX2_listSlots_39 : decode cX2_listSlots 39 = .ok (.iload_n 2, 1) := by decide +kernel
theorem dX2_listSlots_40 : decode cX2_listSlots 40 = .ok (.iload 4, 2) := by decide +kernel
theorem dX2_listSlots_42 : decode cX2_listSlots 42 = .ok (.invokevirtual 79, 3) := by decide +kernel
theorem dX2_listSlots_45 : decode cX2_listSlots 45 = .ok (.aload_n 1, 1) := by decide +kernel
theorem dX2_listSlots_46 : decode cX2_listSlots 46 = .ok (.getfield 69, 3) := by decide +kernel
theorem dX2_listSlots_49 : decode cX2_listSlots 49 = .ok (.aload_n 1, 1) := by decide +kernel
theorem dX2_listSlots_50 : decode cX2_listSlots 50 = .ok (.getfield 69, 3) := by decide +kernel
theorem dX2_listSlots_53 : decode cX2_listSlots 53 = .ok (.getfield 82, 3) := by decide +kernel
theorem dX2_listSlots_56 : decode cX2_listSlots 56 = .ok (.iload 4, 2) := by decide +kernel
theorem dX2_listSlots_58 : decode cX2_listSlots 58 = .ok (.iaload, 1) := by decide +kernel
theorem dX2_listSlots_59 : decode cX2_listSlots 59 = .ok (.invokevirtual 73, 3) := by decide +kernel
theorem dX2_listSlots_62 : decode cX2_listSlots 62 = .ok (.istore 4, 2) := by decide +kernel
theorem dX2_listSlots_64 : decode cX2_listSlots 64 = .ok (.iinc 5 1, 3) := by decide +kernel
theorem dX2_listSlots_67 : decode cX2_listSlots 67 = .ok (.goto (-47), 3) := by decide +kernel
theorem dX2_listSlots_70 : decode cX2_listSlots 70 = .ok (.return_, 1) := by decide +kernel
theorem dX2_listSlotsOf_0 : decode cX2_listSlotsOf 0 = .ok (.aload_n 1, 1) := by decide +kernel
theorem dX2_listSlotsOf_1 : decode cX2_listSlotsOf 1 = .ok (.iload_n 3, 1) := by decide +kernel
theorem dX2_listSlotsOf_2 : decode cX2_listSlotsOf 2 = .ok (.iload_n 2, 1) := by decide +kernel
theorem dX2_listSlotsOf_3 : decode cX2_listSlotsOf 3 = .ok (.invokevirtual 85, 3) := by decide +kernel
theorem dX2_listSlotsOf_6 : decode cX2_listSlotsOf 6 = .ok (.istore 4, 2) := by decide +kernel
theorem dX2_listSlotsOf_8 : decode cX2_listSlotsOf 8 = .ok (.aload_n 1, 1) := by decide +kernel
theorem dX2_listSlotsOf_9 : decode cX2_listSlotsOf 9 = .ok (.iload_n 3, 1) := by decide +kernel
theorem dX2_listSlotsOf_10 : decode cX2_listSlotsOf 10 = .ok (.iload_n 2, 1) := by decide +kernel
theorem dX2_listSlotsOf_11 : decode cX2_listSlotsOf 11 = .ok (.invokevirtual 89, 3) := by decide +kernel
theorem dX2_listSlotsOf_14 : decode cX2_listSlotsOf 14 = .ok (.istore 5, 2) := by decide +kernel
theorem dX2_listSlotsOf_16 : decode cX2_listSlotsOf 16 = .ok (.aload_n 0, 1) := by decide +kernel
theorem dX2_listSlotsOf_17 : decode cX2_listSlotsOf 17 = .ok (.getfield 22, 3) := by decide +kernel
theorem dX2_listSlotsOf_20 : decode cX2_listSlotsOf 20 = .ok (.iload_n 2, 1) := by decide +kernel
theorem dX2_listSlotsOf_21 : decode cX2_listSlotsOf 21 = .ok (.iaload, 1) := by decide +kernel
theorem dX2_listSlotsOf_22 : decode cX2_listSlotsOf 22 = .ok (.istore 6, 2) := by decide +kernel
theorem dX2_listSlotsOf_24 : decode cX2_listSlotsOf 24 = .ok (.iload 5, 2) := by decide +kernel
theorem dX2_listSlotsOf_26 : decode cX2_listSlotsOf 26 = .ok (.iload 4, 2) := by decide +kernel
theorem dX2_listSlotsOf_28 : decode cX2_listSlotsOf 28 = .ok (.if_icmp .gt 48, 3) := by decide +kernel
theorem dX2_listSlotsOf_31 : decode cX2_listSlotsOf 31 = .ok (.iload 6, 2) := by decide +kernel
theorem dX2_listSlotsOf_33 : decode cX2_listSlotsOf 33 = .ok (.bipush 20, 2) := by decide +kernel
theorem dX2_listSlotsOf_35 : decode cX2_listSlotsOf 35 = .ok (.if_icmp .ge 41, 3) := by decide +kernel
theorem dX2_listSlotsOf_38 : decode cX2_listSlotsOf 38 = .ok (.aload_n 0, 1) := by decide +kernel
theorem dX2_listSlotsOf_39 : decode cX2_listSlotsOf 39 = .ok (.getfield 18, 3) := by decide +kernel
theorem dX2_listSlotsOf_42 : decode cX2_listSlotsOf 42 = .ok (.iload_n 2, 1) := by decide +kernel
theorem dX2_listSlotsOf_43 : decode cX2_listSlotsOf 43 = .ok (.bipush 20, 2) := by decide +kernel
theorem dX2_listSlotsOf_45 : decode cX2_listSlotsOf 45 = .ok (.imul, 1) := by decide +kernel
theorem dX2_listSlotsOf_46 : decode cX2_listSlotsOf 46 = .ok (.iload 6, 2) := by decide +kernel
theorem dX2_listSlotsOf_48 : decode cX2_listSlotsOf 48 = .ok (.iadd, 1) := by decide +kernel
theorem dX2_listSlotsOf_49 : decode cX2_listSlotsOf 49 = .ok (.iload 5, 2) := by decide +kernel
theorem dX2_listSlotsOf_51 : decode cX2_listSlotsOf 51 = .ok (.iconst 4, 1) := by decide +kernel
theorem dX2_listSlotsOf_52 : decode cX2_listSlotsOf 52 = .ok (.imul, 1) := by decide +kernel
theorem dX2_listSlotsOf_53 : decode cX2_listSlotsOf 53 = .ok (.iload_n 3, 1) := by decide +kernel
theorem dX2_listSlotsOf_54 : decode cX2_listSlotsOf 54 = .ok (.iadd, 1) := by decide +kernel
theorem dX2_listSlotsOf_55 : decode cX2_listSlotsOf 55 = .ok (.iastore, 1) := by decide +kernel
theorem dX2_listSlotsOf_56 : decode cX2_listSlotsOf 56 = .ok (.iinc 6 1, 3) := by decide +kernel
theorem dX2_listSlotsOf_59 : decode cX2_listSlotsOf 59 = .ok (.aload_n 1, 1) := by decide +kernel
theorem dX2_listSlotsOf_60 : decode cX2_listSlotsOf 60 = .ok (.getfield 69, 3) := by decide +kernel
theorem dX2_listSlotsOf_63 : decode cX2_listSlotsOf 63 = .ok (.iload_n 3, 1) := by decide +kernel
theorem dX2_listSlotsOf_64 : decode cX2_listSlotsOf 64 = .ok (.iload 5, 2) := by decide +kernel
theorem dX2_listSlotsOf_66 : decode cX2_listSlotsOf 66 = .ok (.iconst 1, 1) := by decide +kernel
theorem dX2_listSlotsOf_67 : decode cX2_listSlotsOf 67 = .ok (.iadd, 1) := by decide +kernel
theorem dX2_listSlotsOf_68 : decode cX2_listSlotsOf 68 = .ok (.invokevirtual 92, 3) := by decide +kernel
theorem dX2_listSlotsOf_71 : decode cX2_listSlotsOf 71 = .ok (.istore 5, 2) := by decide +kernel
theorem dX2_listSlotsOf_73 : decode cX2_listSlotsOf 73 = .ok (.goto (-49), 3) := by decide +kernel
theorem dX2_listSlotsOf_76 : decode cX2_listSlotsOf 76 = .ok (.aload_n 0, 1) := by decide +kernel
theorem dX2_listSlotsOf_77 : decode cX2_listSlotsOf 77 = .ok (.getfield 22, 3) := by decide +kernel
theorem dX2_listSlotsOf_80 : decode cX2_listSlotsOf 80 = .ok (.iload_n 2, 1) := by decide +kernel
theorem dX2_listSlotsOf_81 : decode cX2_listSlotsOf 81 = .ok (.iload 6, 2) := by decide +kernel
theorem dX2_listSlotsOf_83 : decode cX2_listSlotsOf 83 = .ok (.iastore, 1) := by decide +kernel
theorem dX2_listSlotsOf_84 : decode cX2_listSlotsOf 84 = .ok (.return_, 1) := by decide +kernel
theorem dX2_settle_0 : decode cX2_settle 0 = .ok (.iconst 0, 1) := by decide +kernel
theorem dX2_settle_1 : decode cX2_settle 1 = .ok (.istore_n 1, 1) := by decide +kernel
theorem dX2_settle_2 : decode cX2_settle 2 = .ok (.iload_n 1, 1) := by decide +kernel
theorem dX2_settle_3 : decode cX2_settle 3 = .ok (.aload_n 0, 1) := by decide +kernel
theorem dX2_settle_4 : decode cX2_settle 4 = .ok (.getfield 9, 3) := by decide +kernel
theorem dX2_settle_7 : decode cX2_settle 7 = .ok (.if_icmp .ge 50, 3) := by decide +kernel
theorem dX2_settle_10 : decode cX2_settle 10 = .ok (.iconst 0, 1) := by decide +kernel
theorem dX2_settle_11 : decode cX2_settle 11 = .ok (.istore_n 2, 1) := by decide +kernel
theorem dX2_settle_12 : decode cX2_settle 12 = .ok (.iconst 0, 1) := by decide +kernel
theorem dX2_settle_13 : decode cX2_settle 13 = .ok (.istore_n 3, 1) := by decide +kernel
theorem dX2_settle_14 : decode cX2_settle 14 = .ok (.iload_n 3, 1) := by decide +kernel
theorem dX2_settle_15 : decode cX2_settle 15 = .ok (.aload_n 0, 1) := by decide +kernel
theorem dX2_settle_16 : decode cX2_settle 16 = .ok (.getfield 22, 3) := by decide +kernel
theorem dX2_settle_19 : decode cX2_settle 19 = .ok (.iload_n 1, 1) := by decide +kernel
theorem dX2_settle_20 : decode cX2_settle 20 = .ok (.iaload, 1) := by decide +kernel
theorem dX2_settle_21 : decode cX2_settle 21 = .ok (.if_icmp .ge 30, 3) := by decide +kernel
theorem dX2_settle_24 : decode cX2_settle 24 = .ok (.iload_n 2, 1) := by decide +kernel
theorem dX2_settle_25 : decode cX2_settle 25 = .ok (.ifCond .ne 26, 3) := by decide +kernel
theorem dX2_settle_28 : decode cX2_settle 28 = .ok (.aload_n 0, 1) := by decide +kernel
theorem dX2_settle_29 : decode cX2_settle 29 = .ok (.iload_n 1, 1) := by decide +kernel
theorem dX2_settle_30 : decode cX2_settle 30 = .ok (.aload_n 0, 1) := by decide +kernel
theorem dX2_settle_31 : decode cX2_settle 31 = .ok (.getfield 18, 3) := by decide +kernel
theorem dX2_settle_34 : decode cX2_settle 34 = .ok (.iload_n 1, 1) := by decide +kernel
theorem dX2_settle_35 : decode cX2_settle 35 = .ok (.bipush 20, 2) := by decide +kernel
theorem dX2_settle_37 : decode cX2_settle 37 = .ok (.imul, 1) := by decide +kernel
theorem dX2_settle_38 : decode cX2_settle 38 = .ok (.iload_n 3, 1) := by decide +kernel
theorem dX2_settle_39 : decode cX2_settle 39 = .ok (.iadd, 1) := by decide +kernel
theorem dX2_settle_40 : decode cX2_settle 40 = .ok (.iaload, 1) := by decide +kernel
theorem dX2_settle_41 : decode cX2_settle 41 = .ok (.invokevirtual 95, 3) := by decide +kernel
theorem dX2_settle_44 : decode cX2_settle 44 = .ok (.istore_n 2, 1) := by decide +kernel
theorem dX2_settle_45 : decode cX2_settle 45 = .ok (.iinc 3 1, 3) := by decide +kernel
theorem dX2_settle_48 : decode cX2_settle 48 = .ok (.goto (-34), 3) := by decide +kernel
theorem dX2_settle_51 : decode cX2_settle 51 = .ok (.iinc 1 1, 3) := by decide +kernel
theorem dX2_settle_54 : decode cX2_settle 54 = .ok (.goto (-52), 3) := by decide +kernel
theorem dX2_settle_57 : decode cX2_settle 57 = .ok (.return_, 1) := by decide +kernel
theorem dX2_settleAt_0 : decode cX2_settleAt 0 = .ok (.aload_n 0, 1) := by decide +kernel
theorem dX2_settleAt_1 : decode cX2_settleAt 1 = .ok (.getfield 28, 3) := by decide +kernel
theorem dX2_settleAt_4 : decode cX2_settleAt 4 = .ok (.iload_n 2, 1) := by decide +kernel
theorem dX2_settleAt_5 : decode cX2_settleAt 5 = .ok (.iaload, 1) := by decide +kernel
theorem dX2_settleAt_6 : decode cX2_settleAt 6 = .ok (.istore_n 3, 1) := by decide +kernel
theorem dX2_settleAt_7 : decode cX2_settleAt 7 = .ok (.iload_n 3, 1) := by decide +kernel
theorem dX2_settleAt_8 : decode cX2_settleAt 8 = .ok (.ifCond .lt 19, 3) := by decide +kernel
theorem dX2_settleAt_11 : decode cX2_settleAt 11 = .ok (.iload_n 3, 1) := by decide +kernel
theorem dX2_settleAt_12 : decode cX2_settleAt 12 = .ok (.iload_n 1, 1) := by decide +kernel
theorem dX2_settleAt_13 : decode cX2_settleAt 13 = .ok (.if_icmp .gt 14, 3) := by decide +kernel
theorem dX2_settleAt_16 : decode cX2_settleAt 16 = .ok (.iload_n 3, 1) := by decide +kernel
theorem dX2_settleAt_17 : decode cX2_settleAt 17 = .ok (.iload_n 1, 1) := by decide +kernel
theorem dX2_settleAt_18 : decode cX2_settleAt 18 = .ok (.if_icmp .ne 7, 3) := by decide +kernel
theorem dX2_settleAt_21 : decode cX2_settleAt 21 = .ok (.iconst 1, 1) := by decide +kernel
theorem dX2_settleAt_22 : decode cX2_settleAt 22 = .ok (.goto 4, 3) := by decide +kernel
theorem dX2_settleAt_25 : decode cX2_settleAt 25 = .ok (.iconst 0, 1) := by decide +kernel
theorem dX2_settleAt_26 : decode cX2_settleAt 26 = .ok (.ireturn, 1) := by decide +kernel
theorem dX2_settleAt_27 : decode cX2_settleAt 27 = .ok (.aload_n 0, 1) := by decide +kernel
theorem dX2_settleAt_28 : decode cX2_settleAt 28 = .ok (.getfield 25, 3) := by decide +kernel
theorem dX2_settleAt_31 : decode cX2_settleAt 31 = .ok (.iload_n 1, 1) := by decide +kernel
theorem dX2_settleAt_32 : decode cX2_settleAt 32 = .ok (.iaload, 1) := by decide +kernel
theorem dX2_settleAt_33 : decode cX2_settleAt 33 = .ok (.istore 4, 2) := by decide +kernel
theorem dX2_settleAt_35 : decode cX2_settleAt 35 = .ok (.aload_n 0, 1) := by decide +kernel
theorem dX2_settleAt_36 : decode cX2_settleAt 36 = .ok (.iload_n 1, 1) := by decide +kernel
theorem dX2_settleAt_37 : decode cX2_settleAt 37 = .ok (.invokevirtual 99, 3) := by decide +kernel
theorem dX2_settleAt_40 : decode cX2_settleAt 40 = .ok (.iload_n 3, 1) := by decide +kernel
theorem dX2_settleAt_41 : decode cX2_settleAt 41 = .ok (.ifCond .lt 8, 3) := by decide +kernel
theorem dX2_settleAt_44 : decode cX2_settleAt 44 = .ok (.aload_n 0, 1) := by decide +kernel
theorem dX2_settleAt_45 : decode cX2_settleAt 45 = .ok (.iload_n 3, 1) := by decide +kernel
theorem dX2_settleAt_46 : decode cX2_settleAt 46 = .ok (.invokevirtual 99, 3) := by decide +kernel
theorem dX2_settleAt_49 : decode cX2_settleAt 49 = .ok (.aload_n 0, 1) := by decide +kernel
theorem dX2_settleAt_50 : decode cX2_settleAt 50 = .ok (.iload_n 1, 1) := by decide +kernel
theorem dX2_settleAt_51 : decode cX2_settleAt 51 = .ok (.iload_n 2, 1) := by decide +kernel
theorem dX2_settleAt_52 : decode cX2_settleAt 52 = .ok (.invokevirtual 103, 3) := by decide +kernel
theorem dX2_settleAt_55 : decode cX2_settleAt 55 = .ok (.iload_n 3, 1) := by decide +kernel
theorem dX2_settleAt_56 : decode cX2_settleAt 56 = .ok (.ifCond .lt 18, 3) := by decide +kernel
theorem dX2_settleAt_59 : decode cX2_settleAt 59 = .ok (.iload 4, 2) := by decide +kernel
theorem dX2_settleAt_61 : decode cX2_settleAt 61 = .ok (.ifCond .lt 13, 3) := by decide +kernel
theorem dX2_settleAt_64 : decode cX2_settleAt 64 = .ok (.aload_n 0, 1) := by decide +kernel
theorem dX2_settleAt_65 : decode cX2_settleAt 65 = .ok (.iload_n 1, 1) := by decide +kernel
theorem dX2_settleAt_66 : decode cX2_settleAt 66 = .ok (.iconst 1, 1) := by decide +kernel
theorem dX2_settleAt_67 : decode cX2_settleAt 67 = .ok (.iadd, 1) := by decide +kernel
theorem dX2_settleAt_68 : decode cX2_settleAt 68 = .ok (.invokevirtual 65, 3) := by decide +kernel
theorem dX2_settleAt_71 : decode cX2_settleAt 71 = .ok (.ifCond .eq 5, 3) := by decide +kernel
theorem dX2_settleAt_74 : decode cX2_settleAt 74 = .ok (.iconst 1, 1) := by decide +kernel
theorem dX2_settleAt_75 : decode cX2_settleAt 75 = .ok (.ireturn, 1) := by decide +kernel
theorem dX2_settleAt_76 : decode cX2_settleAt 76 = .ok (.aload_n 0, 1) := by decide +kernel
theorem dX2_settleAt_77 : decode cX2_settleAt 77 = .ok (.iload_n 1, 1) := by decide +kernel
theorem dX2_settleAt_78 : decode cX2_settleAt 78 = .ok (.iload 4, 2) := by decide +kernel
theorem dX2_settleAt_80 : decode cX2_settleAt 80 = .ok (.invokevirtual 103, 3) := by decide +kernel
theorem dX2_settleAt_83 : decode cX2_settleAt 83 = .ok (.aload_n 0, 1) := by decide +kernel
theorem dX2_settleAt_84 : decode cX2_settleAt 84 = .ok (.iload_n 3, 1) := by decide +kernel
theorem dX2_settleAt_85 : decode cX2_settleAt 85 = .ok (.iload_n 2, 1) := by decide +kernel
theorem dX2_settleAt_86 : decode cX2_settleAt 86 = .ok (.invokevirtual 103, 3) := by decide +kernel
theorem dX2_settleAt_89 : decode cX2_settleAt 89 = .ok (.iconst 0, 1) := by decide +kernel
theorem dX2_settleAt_90 : decode cX2_settleAt 90 = .ok (.ireturn, 1) := by decide +kernel
theorem dX2_hold_0 : decode cX2_hold 0 = .ok (.aload_n 0, 1) := by decide +kernel
theorem dX2_hold_1 : decode cX2_hold 1 = .ok (.getfield 25, 3) := by decide +kernel
theorem dX2_hold_4 : decode cX2_hold 4 = .ok (.iload_n 1, 1) := by decide +kernel
theorem dX2_hold_5 : decode cX2_hold 5 = .ok (.iload_n 2, 1) := by decide +kernel
theorem dX2_hold_6 : decode cX2_hold 6 = .ok (.iastore, 1) := by decide +kernel
theorem dX2_hold_7 : decode cX2_hold 7 = .ok (.aload_n 0, 1) := by decide +kernel
theorem dX2_hold_8 : decode cX2_hold 8 = .ok (.getfield 28, 3) := by decide +kernel
theorem dX2_hold_11 : decode cX2_hold 11 = .ok (.iload_n 2, 1) := by decide +kernel
theorem dX2_hold_12 : decode cX2_hold 12 = .ok (.iload_n 1, 1) := by decide +kernel
theorem dX2_hold_13 : decode cX2_hold 13 = .ok (.iastore, 1) := by decide +kernel
theorem dX2_hold_14 : decode cX2_hold 14 = .ok (.return_, 1) := by decide +kernel
theorem dX2_leave_0 : decode cX2_leave 0 = .ok (.aload_n 0, 1) := by decide +kernel
theorem dX2_leave_1 : decode cX2_leave 1 = .ok (.getfield 25, 3) := by decide +kernel
theorem dX2_leave_4 : decode cX2_leave 4 = .ok (.iload_n 1, 1) := by decide +kernel
theorem dX2_leave_5 : decode cX2_leave 5 = .ok (.iaload, 1) := by decide +kernel
theorem dX2_leave_6 : decode cX2_leave 6 = .ok (.istore_n 2, 1) := by decide +kernel
theorem dX2_leave_7 : decode cX2_leave 7 = .ok (.iload_n 2, 1) := by decide +kernel
theorem dX2_leave_8 : decode cX2_leave 8 = .ok (.ifCond .lt 17, 3) := by decide +kernel
theorem dX2_leave_11 : decode cX2_leave 11 = .ok (.aload_n 0, 1) := by decide +kernel
theorem dX2_leave_12 : decode cX2_leave 12 = .ok (.getfield 28, 3) := by decide +kernel
theorem dX2_leave_15 : decode cX2_leave 15 = .ok (.iload_n 2, 1) := by decide +kernel
theorem dX2_leave_16 : decode cX2_leave 16 = .ok (.iconst (-1), 1) := by decide +kernel
theorem dX2_leave_17 : decode cX2_leave 17 = .ok (.iastore, 1) := by decide +kernel
theorem dX2_leave_18 : decode cX2_leave 18 = .ok (.aload_n 0, 1) := by decide +kernel
theorem dX2_leave_19 : decode cX2_leave 19 = .ok (.getfield 25, 3) := by decide +kernel
theorem dX2_leave_22 : decode cX2_leave 22 = .ok (.iload_n 1, 1) := by decide +kernel
theorem dX2_leave_23 : decode cX2_leave 23 = .ok (.iconst (-1), 1) := by decide +kernel
theorem dX2_leave_24 : decode cX2_leave 24 = .ok (.iastore, 1) := by decide +kernel
theorem dX2_leave_25 : decode cX2_leave 25 = .ok (.return_, 1) := by decide +kernel
theorem dX2_takeOneMore_0 : decode cX2_takeOneMore 0 = .ok (.aload_n 0, 1) := by decide +kernel
theorem dX2_takeOneMore_1 : decode cX2_takeOneMore 1 = .ok (.iconst 0, 1) := by decide +kernel
theorem dX2_takeOneMore_2 : decode cX2_takeOneMore 2 = .ok (.putfield 37, 3) := by decide +kernel
theorem dX2_takeOneMore_5 : decode cX2_takeOneMore 5 = .ok (.aload_n 0, 1) := by decide +kernel
theorem dX2_takeOneMore_6 : decode cX2_takeOneMore 6 = .ok (.iconst 0, 1) := by decide +kernel
theorem dX2_takeOneMore_7 : decode cX2_takeOneMore 7 = .ok (.putfield 40, 3) := by decide +kernel
theorem dX2_takeOneMore_10 : decode cX2_takeOneMore 10 = .ok (.iload_n 1, 1) := by decide +kernel
theorem dX2_takeOneMore_11 : decode cX2_takeOneMore 11 = .ok (.istore_n 2, 1) := by decide +kernel
theorem dX2_takeOneMore_12 : decode cX2_takeOneMore 12 = .ok (.iload_n 2, 1) := by decide +kernel
theorem dX2_takeOneMore_13 : decode cX2_takeOneMore 13 = .ok (.aload_n 0, 1) := by decide +kernel
theorem dX2_takeOneMore_14 : decode cX2_takeOneMore 14 = .ok (.getfield 9, 3) := by decide +kernel
theorem dX2_takeOneMore_17 : decode cX2_takeOneMore 17 = .ok (.if_icmp .ge 24, 3) := by decide +kernel
theorem dX2_takeOneMore_20 : decode cX2_takeOneMore 20 = .ok (.aload_n 0, 1) := by decide +kernel
theorem dX2_takeOneMore_21 : decode cX2_takeOneMore 21 = .ok (.getfield 25, 3) := by decide +kernel
theorem dX2_takeOneMore_24 : decode cX2_takeOneMore 24 = .ok (.iload_n 2, 1) := by decide +kernel
theorem dX2_takeOneMore_25 : decode cX2_takeOneMore 25 = .ok (.iaload, 1) := by decide +kernel
theorem dX2_takeOneMore_26 : decode cX2_takeOneMore 26 = .ok (.ifCond .ge 9, 3) := by decide +kernel
theorem dX2_takeOneMore_29 : decode cX2_takeOneMore 29 = .ok (.aload_n 0, 1) := by decide +kernel
theorem dX2_takeOneMore_30 : decode cX2_takeOneMore 30 = .ok (.iload_n 2, 1) := by decide +kernel
theorem dX2_takeOneMore_31 : decode cX2_takeOneMore 31 = .ok (.iconst (-1), 1) := by decide +kernel
theorem dX2_takeOneMore_32 : decode cX2_takeOneMore 32 = .ok (.invokevirtual 107, 3) := by decide +kernel
theorem dX2_takeOneMore_35 : decode cX2_takeOneMore 35 = .ok (.iinc 2 1, 3) := by decide +kernel
theorem dX2_takeOneMore_38 : decode cX2_takeOneMore 38 = .ok (.goto (-26), 3) := by decide +kernel
theorem dX2_takeOneMore_41 : decode cX2_takeOneMore 41 = .ok (.iconst 0, 1) := by decide +kernel
theorem dX2_takeOneMore_42 : decode cX2_takeOneMore 42 = .ok (.istore_n 2, 1) := by decide +kernel
theorem dX2_takeOneMore_43 : decode cX2_takeOneMore 43 = .ok (.iload_n 2, 1) := by decide +kernel
theorem dX2_takeOneMore_44 : decode cX2_takeOneMore 44 = .ok (.bipush 20, 2) := by decide +kernel
theorem dX2_takeOneMore_46 : decode cX2_takeOneMore 46 = .ok (.if_icmp .ge 46, 3) := by decide +kernel
theorem dX2_takeOneMore_49 : decode cX2_takeOneMore 49 = .ok (.iload_n 2, 1) := by decide +kernel
theorem dX2_takeOneMore_50 : decode cX2_takeOneMore 50 = .ok (.aload_n 0, 1) := by decide +kernel
theorem dX2_takeOneMore_51 : decode cX2_takeOneMore 51 = .ok (.getfield 37, 3) := by decide +kernel
theorem dX2_takeOneMore_54 : decode cX2_takeOneMore 54 = .ok (.if_icmp .ge 38, 3) := by decide +kernel
theorem dX2_takeOneMore_57 : decode cX2_takeOneMore 57 = .ok (.aload_n 0, 1) := by decide +kernel
theorem dX2_takeOneMore_58 : decode cX2_takeOneMore 58 = .ok (.getfield 31, 3) := by decide +kernel
theorem dX2_takeOneMore_61 : decode cX2_takeOneMore 61 = .ok (.iload_n 2, 1) := by decide +kernel
theorem dX2_takeOneMore_62 : decode cX2_takeOneMore 62 = .ok (.iaload, 1) := by decide +kernel
theorem dX2_takeOneMore_63 : decode cX2_takeOneMore 63 = .ok (.istore_n 3, 1) := by decide +kernel
theorem dX2_takeOneMore_64 : decode cX2_takeOneMore 64 = .ok (.aload_n 0, 1) := by decide +kernel
theorem dX2_takeOneMore_65 : decode cX2_takeOneMore 65 = .ok (.iload_n 3, 1) := by decide +kernel
theorem dX2_takeOneMore_66 : decode cX2_takeOneMore 66 = .ok (.iload_n 1, 1) := by decide +kernel
theorem dX2_takeOneMore_67 : decode cX2_takeOneMore 67 = .ok (.invokevirtual 110, 3) := by decide +kernel
theorem dX2_takeOneMore_70 : decode cX2_takeOneMore 70 = .ok (.istore 4, 2) := by decide +kernel
theorem dX2_takeOneMore_72 : decode cX2_takeOneMore 72 = .ok (.iload 4, 2) := by decide +kernel
theorem dX2_takeOneMore_74 : decode cX2_takeOneMore 74 = .ok (.ifCond .lt 12, 3) := by decide +kernel
theorem dX2_takeOneMore_77 : decode cX2_takeOneMore 77 = .ok (.aload_n 0, 1) := by decide +kernel
theorem dX2_takeOneMore_78 : decode cX2_takeOneMore 78 = .ok (.iload_n 3, 1) := by decide +kernel
theorem dX2_takeOneMore_79 : decode cX2_takeOneMore 79 = .ok (.iload 4, 2) := by decide +kernel
theorem dX2_takeOneMore_81 : decode cX2_takeOneMore 81 = .ok (.invokevirtual 113, 3) := by decide +kernel
theorem dX2_takeOneMore_84 : decode cX2_takeOneMore 84 = .ok (.iconst 1, 1) := by decide +kernel
theorem dX2_takeOneMore_85 : decode cX2_takeOneMore 85 = .ok (.ireturn, 1) := by decide +kernel
theorem dX2_takeOneMore_86 : decode cX2_takeOneMore 86 = .ok (.iinc 2 1, 3) := by decide +kernel
theorem dX2_takeOneMore_89 : decode cX2_takeOneMore 89 = .ok (.goto (-46), 3) := by decide +kernel
theorem dX2_takeOneMore_92 : decode cX2_takeOneMore 92 = .ok (.iconst 0, 1) := by decide +kernel
theorem dX2_takeOneMore_93 : decode cX2_takeOneMore 93 = .ok (.ireturn, 1) := by decide +kernel
theorem dX2_freeSlot_0 : decode cX2_freeSlot 0 = .ok (.iconst 0, 1) := by decide +kernel
theorem dX2_freeSlot_1 : decode cX2_freeSlot 1 = .ok (.istore_n 3, 1) := by decide +kernel
theorem dX2_freeSlot_2 : decode cX2_freeSlot 2 = .ok (.iload_n 3, 1) := by decide +kernel
theorem dX2_freeSlot_3 : decode cX2_freeSlot 3 = .ok (.aload_n 0, 1) := by decide +kernel
theorem dX2_freeSlot_4 : decode cX2_freeSlot 4 = .ok (.getfield 22, 3) := by decide +kernel
theorem dX2_freeSlot_7 : decode cX2_freeSlot 7 = .ok (.iload_n 1, 1) := by decide +kernel
theorem dX2_freeSlot_8 : decode cX2_freeSlot 8 = .ok (.iaload, 1) := by decide +kernel
theorem dX2_freeSlot_9 : decode cX2_freeSlot 9 = .ok (.if_icmp .ge 52, 3) := by decide +kernel
theorem dX2_freeSlot_12 : decode cX2_freeSlot 12 = .ok (.aload_n 0, 1) := by decide +kernel
theorem dX2_freeSlot_13 : decode cX2_freeSlot 13 = .ok (.getfield 18, 3) := by decide +kernel
theorem dX2_freeSlot_16 : decode cX2_freeSlot 16 = .ok (.iload_n 1, 1) := by decide +kernel
theorem dX2_freeSlot_17 : decode cX2_freeSlot 17 = .ok (.bipush 20, 2) := by decide +kernel
theorem dX2_freeSlot_19 : decode cX2_freeSlot 19 = .ok (.imul, 1) := by decide +kernel
theorem dX2_freeSlot_20 : decode cX2_freeSlot 20 = .ok (.iload_n 3, 1) := by decide +kernel
theorem dX2_freeSlot_21 : decode cX2_freeSlot 21 = .ok (.iadd, 1) := by decide +kernel
theorem dX2_freeSlot_22 : decode cX2_freeSlot 22 = .ok (.iaload, 1) := by decide +kernel
theorem dX2_freeSlot_23 : decode cX2_freeSlot 23 = .ok (.istore 4, 2) := by decide +kernel
theorem dX2_freeSlot_25 : decode cX2_freeSlot 25 = .ok (.aload_n 0, 1) := by decide +kernel
theorem dX2_freeSlot_26 : decode cX2_freeSlot 26 = .ok (.getfield 28, 3) := by decide +kernel
theorem dX2_freeSlot_29 : decode cX2_freeSlot 29 = .ok (.iload 4, 2) := by decide +kernel
theorem dX2_freeSlot_31 : decode cX2_freeSlot 31 = .ok (.iaload, 1) := by decide +kernel
theorem dX2_freeSlot_32 : decode cX2_freeSlot 32 = .ok (.istore 5, 2) := by decide +kernel
theorem dX2_freeSlot_34 : decode cX2_freeSlot 34 = .ok (.iload 5, 2) := by decide +kernel
theorem dX2_freeSlot_36 : decode cX2_freeSlot 36 = .ok (.ifCond .ge 6, 3) := by decide +kernel
theorem dX2_freeSlot_39 : decode cX2_freeSlot 39 = .ok (.iload 4, 2) := by decide +kernel
theorem dX2_freeSlot_41 : decode cX2_freeSlot 41 = .ok (.ireturn, 1) := by decide +kernel
theorem dX2_freeSlot_42 : decode cX2_freeSlot 42 = .ok (.iload 5, 2) := by decide +kernel
theorem dX2_freeSlot_44 : decode cX2_freeSlot 44 = .ok (.iload_n 2, 1) := by decide +kernel
theorem dX2_freeSlot_45 : decode cX2_freeSlot 45 = .ok (.if_icmp .lt 10, 3) := by decide +kernel
theorem dX2_freeSlot_48 : decode cX2_freeSlot 48 = .ok (.aload_n 0, 1) := by decide +kernel
theorem dX2_freeSlot_49 : decode cX2_freeSlot 49 = .ok (.iload 5, 2) := by decide +kernel
theorem dX2_freeSlot_51 : decode cX2_freeSlot 51 = .ok (.iload_n 1, 1) := by decide +kernel
theorem dX2_freeSlot_52 : decode cX2_freeSlot 52 = .ok (.invokevirtual 107, 3) := by decide +kernel
theorem dX2_freeSlot_55 : decode cX2_freeSlot 55 = .ok (.iinc 3 1, 3) := by decide +kernel
theorem dX2_freeSlot_58 : decode cX2_freeSlot 58 = .ok (.goto (-56), 3) := by decide +kernel
theorem dX2_freeSlot_61 : decode cX2_freeSlot 61 = .ok (.iconst (-1), 1) := by decide +kernel
theorem dX2_freeSlot_62 : decode cX2_freeSlot 62 = .ok (.ireturn, 1) := by decide +kernel
theorem dX2_enqueue_0 : decode cX2_enqueue 0 = .ok (.aload_n 0, 1) := by decide +kernel
theorem dX2_enqueue_1 : decode cX2_enqueue 1 = .ok (.getfield 40, 3) := by decide +kernel
theorem dX2_enqueue_4 : decode cX2_enqueue 4 = .ok (.iload_n 1, 1) := by decide +kernel
theorem dX2_enqueue_5 : decode cX2_enqueue 5 = .ok (.ishr, 1) := by decide +kernel
theorem dX2_enqueue_6 : decode cX2_enqueue 6 = .ok (.iconst 1, 1) := by decide +kernel
theorem dX2_enqueue_7 : decode cX2_enqueue 7 = .ok (.iand, 1) := by decide +kernel
theorem dX2_enqueue_8 : decode cX2_enqueue 8 = .ok (.ifCond .ne 51, 3) := by decide +kernel
theorem dX2_enqueue_11 : decode cX2_enqueue 11 = .ok (.aload_n 0, 1) := by decide +kernel
theorem dX2_enqueue_12 : decode cX2_enqueue 12 = .ok (.getfield 37, 3) := by decide +kernel
theorem dX2_enqueue_15 : decode cX2_enqueue 15 = .ok (.bipush 20, 2) := by decide +kernel
theorem dX2_enqueue_17 : decode cX2_enqueue 17 = .ok (.if_icmp .ge 42, 3) := by decide +kernel
theorem dX2_enqueue_20 : decode cX2_enqueue 20 = .ok (.aload_n 0, 1) := by decide +kernel
theorem dX2_enqueue_21 : decode cX2_enqueue 21 = .ok (.dup, 1) := by decide +kernel
theorem dX2_enqueue_22 : decode cX2_enqueue 22 = .ok (.getfield 40, 3) := by decide +kernel
theorem dX2_enqueue_25 : decode cX2_enqueue 25 = .ok (.iconst 1, 1) := by decide +kernel
theorem dX2_enqueue_26 : decode cX2_enqueue 26 = .ok (.iload_n 1, 1) := by decide +kernel
theorem dX2_enqueue_27 : decode cX2_enqueue 27 = .ok (.ishl, 1) := by decide +kernel
theorem dX2_enqueue_28 : decode cX2_enqueue 28 = .ok (.ior, 1) := by decide +kernel
theorem dX2_enqueue_29 : decode cX2_enqueue 29 = .ok (.putfield 40, 3) := by decide +kernel
theorem dX2_enqueue_32 : decode cX2_enqueue 32 = .ok (.aload_n 0, 1) := by decide +kernel
theorem dX2_enqueue_33 : decode cX2_enqueue 33 = .ok (.getfield 34, 3) := by decide +kernel
theorem dX2_enqueue_36 : decode cX2_enqueue 36 = .ok (.iload_n 1, 1) := by decide +kernel
theorem dX2_enqueue_37 : decode cX2_enqueue 37 = .ok (.iload_n 2, 1) := by decide +kernel
theorem dX2_enqueue_38 : decode cX2_enqueue 38 = .ok (.iastore, 1) := by decide +kernel
theorem dX2_enqueue_39 : decode cX2_enqueue 39 = .ok (.aload_n 0, 1) := by decide +kernel
theorem dX2_enqueue_40 : decode cX2_enqueue 40 = .ok (.getfield 31, 3) := by decide +kernel
theorem dX2_enqueue_43 : decode cX2_enqueue 43 = .ok (.aload_n 0, 1) := by decide +kernel
theorem dX2_enqueue_44 : decode cX2_enqueue 44 = .ok (.getfield 37, 3) := by decide +kernel
theorem dX2_enqueue_47 : decode cX2_enqueue 47 = .ok (.iload_n 1, 1) := by decide +kernel
theorem dX2_enqueue_48 : decode cX2_enqueue 48 = .ok (.iastore, 1) := by decide +kernel
theorem dX2_enqueue_49 : decode cX2_enqueue 49 = .ok (.aload_n 0, 1) := by decide +kernel
theorem dX2_enqueue_50 : decode cX2_enqueue 50 = .ok (.dup, 1) := by decide +kernel
theorem dX2_enqueue_51 : decode cX2_enqueue 51 = .ok (.getfield 37, 3) := by decide +kernel
theorem dX2_enqueue_54 : decode cX2_enqueue 54 = .ok (.iconst 1, 1) := by decide +kernel
theorem dX2_enqueue_55 : decode cX2_enqueue 55 = .ok (.iadd, 1) := by decide +kernel
theorem dX2_enqueue_56 : decode cX2_enqueue 56 = .ok (.putfield 37, 3) := by decide +kernel
theorem dX2_enqueue_59 : decode cX2_enqueue 59 = .ok (.return_, 1) := by decide +kernel
theorem dX2_moveUp_0 : decode cX2_moveUp 0 = .ok (.iload_n 1, 1) := by decide +kernel
theorem dX2_moveUp_1 : decode cX2_moveUp 1 = .ok (.istore_n 3, 1) := by decide +kernel
theorem dX2_moveUp_2 : decode cX2_moveUp 2 = .ok (.iload_n 2, 1) := by decide +kernel
theorem dX2_moveUp_3 : decode cX2_moveUp 3 = .ok (.istore 4, 2) := by decide +kernel
theorem dX2_moveUp_5 : decode cX2_moveUp 5 = .ok (.iconst 0, 1) := by decide +kernel
theorem dX2_moveUp_6 : decode cX2_moveUp 6 = .ok (.istore 5, 2) := by decide +kernel
theorem dX2_moveUp_8 : decode cX2_moveUp 8 = .ok (.iload 5, 2) := by decide +kernel
theorem dX2_moveUp_10 : decode cX2_moveUp 10 = .ok (.bipush 20, 2) := by decide +kernel
theorem dX2_moveUp_12 : decode cX2_moveUp 12 = .ok (.if_icmp .ge 39, 3) := by decide +kernel
theorem dX2_moveUp_15 : decode cX2_moveUp 15 = .ok (.iload_n 3, 1) := by decide +kernel
theorem dX2_moveUp_16 : decode cX2_moveUp 16 = .ok (.ifCond .lt 35, 3) := by decide +kernel
theorem dX2_moveUp_19 : decode cX2_moveUp 19 = .ok (.aload_n 0, 1) := by decide +kernel
theorem dX2_moveUp_20 : decode cX2_moveUp 20 = .ok (.getfield 25, 3) := by decide +kernel
theorem dX2_moveUp_23 : decode cX2_moveUp 23 = .ok (.iload_n 3, 1) := by decide +kernel
theorem dX2_moveUp_24 : decode cX2_moveUp 24 = .ok (.iaload, 1) := by decide +kernel
theorem dX2_moveUp_25 : decode cX2_moveUp 25 = .ok (.istore 6, 2) := by decide +kernel
theorem dX2_moveUp_27 : decode cX2_moveUp 27 = .ok (.aload_n 0, 1) := by decide +kernel
theorem dX2_moveUp_28 : decode cX2_moveUp 28 = .ok (.iload_n 3, 1) := by decide +kernel
theorem dX2_moveUp_29 : decode cX2_moveUp 29 = .ok (.iload 4, 2) := by decide +kernel
theorem dX2_moveUp_31 : decode cX2_moveUp 31 = .ok (.invokevirtual 103, 3) := by decide +kernel
theorem dX2_moveUp_34 : decode cX2_moveUp 34 = .ok (.iload 6, 2) := by decide +kernel
theorem dX2_moveUp_36 : decode cX2_moveUp 36 = .ok (.istore 4, 2) := by decide +kernel
theorem dX2_moveUp_38 : decode cX2_moveUp 38 = .ok (.aload_n 0, 1) := by decide +kernel
theorem dX2_moveUp_39 : decode cX2_moveUp 39 = .ok (.getfield 34, 3) := by decide +kernel
theorem dX2_moveUp_42 : decode cX2_moveUp 42 = .ok (.iload_n 3, 1) := by decide +kernel
theorem dX2_moveUp_43 : decode cX2_moveUp 43 = .ok (.iaload, 1) := by decide +kernel
theorem dX2_moveUp_44 : decode cX2_moveUp 44 = .ok (.istore_n 3, 1) := by decide +kernel
theorem dX2_moveUp_45 : decode cX2_moveUp 45 = .ok (.iinc 5 1, 3) := by decide +kernel
theorem dX2_moveUp_48 : decode cX2_moveUp 48 = .ok (.goto (-40), 3) := by decide +kernel
theorem dX2_moveUp_51 : decode cX2_moveUp 51 = .ok (.return_, 1) := by decide +kernel
theorem dX2_tickOf_0 : decode cX2_tickOf 0 = .ok (.aload_n 0, 1) := by decide +kernel
theorem dX2_tickOf_1 : decode cX2_tickOf 1 = .ok (.getfield 25, 3) := by decide +kernel
theorem dX2_tickOf_4 : decode cX2_tickOf 4 = .ok (.iload_n 1, 1) := by decide +kernel
theorem dX2_tickOf_5 : decode cX2_tickOf 5 = .ok (.iaload, 1) := by decide +kernel
theorem dX2_tickOf_6 : decode cX2_tickOf 6 = .ok (.ifCond .ge 8, 3) := by decide +kernel
theorem dX2_tickOf_9 : decode cX2_tickOf 9 = .ok (.bipush (-6), 2) := by decide +kernel
theorem dX2_tickOf_11 : decode cX2_tickOf 11 = .ok (.goto 11, 3) := by decide +kernel
theorem dX2_tickOf_14 : decode cX2_tickOf 14 = .ok (.aload_n 0, 1) := by decide +kernel
theorem dX2_tickOf_15 : decode cX2_tickOf 15 = .ok (.getfield 25, 3) := by decide +kernel
theorem dX2_tickOf_18 : decode cX2_tickOf 18 = .ok (.iload_n 1, 1) := by decide +kernel
theorem dX2_tickOf_19 : decode cX2_tickOf 19 = .ok (.iaload, 1) := by decide +kernel
theorem dX2_tickOf_20 : decode cX2_tickOf 20 = .ok (.iconst 4, 1) := by decide +kernel
theorem dX2_tickOf_21 : decode cX2_tickOf 21 = .ok (.idiv, 1) := by decide +kernel
theorem dX2_tickOf_22 : decode cX2_tickOf 22 = .ok (.ireturn, 1) := by decide +kernel
theorem dX2_armOf_0 : decode cX2_armOf 0 = .ok (.aload_n 0, 1) := by decide +kernel
theorem dX2_armOf_1 : decode cX2_armOf 1 = .ok (.getfield 25, 3) := by decide +kernel
theorem dX2_armOf_4 : decode cX2_armOf 4 = .ok (.iload_n 1, 1) := by decide +kernel
theorem dX2_armOf_5 : decode cX2_armOf 5 = .ok (.iaload, 1) := by decide +kernel
theorem dX2_armOf_6 : decode cX2_armOf 6 = .ok (.ifCond .ge 8, 3) := by decide +kernel
theorem dX2_armOf_9 : decode cX2_armOf 9 = .ok (.bipush (-6), 2) := by decide +kernel
theorem dX2_armOf_11 : decode cX2_armOf 11 = .ok (.goto 11, 3) := by decide +kernel
theorem dX2_armOf_14 : decode cX2_armOf 14 = .ok (.aload_n 0, 1) := by decide +kernel
theorem dX2_armOf_15 : decode cX2_armOf 15 = .ok (.getfield 25, 3) := by decide +kernel
theorem dX2_armOf_18 : decode cX2_armOf 18 = .ok (.iload_n 1, 1) := by decide +kernel
theorem dX2_armOf_19 : decode cX2_armOf 19 = .ok (.iaload, 1) := by decide +kernel
theorem dX2_armOf_20 : decode cX2_armOf 20 = .ok (.iconst 4, 1) := by decide +kernel
theorem dX2_armOf_21 : decode cX2_armOf 21 = .ok (.irem, 1) := by decide +kernel
theorem dX2_armOf_22 : decode cX2_armOf 22 = .ok (.ireturn, 1) := by decide +kernel
theorem dX2_takenAt_0 : decode cX2_takenAt 0 = .ok (.aload_n 0, 1) := by decide +kernel
theorem dX2_takenAt_1 : decode cX2_takenAt 1 = .ok (.getfield 28, 3) := by decide +kernel
theorem dX2_takenAt_4 : decode cX2_takenAt 4 = .ok (.iload_n 2, 1) := by decide +kernel
theorem dX2_takenAt_5 : decode cX2_takenAt 5 = .ok (.iconst 4, 1) := by decide +kernel
theorem dX2_takenAt_6 : decode cX2_takenAt 6 = .ok (.imul, 1) := by decide +kernel
theorem dX2_takenAt_7 : decode cX2_takenAt 7 = .ok (.iload_n 1, 1) := by decide +kernel
theorem dX2_takenAt_8 : decode cX2_takenAt 8 = .ok (.iadd, 1) := by decide +kernel
theorem dX2_takenAt_9 : decode cX2_takenAt 9 = .ok (.iaload, 1) := by decide +kernel
theorem dX2_takenAt_10 : decode cX2_takenAt 10 = .ok (.ireturn, 1) := by decide +kernel
theorem dX2_takenBy_0 : decode cX2_takenBy 0 = .ok (.iconst 0, 1) := by decide +kernel
theorem dX2_takenBy_1 : decode cX2_takenBy 1 = .ok (.istore_n 2, 1) := by decide +kernel
theorem dX2_takenBy_2 : decode cX2_takenBy 2 = .ok (.iconst 0, 1) := by decide +kernel
theorem dX2_takenBy_3 : decode cX2_takenBy 3 = .ok (.istore_n 3, 1) := by decide +kernel
theorem dX2_takenBy_4 : decode cX2_takenBy 4 = .ok (.iload_n 3, 1) := by decide +kernel
theorem dX2_takenBy_5 : decode cX2_takenBy 5 = .ok (.aload_n 0, 1) := by decide +kernel
theorem dX2_takenBy_6 : decode cX2_takenBy 6 = .ok (.getfield 9, 3) := by decide +kernel
theorem dX2_takenBy_9 : decode cX2_takenBy 9 = .ok (.if_icmp .ge 21, 3) := by decide +kernel
theorem dX2_takenBy_12 : decode cX2_takenBy 12 = .ok (.aload_n 0, 1) := by decide +kernel
theorem dX2_takenBy_13 : decode cX2_takenBy 13 = .ok (.iload_n 3, 1) := by decide +kernel
theorem dX2_takenBy_14 : decode cX2_takenBy 14 = .ok (.invokevirtual 116, 3) := by decide +kernel
theorem dX2_takenBy_17 : decode cX2_takenBy 17 = .ok (.iload_n 1, 1) := by decide +kernel
theorem dX2_takenBy_18 : decode cX2_takenBy 18 = .ok (.if_icmp .ne 6, 3) := by decide +kernel
theorem dX2_takenBy_21 : decode cX2_takenBy 21 = .ok (.iinc 2 1, 3) := by decide +kernel
theorem dX2_takenBy_24 : decode cX2_takenBy 24 = .ok (.iinc 3 1, 3) := by decide +kernel
theorem dX2_takenBy_27 : decode cX2_takenBy 27 = .ok (.goto (-23), 3) := by decide +kernel
theorem dX2_takenBy_30 : decode cX2_takenBy 30 = .ok (.iload_n 2, 1) := by decide +kernel
theorem dX2_takenBy_31 : decode cX2_takenBy 31 = .ok (.ireturn, 1) := by decide +kernel
theorem dX2_lastTick_0 : decode cX2_lastTick 0 = .ok (.bipush (-6), 2) := by decide +kernel
theorem dX2_lastTick_2 : decode cX2_lastTick 2 = .ok (.istore_n 1, 1) := by decide +kernel
theorem dX2_lastTick_3 : decode cX2_lastTick 3 = .ok (.iconst 0, 1) := by decide +kernel
theorem dX2_lastTick_4 : decode cX2_lastTick 4 = .ok (.istore_n 2, 1) := by decide +kernel
theorem dX2_lastTick_5 : decode cX2_lastTick 5 = .ok (.iload_n 2, 1) := by decide +kernel
theorem dX2_lastTick_6 : decode cX2_lastTick 6 = .ok (.aload_n 0, 1) := by decide +kernel
theorem dX2_lastTick_7 : decode cX2_lastTick 7 = .ok (.getfield 9, 3) := by decide +kernel
theorem dX2_lastTick_10 : decode cX2_lastTick 10 = .ok (.if_icmp .ge 19, 3) := by decide +kernel
theorem dX2_lastTick_13 : decode cX2_lastTick 13 = .ok (.iload_n 1, 1) := by decide +kernel
theorem dX2_lastTick_14 : decode cX2_lastTick 14 = .ok (.aload_n 0, 1) := by decide +kernel
theorem dX2_lastTick_15 : decode cX2_lastTick 15 = .ok (.iload_n 2, 1) := by decide +kernel
theorem dX2_lastTick_16 : decode cX2_lastTick 16 = .ok (.invokevirtual 119, 3) := by decide +kernel
theorem dX2_lastTick_19 : decode cX2_lastTick 19 = .ok (.invokestatic 122, 3) := by decide +kernel
theorem dX2_lastTick_22 : decode cX2_lastTick 22 = .ok (.istore_n 1, 1) := by decide +kernel
theorem dX2_lastTick_23 : decode cX2_lastTick 23 = .ok (.iinc 2 1, 3) := by decide +kernel
theorem dX2_lastTick_26 : decode cX2_lastTick 26 = .ok (.goto (-21), 3) := by decide +kernel
theorem dX2_lastTick_29 : decode cX2_lastTick 29 = .ok (.iload_n 1, 1) := by decide +kernel
theorem dX2_lastTick_30 : decode cX2_lastTick 30 = .ok (.ireturn, 1) := by decide +kernel
theorem dX2_missedSet_0 : decode cX2_missedSet 0 = .ok (.iconst 0, 1) := by decide +kernel
theorem dX2_missedSet_1 : decode cX2_missedSet 1 = .ok (.istore_n 1, 1) := by decide +kernel
theorem dX2_missedSet_2 : decode cX2_missedSet 2 = .ok (.iconst 0, 1) := by decide +kernel
theorem dX2_missedSet_3 : decode cX2_missedSet 3 = .ok (.istore_n 2, 1) := by decide +kernel
theorem dX2_missedSet_4 : decode cX2_missedSet 4 = .ok (.iload_n 2, 1) := by decide +kernel
theorem dX2_missedSet_5 : decode cX2_missedSet 5 = .ok (.aload_n 0, 1) := by decide +kernel
theorem dX2_missedSet_6 : decode cX2_missedSet 6 = .ok (.getfield 9, 3) := by decide +kernel
theorem dX2_missedSet_9 : decode cX2_missedSet 9 = .ok (.if_icmp .ge 24, 3) := by decide +kernel
theorem dX2_missedSet_12 : decode cX2_missedSet 12 = .ok (.aload_n 0, 1) := by decide +kernel
theorem dX2_missedSet_13 : decode cX2_missedSet 13 = .ok (.getfield 25, 3) := by decide +kernel
theorem dX2_missedSet_16 : decode cX2_missedSet 16 = .ok (.iload_n 2, 1) := by decide +kernel
theorem dX2_missedSet_17 : decode cX2_missedSet 17 = .ok (.iaload, 1) := by decide +kernel
theorem dX2_missedSet_18 : decode cX2_missedSet 18 = .ok (.ifCond .ge 9, 3) := by decide +kernel
theorem dX2_missedSet_21 : decode cX2_missedSet 21 = .ok (.iload_n 1, 1) := by decide +kernel
theorem dX2_missedSet_22 : decode cX2_missedSet 22 = .ok (.iconst 1, 1) := by decide +kernel
theorem dX2_missedSet_23 : decode cX2_missedSet 23 = .ok (.iload_n 2, 1) := by decide +kernel
theorem dX2_missedSet_24 : decode cX2_missedSet 24 = .ok (.ishl, 1) := by decide +kernel
theorem dX2_missedSet_25 : decode cX2_missedSet 25 = .ok (.ior, 1) := by decide +kernel
theorem dX2_missedSet_26 : decode cX2_missedSet 26 = .ok (.istore_n 1, 1) := by decide +kernel
theorem dX2_missedSet_27 : decode cX2_missedSet 27 = .ok (.iinc 2 1, 3) := by decide +kernel
theorem dX2_missedSet_30 : decode cX2_missedSet 30 = .ok (.goto (-26), 3) := by decide +kernel
theorem dX2_missedSet_33 : decode cX2_missedSet 33 = .ok (.iload_n 1, 1) := by decide +kernel
theorem dX2_missedSet_34 : decode cX2_missedSet 34 = .ok (.ireturn, 1) := by decide +kernel
theorem dX2_neededSet_0 : decode cX2_neededSet 0 = .ok (.iconst 1, 1) := by decide +kernel
theorem dX2_neededSet_1 : decode cX2_neededSet 1 = .ok (.aload_n 0, 1) := by decide +kernel
theorem dX2_neededSet_2 : decode cX2_neededSet 2 = .ok (.getfield 9, 3) := by decide +kernel
theorem dX2_neededSet_5 : decode cX2_neededSet 5 = .ok (.ishl, 1) := by decide +kernel
theorem dX2_neededSet_6 : decode cX2_neededSet 6 = .ok (.iconst 1, 1) := by decide +kernel
theorem dX2_neededSet_7 : decode cX2_neededSet 7 = .ok (.isub, 1) := by decide +kernel
theorem dX2_neededSet_8 : decode cX2_neededSet 8 = .ok (.aload_n 0, 1) := by decide +kernel
theorem dX2_neededSet_9 : decode cX2_neededSet 9 = .ok (.getfield 43, 3) := by decide +kernel
theorem dX2_neededSet_12 : decode cX2_neededSet 12 = .ok (.iconst (-1), 1) := by decide +kernel
theorem dX2_neededSet_13 : decode cX2_neededSet 13 = .ok (.ixor, 1) := by decide +kernel
theorem dX2_neededSet_14 : decode cX2_neededSet 14 = .ok (.iand, 1) := by decide +kernel
theorem dX2_neededSet_15 : decode cX2_neededSet 15 = .ok (.ireturn, 1) := by decide +kernel
theorem dX2_nextTaken_0 : decode cX2_nextTaken 0 = .ok (.iconst (-1), 1) := by decide +kernel
theorem dX2_nextTaken_1 : decode cX2_nextTaken 1 = .ok (.istore_n 2, 1) := by decide +kernel
theorem dX2_nextTaken_2 : decode cX2_nextTaken 2 = .ok (.iconst 0, 1) := by decide +kernel
theorem dX2_nextTaken_3 : decode cX2_nextTaken 3 = .ok (.istore_n 3, 1) := by decide +kernel
theorem dX2_nextTaken_4 : decode cX2_nextTaken 4 = .ok (.iload_n 3, 1) := by decide +kernel
theorem dX2_nextTaken_5 : decode cX2_nextTaken 5 = .ok (.aload_n 0, 1) := by decide +kernel
theorem dX2_nextTaken_6 : decode cX2_nextTaken 6 = .ok (.getfield 9, 3) := by decide +kernel
theorem dX2_nextTaken_9 : decode cX2_nextTaken 9 = .ok (.if_icmp .ge 41, 3) := by decide +kernel
theorem dX2_nextTaken_12 : decode cX2_nextTaken 12 = .ok (.aload_n 0, 1) := by decide +kernel
theorem dX2_nextTaken_13 : decode cX2_nextTaken 13 = .ok (.getfield 25, 3) := by decide +kernel
theorem dX2_nextTaken_16 : decode cX2_nextTaken 16 = .ok (.iload_n 3, 1) := by decide +kernel
theorem dX2_nextTaken_17 : decode cX2_nextTaken 17 = .ok (.iaload, 1) := by decide +kernel
theorem dX2_nextTaken_18 : decode cX2_nextTaken 18 = .ok (.iload_n 1, 1) := by decide +kernel
theorem dX2_nextTaken_19 : decode cX2_nextTaken 19 = .ok (.if_icmp .le 25, 3) := by decide +kernel
theorem dX2_nextTaken_22 : decode cX2_nextTaken 22 = .ok (.iload_n 2, 1) := by decide +kernel
theorem dX2_nextTaken_23 : decode cX2_nextTaken 23 = .ok (.iconst (-1), 1) := by decide +kernel
theorem dX2_nextTaken_24 : decode cX2_nextTaken 24 = .ok (.if_icmp .eq 18, 3) := by decide +kernel
theorem dX2_nextTaken_27 : decode cX2_nextTaken 27 = .ok (.aload_n 0, 1) := by decide +kernel
theorem dX2_nextTaken_28 : decode cX2_nextTaken 28 = .ok (.getfield 25, 3) := by decide +kernel
theorem dX2_nextTaken_31 : decode cX2_nextTaken 31 = .ok (.iload_n 3, 1) := by decide +kernel
theorem dX2_nextTaken_32 : decode cX2_nextTaken 32 = .ok (.iaload, 1) := by decide +kernel
theorem dX2_nextTaken_33 : decode cX2_nextTaken 33 = .ok (.aload_n 0, 1) := by decide +kernel
theorem dX2_nextTaken_34 : decode cX2_nextTaken 34 = .ok (.getfield 25, 3) := by decide +kernel
theorem dX2_nextTaken_37 : decode cX2_nextTaken 37 = .ok (.iload_n 2, 1) := by decide +kernel
theorem dX2_nextTaken_38 : decode cX2_nextTaken 38 = .ok (.iaload, 1) := by decide +kernel
theorem dX2_nextTaken_39 : decode cX2_nextTaken 39 = .ok (.if_icmp .ge 5, 3) := by decide +kernel
theorem dX2_nextTaken_42 : decode cX2_nextTaken 42 = .ok (.iload_n 3, 1) := by decide +kernel
theorem dX2_nextTaken_43 : decode cX2_nextTaken 43 = .ok (.istore_n 2, 1) := by decide +kernel
theorem dX2_nextTaken_44 : decode cX2_nextTaken 44 = .ok (.iinc 3 1, 3) := by decide +kernel
theorem dX2_nextTaken_47 : decode cX2_nextTaken 47 = .ok (.goto (-43), 3) := by decide +kernel
theorem dX2_nextTaken_50 : decode cX2_nextTaken 50 = .ok (.iload_n 2, 1) := by decide +kernel
theorem dX2_nextTaken_51 : decode cX2_nextTaken 51 = .ok (.ireturn, 1) := by decide +kernel
theorem dX3_init_0 : decode cX3_init 0 = .ok (.aload_n 0, 1) := by decide +kernel
theorem dX3_init_1 : decode cX3_init 1 = .ok (.invokespecial 3, 3) := by decide +kernel
theorem dX3_init_4 : decode cX3_init 4 = .ok (.aload_n 0, 1) := by decide +kernel
theorem dX3_init_5 : decode cX3_init 5 = .ok (.new 9, 3) := by decide +kernel
theorem dX3_init_8 : decode cX3_init 8 = .ok (.dup, 1) := by decide +kernel
theorem dX3_init_9 : decode cX3_init 9 = .ok (.invokespecial 11, 3) := by decide +kernel
theorem dX3_init_12 : decode cX3_init 12 = .ok (.putfield 12, 3) := by decide +kernel
theorem dX3_init_15 : decode cX3_init 15 = .ok (.aload_n 0, 1) := by decide +kernel
theorem dX3_init_16 : decode cX3_init 16 = .ok (.new 18, 3) := by decide +kernel
theorem dX3_init_19 : decode cX3_init 19 = .ok (.dup, 1) := by decide +kernel
theorem dX3_init_20 : decode cX3_init 20 = .ok (.invokespecial 20, 3) := by decide +kernel
theorem dX3_init_23 : decode cX3_init 23 = .ok (.putfield 21, 3) := by decide +kernel
theorem dX3_init_26 : decode cX3_init 26 = .ok (.aload_n 0, 1) := by decide +kernel
theorem dX3_init_27 : decode cX3_init 27 = .ok (.new 25, 3) := by decide +kernel
theorem dX3_init_30 : decode cX3_init 30 = .ok (.dup, 1) := by decide +kernel
theorem dX3_init_31 : decode cX3_init 31 = .ok (.invokespecial 27, 3) := by decide +kernel
theorem dX3_init_34 : decode cX3_init 34 = .ok (.putfield 28, 3) := by decide +kernel
theorem dX3_init_37 : decode cX3_init 37 = .ok (.aload_n 0, 1) := by decide +kernel
theorem dX3_init_38 : decode cX3_init 38 = .ok (.iconst 3, 1) := by decide +kernel
theorem dX3_init_39 : decode cX3_init 39 = .ok (.putfield 32, 3) := by decide +kernel
theorem dX3_init_42 : decode cX3_init 42 = .ok (.aload_n 0, 1) := by decide +kernel
theorem dX3_init_43 : decode cX3_init 43 = .ok (.iconst 2, 1) := by decide +kernel
theorem dX3_init_44 : decode cX3_init 44 = .ok (.putfield 36, 3) := by decide +kernel
theorem dX3_init_47 : decode cX3_init 47 = .ok (.return_, 1) := by decide +kernel
theorem dX3_copyFrom_0 : decode cX3_copyFrom 0 = .ok (.aload_n 0, 1) := by decide +kernel
theorem dX3_copyFrom_1 : decode cX3_copyFrom 1 = .ok (.getfield 12, 3) := by decide +kernel
theorem dX3_copyFrom_4 : decode cX3_copyFrom 4 = .ok (.aload_n 1, 1) := by decide +kernel
theorem dX3_copyFrom_5 : decode cX3_copyFrom 5 = .ok (.getfield 12, 3) := by decide +kernel
theorem dX3_copyFrom_8 : decode cX3_copyFrom 8 = .ok (.invokevirtual 39, 3) := by decide +kernel
theorem dX3_copyFrom_11 : decode cX3_copyFrom 11 = .ok (.aload_n 0, 1) := by decide +kernel
theorem dX3_copyFrom_12 : decode cX3_copyFrom 12 = .ok (.getfield 21, 3) := by decide +kernel
theorem dX3_copyFrom_15 : decode cX3_copyFrom 15 = .ok (.aload_n 1, 1) := by decide +kernel
theorem dX3_copyFrom_16 : decode cX3_copyFrom 16 = .ok (.getfield 21, 3) := by decide +kernel
theorem dX3_copyFrom_19 : decode cX3_copyFrom 19 = .ok (.invokevirtual 43, 3) := by decide +kernel
theorem dX3_copyFrom_22 : decode cX3_copyFrom 22 = .ok (.aload_n 0, 1) := by decide +kernel
theorem dX3_copyFrom_23 : decode cX3_copyFrom 23 = .ok (.getfield 28, 3) := by decide +kernel
theorem dX3_copyFrom_26 : decode cX3_copyFrom 26 = .ok (.aload_n 1, 1) := by decide +kernel
theorem dX3_copyFrom_27 : decode cX3_copyFrom 27 = .ok (.getfield 28, 3) := by decide +kernel
theorem dX3_copyFrom_30 : decode cX3_copyFrom 30 = .ok (.invokevirtual 46, 3) := by decide +kernel
theorem dX3_copyFrom_33 : decode cX3_copyFrom 33 = .ok (.aload_n 0, 1) := by decide +kernel
theorem dX3_copyFrom_34 : decode cX3_copyFrom 34 = .ok (.aload_n 1, 1) := by decide +kernel
theorem dX3_copyFrom_35 : decode cX3_copyFrom 35 = .ok (.getfield 32, 3) := by decide +kernel
theorem dX3_copyFrom_38 : decode cX3_copyFrom 38 = .ok (.putfield 32, 3) := by decide +kernel
theorem dX3_copyFrom_41 : decode cX3_copyFrom 41 = .ok (.aload_n 0, 1) := by decide +kernel
theorem dX3_copyFrom_42 : decode cX3_copyFrom 42 = .ok (.aload_n 1, 1) := by decide +kernel
theorem dX3_copyFrom_43 : decode cX3_copyFrom 43 = .ok (.getfield 36, 3) := by decide +kernel
theorem dX3_copyFrom_46 : decode cX3_copyFrom 46 = .ok (.putfield 36, 3) := by decide +kernel
theorem dX3_copyFrom_49 : decode cX3_copyFrom 49 = .ok (.return_, 1) := by decide +kernel
theorem dX3_placeAt_0 : decode cX3_placeAt 0 = .ok (.aload_n 0, 1) := by decide +kernel
theorem dX3_placeAt_1 : decode cX3_placeAt 1 = .ok (.getfield 21, 3) := by decide +kernel
theorem dX3_placeAt_4 : decode cX3_placeAt 4 = .ok (.getfield 49, 3) := by decide +kernel
theorem dX3_placeAt_7 : decode cX3_placeAt 7 = .ok (.iload_n 1, 1) := by decide +kernel
theorem dX3_placeAt_8 : decode cX3_placeAt 8 = .ok (.iaload, 1) := by decide +kernel
theorem dX3_placeAt_9 : decode cX3_placeAt 9 = .ok (.aload_n 0, 1) := by decide +kernel
theorem dX3_placeAt_10 : decode cX3_placeAt 10 = .ok (.getfield 12, 3) := by decide +kernel
theorem dX3_placeAt_13 : decode cX3_placeAt 13 = .ok (.getfield 53, 3) := by decide +kernel
theorem dX3_placeAt_16 : decode cX3_placeAt 16 = .ok (.iload_n 2, 1) := by decide +kernel
theorem dX3_placeAt_17 : decode cX3_placeAt 17 = .ok (.iaload, 1) := by decide +kernel
theorem dX3_placeAt_18 : decode cX3_placeAt 18 = .ok (.iadd, 1) := by decide +kernel
theorem dX3_placeAt_19 : decode cX3_placeAt 19 = .ok (.aload_n 0, 1) := by decide +kernel
theorem dX3_placeAt_20 : decode cX3_placeAt 20 = .ok (.getfield 12, 3) := by decide +kernel
theorem dX3_placeAt_23 : decode cX3_placeAt 23 = .ok (.getfield 53, 3) := by decide +kernel
theorem dX3_placeAt_26 : decode cX3_placeAt 26 = .ok (.aload_n 0, 1) := by decide +kernel
theorem dX3_placeAt_27 : decode cX3_placeAt 27 = .ok (.getfield 21, 3) := by decide +kernel
theorem dX3_placeAt_30 : decode cX3_placeAt 30 = .ok (.getfield 56, 3) := by decide +kernel
theorem dX3_placeAt_33 : decode cX3_placeAt 33 = .ok (.iload_n 1, 1) := by decide +kernel
theorem dX3_placeAt_34 : decode cX3_placeAt 34 = .ok (.iaload, 1) := by decide +kernel
theorem dX3_placeAt_35 : decode cX3_placeAt 35 = .ok (.iaload, 1) := by decide +kernel
theorem dX3_placeAt_36 : decode cX3_placeAt 36 = .ok (.isub, 1) := by decide +kernel
theorem dX3_placeAt_37 : decode cX3_placeAt 37 = .ok (.ireturn, 1) := by decide +kernel
theorem dX3_nearest_0 : decode cX3_nearest 0 = .ok (.iconst (-1), 1) := by decide +kernel
theorem dX3_nearest_1 : decode cX3_nearest 1 = .ok (.istore 5, 2) := by decide +kernel
theorem dX3_nearest_3 : decode cX3_nearest 3 = .ok (.aload_n 0, 1) := by decide +kernel
theorem dX3_nearest_4 : decode cX3_nearest 4 = .ok (.getfield 32, 3) := by decide +kernel
theorem dX3_nearest_7 : decode cX3_nearest 7 = .ok (.iconst 1, 1) := by decide +kernel
theorem dX3_nearest_8 : decode cX3_nearest 8 = .ok (.iadd, 1) := by decide +kernel
theorem dX3_nearest_9 : decode cX3_nearest 9 = .ok (.istore 6, 2) := by decide +kernel
theorem dX3_nearest_11 : decode cX3_nearest 11 = .ok (.iconst 0, 1) := by decide +kernel
theorem dX3_nearest_12 : decode cX3_nearest 12 = .ok (.istore 7, 2) := by decide +kernel
theorem dX3_nearest_14 : decode cX3_nearest 14 = .ok (.iload 7, 2) := by decide +kernel
theorem dX3_nearest_16 : decode cX3_nearest 16 = .ok (.aload_n 0, 1) := by decide +kernel
theorem dX3_nearest_17 : decode cX3_nearest 17 = .ok (.getfield 21, 3) := by decide +kernel
theorem dX3_nearest_20 : decode cX3_nearest 20 = .ok (.getfield 59, 3) := by decide +kernel
theorem dX3_nearest_23 : decode cX3_nearest 23 = .ok (.if_icmp .ge 83, 3) := by decide +kernel
theorem dX3_nearest_26 : decode cX3_nearest 26 = .ok (.aload_n 0, 1) := by decide +kernel
theorem dX3_nearest_27 : decode cX3_nearest 27 = .ok (.getfield 21, 3) := by decide +kernel
theorem dX3_nearest_30 : decode cX3_nearest 30 = .ok (.getfield 62, 3) := by decide +kernel
theorem dX3_nearest_33 : decode cX3_nearest 33 = .ok (.iload 7, 2) := by decide +kernel
theorem dX3_nearest_35 : decode cX3_nearest 35 = .ok (.iaload, 1) := by decide +kernel
theorem dX3_nearest_36 : decode cX3_nearest 36 = .ok (.iload_n 2, 1) := by decide +kernel
theorem dX3_nearest_37 : decode cX3_nearest 37 = .ok (.if_icmp .ne 63, 3) := by decide +kernel
theorem dX3_nearest_40 : decode cX3_nearest 40 = .ok (.aload_n 0, 1) := by decide +kernel
theorem dX3_nearest_41 : decode cX3_nearest 41 = .ok (.getfield 21, 3) := by decide +kernel
theorem dX3_nearest_44 : decode cX3_nearest 44 = .ok (.getfield 65, 3) := by decide +kernel
theorem dX3_nearest_47 : decode cX3_nearest 47 = .ok (.iload 7, 2) := by decide +kernel
theorem dX3_nearest_49 : decode cX3_nearest 49 = .ok (.iaload, 1) := by decide +kernel
theorem dX3_nearest_50 : decode cX3_nearest 50 = .ok (.iload 4, 2) := by decide +kernel
theorem dX3_nearest_52 : decode cX3_nearest 52 = .ok (.if_icmp .ne 48, 3) := by decide +kernel
theorem dX3_nearest_55 : decode cX3_nearest 55 = .ok (.aload_n 0, 1) := by decide +kernel
theorem dX3_nearest_56 : decode cX3_nearest 56 = .ok (.getfield 21, 3) := by decide +kernel
theorem dX3_nearest_59 : decode cX3_nearest 59 = .ok (.iload 7, 2) := by decide +kernel
theorem dX3_nearest_61 : decode cX3_nearest 61 = .ok (.iload_n 1, 1) := by decide +kernel
theorem dX3_nearest_62 : decode cX3_nearest 62 = .ok (.invokevirtual 68, 3) := by decide +kernel
theorem dX3_nearest_65 : decode cX3_nearest 65 = .ok (.ifCond .eq 6, 3) := by decide +kernel
theorem dX3_nearest_68 : decode cX3_nearest 68 = .ok (.goto 32, 3) := by decide +kernel
theorem dX3_nearest_71 : decode cX3_nearest 71 = .ok (.aload_n 0, 1) := by decide +kernel
theorem dX3_nearest_72 : decode cX3_nearest 72 = .ok (.iload 7, 2) := by decide +kernel
theorem dX3_nearest_74 : decode cX3_nearest 74 = .ok (.iload_n 1, 1) := by decide +kernel
theorem dX3_nearest_75 : decode cX3_nearest 75 = .ok (.invokevirtual 72, 3) := by decide +kernel
theorem dX3_nearest_78 : decode cX3_nearest 78 = .ok (.iload_n 3, 1) := by decide +kernel
theorem dX3_nearest_79 : decode cX3_nearest 79 = .ok (.isub, 1) := by decide +kernel
theorem dX3_nearest_80 : decode cX3_nearest 80 = .ok (.invokestatic 76, 3) := by decide +kernel
theorem dX3_nearest_83 : decode cX3_nearest 83 = .ok (.istore 8, 2) := by decide +kernel
theorem dX3_nearest_85 : decode cX3_nearest 85 = .ok (.iload 8, 2) := by decide +kernel
theorem dX3_nearest_87 : decode cX3_nearest 87 = .ok (.iload 6, 2) := by decide +kernel
theorem dX3_nearest_89 : decode cX3_nearest 89 = .ok (.if_icmp .ge 11, 3) := by decide +kernel
theorem dX3_nearest_92 : decode cX3_nearest 92 = .ok (.iload 7, 2) := by decide +kernel
theorem dX3_nearest_94 : decode cX3_nearest 94 = .ok (.istore 5, 2) := by decide +kernel
theorem dX3_nearest_96 : decode cX3_nearest 96 = .ok (.iload 8, 2) := by decide +kernel
theorem dX3_nearest_98 : decode cX3_nearest 98 = .ok (.istore 6, 2) := by decide +kernel
theorem dX3_nearest_100 : decode cX3_nearest 100 = .ok (.iinc 7 1, 3) := by decide +kernel
theorem dX3_nearest_103 : decode cX3_nearest 103 = .ok (.goto (-89), 3) := by decide +kernel
theorem dX3_nearest_106 : decode cX3_nearest 106 = .ok (.iload 5, 2) := by decide +kernel
theorem dX3_nearest_108 : decode cX3_nearest 108 = .ok (.ireturn, 1) := by decide +kernel
theorem dX3_canTake_0 : decode cX3_canTake 0 = .ok (.aload_n 0, 1) := by decide +kernel
theorem dX3_canTake_1 : decode cX3_canTake 1 = .ok (.getfield 28, 3) := by decide +kernel
theorem dX3_canTake_4 : decode cX3_canTake 4 = .ok (.iload_n 1, 1) := by decide +kernel
theorem dX3_canTake_5 : decode cX3_canTake 5 = .ok (.iload_n 3, 1) := by decide +kernel
theorem dX3_canTake_6 : decode cX3_canTake 6 = .ok (.invokevirtual 82, 3) := by decide +kernel
theorem dX3_canTake_9 : decode cX3_canTake 9 = .ok (.ifCond .eq 57, 3) := by decide +kernel
theorem dX3_canTake_12 : decode cX3_canTake 12 = .ok (.iload_n 3, 1) := by decide +kernel
theorem dX3_canTake_13 : decode cX3_canTake 13 = .ok (.aload_n 0, 1) := by decide +kernel
theorem dX3_canTake_14 : decode cX3_canTake 14 = .ok (.getfield 21, 3) := by decide +kernel
theorem dX3_canTake_17 : decode cX3_canTake 17 = .ok (.getfield 56, 3) := by decide +kernel
theorem dX3_canTake_20 : decode cX3_canTake 20 = .ok (.iload_n 2, 1) := by decide +kernel
theorem dX3_canTake_21 : decode cX3_canTake 21 = .ok (.iaload, 1) := by decide +kernel
theorem dX3_canTake_22 : decode cX3_canTake 22 = .ok (.if_icmp .le 44, 3) := by decide +kernel
theorem dX3_canTake_25 : decode cX3_canTake 25 = .ok (.aload_n 0, 1) := by decide +kernel
theorem dX3_canTake_26 : decode cX3_canTake 26 = .ok (.getfield 28, 3) := by decide +kernel
theorem dX3_canTake_29 : decode cX3_canTake 29 = .ok (.iload_n 1, 1) := by decide +kernel
theorem dX3_canTake_30 : decode cX3_canTake 30 = .ok (.aload_n 0, 1) := by decide +kernel
theorem dX3_canTake_31 : decode cX3_canTake 31 = .ok (.getfield 21, 3) := by decide +kernel
theorem dX3_canTake_34 : decode cX3_canTake 34 = .ok (.getfield 62, 3) := by decide +kernel
theorem dX3_canTake_37 : decode cX3_canTake 37 = .ok (.iload_n 2, 1) := by decide +kernel
theorem dX3_canTake_38 : decode cX3_canTake 38 = .ok (.iaload, 1) := by decide +kernel
theorem dX3_canTake_39 : decode cX3_canTake 39 = .ok (.invokevirtual 85, 3) := by decide +kernel
theorem dX3_canTake_42 : decode cX3_canTake 42 = .ok (.ifCond .eq 24, 3) := by decide +kernel
theorem dX3_canTake_45 : decode cX3_canTake 45 = .ok (.aload_n 0, 1) := by decide +kernel
theorem dX3_canTake_46 : decode cX3_canTake 46 = .ok (.getfield 28, 3) := by decide +kernel
theorem dX3_canTake_49 : decode cX3_canTake 49 = .ok (.iload_n 1, 1) := by decide +kernel
theorem dX3_canTake_50 : decode cX3_canTake 50 = .ok (.aload_n 0, 1) := by decide +kernel
theorem dX3_canTake_51 : decode cX3_canTake 51 = .ok (.iload_n 2, 1) := by decide +kernel
theorem dX3_canTake_52 : decode cX3_canTake 52 = .ok (.iload_n 3, 1) := by decide +kernel
theorem dX3_canTake_53 : decode cX3_canTake 53 = .ok (.invokevirtual 72, 3) := by decide +kernel
theorem dX3_canTake_56 : decode cX3_canTake 56 = .ok (.invokevirtual 88, 3) := by decide +kernel
theorem dX3_canTake_59 : decode cX3_canTake 59 = .ok (.ifCond .eq 7, 3) := by decide +kernel
theorem dX3_canTake_62 : decode cX3_canTake 62 = .ok (.iconst 1, 1) := by decide +kernel
theorem dX3_canTake_63 : decode cX3_canTake 63 = .ok (.goto 4, 3) := by decide +kernel
theorem dX3_canTake_66 : decode cX3_canTake 66 = .ok (.iconst 0, 1) := by decide +kernel
theorem dX3_canTake_67 : decode cX3_canTake 67 = .ok (.ireturn, 1) := by decide +kernel
theorem dX3_firstChanceOf_0 : decode cX3_firstChanceOf 0 = .ok (.aload_n 0, 1) := by decide +kernel
theorem dX3_firstChanceOf_1 : decode cX3_firstChanceOf 1 = .ok (.getfield 12, 3) := by decide +kernel
theorem dX3_firstChanceOf_4 : decode cX3_firstChanceOf 4 = .ok (.aload_n 0, 1) := by decide +kernel
theorem dX3_firstChanceOf_5 : decode cX3_firstChanceOf 5 = .ok (.getfield 28, 3) := by decide +kernel
theorem dX3_firstChanceOf_8 : decode cX3_firstChanceOf 8 = .ok (.getfield 91, 3) := by decide +kernel
theorem dX3_firstChanceOf_11 : decode cX3_firstChanceOf 11 = .ok (.iload_n 1, 1) := by decide +kernel
theorem dX3_firstChanceOf_12 : decode cX3_firstChanceOf 12 = .ok (.iaload, 1) := by decide +kernel
theorem dX3_firstChanceOf_13 : decode cX3_firstChanceOf 13 = .ok (.aload_n 0, 1) := by decide +kernel
theorem dX3_firstChanceOf_14 : decode cX3_firstChanceOf 14 = .ok (.iload_n 2, 1) := by decide +kernel
theorem dX3_firstChanceOf_15 : decode cX3_firstChanceOf 15 = .ok (.iconst 0, 1) := by decide +kernel
theorem dX3_firstChanceOf_16 : decode cX3_firstChanceOf 16 = .ok (.invokevirtual 72, 3) := by decide +kernel
theorem dX3_firstChanceOf_19 : decode cX3_firstChanceOf 19 = .ok (.isub, 1) := by decide +kernel
theorem dX3_firstChanceOf_20 : decode cX3_firstChanceOf 20 = .ok (.invokevirtual 94, 3) := by decide +kernel
theorem dX3_firstChanceOf_23 : decode cX3_firstChanceOf 23 = .ok (.istore_n 3, 1) := by decide +kernel
theorem dX3_firstChanceOf_24 : decode cX3_firstChanceOf 24 = .ok (.aload_n 0, 1) := by decide +kernel
theorem dX3_firstChanceOf_25 : decode cX3_firstChanceOf 25 = .ok (.getfield 28, 3) := by decide +kernel
theorem dX3_firstChanceOf_28 : decode cX3_firstChanceOf 28 = .ok (.iload_n 1, 1) := by decide +kernel
theorem dX3_firstChanceOf_29 : decode cX3_firstChanceOf 29 = .ok (.iload_n 3, 1) := by decide +kernel
theorem dX3_firstChanceOf_30 : decode cX3_firstChanceOf 30 = .ok (.aload_n 0, 1) := by decide +kernel
theorem dX3_firstChanceOf_31 : decode cX3_firstChanceOf 31 = .ok (.getfield 21, 3) := by decide +kernel
theorem dX3_firstChanceOf_34 : decode cX3_firstChanceOf 34 = .ok (.getfield 56, 3) := by decide +kernel
theorem dX3_firstChanceOf_37 : decode cX3_firstChanceOf 37 = .ok (.iload_n 2, 1) := by decide +kernel
theorem dX3_firstChanceOf_38 : decode cX3_firstChanceOf 38 = .ok (.iaload, 1) := by decide +kernel
theorem dX3_firstChanceOf_39 : decode cX3_firstChanceOf 39 = .ok (.iconst 1, 1) := by decide +kernel
theorem dX3_firstChanceOf_40 : decode cX3_firstChanceOf 40 = .ok (.iadd, 1) := by decide +kernel
theorem dX3_firstChanceOf_41 : decode cX3_firstChanceOf 41 = .ok (.invokestatic 97, 3) := by decide +kernel
theorem dX3_firstChanceOf_44 : decode cX3_firstChanceOf 44 = .ok (.invokevirtual 100, 3) := by decide +kernel
theorem dX3_firstChanceOf_47 : decode cX3_firstChanceOf 47 = .ok (.ireturn, 1) := by decide +kernel
theorem dX3_lastChanceOf_0 : decode cX3_lastChanceOf 0 = .ok (.aload_n 0, 1) := by decide +kernel
theorem dX3_lastChanceOf_1 : decode cX3_lastChanceOf 1 = .ok (.getfield 28, 3) := by decide +kernel
theorem dX3_lastChanceOf_4 : decode cX3_lastChanceOf 4 = .ok (.iload_n 1, 1) := by decide +kernel
theorem dX3_lastChanceOf_5 : decode cX3_lastChanceOf 5 = .ok (.aload_n 0, 1) := by decide +kernel
theorem dX3_lastChanceOf_6 : decode cX3_lastChanceOf 6 = .ok (.getfield 21, 3) := by decide +kernel
theorem dX3_lastChanceOf_9 : decode cX3_lastChanceOf 9 = .ok (.getfield 62, 3) := by decide +kernel
theorem dX3_lastChanceOf_12 : decode cX3_lastChanceOf 12 = .ok (.iload_n 2, 1) := by decide +kernel
theorem dX3_lastChanceOf_13 : decode cX3_lastChanceOf 13 = .ok (.iaload, 1) := by decide +kernel
theorem dX3_lastChanceOf_14 : decode cX3_lastChanceOf 14 = .ok (.invokevirtual 85, 3) := by decide +kernel
theorem dX3_lastChanceOf_17 : decode cX3_lastChanceOf 17 = .ok (.ifCond .ne 5, 3) := by decide +kernel
theorem dX3_lastChanceOf_20 : decode cX3_lastChanceOf 20 = .ok (.iconst (-1), 1) := by decide +kernel
theorem dX3_lastChanceOf_21 : decode cX3_lastChanceOf 21 = .ok (.ireturn, 1) := by decide +kernel
theorem dX3_lastChanceOf_22 : decode cX3_lastChanceOf 22 = .ok (.aload_n 0, 1) := by decide +kernel
theorem dX3_lastChanceOf_23 : decode cX3_lastChanceOf 23 = .ok (.getfield 12, 3) := by decide +kernel
theorem dX3_lastChanceOf_26 : decode cX3_lastChanceOf 26 = .ok (.aload_n 0, 1) := by decide +kernel
theorem dX3_lastChanceOf_27 : decode cX3_lastChanceOf 27 = .ok (.getfield 28, 3) := by decide +kernel
theorem dX3_lastChanceOf_30 : decode cX3_lastChanceOf 30 = .ok (.getfield 103, 3) := by decide +kernel
theorem dX3_lastChanceOf_33 : decode cX3_lastChanceOf 33 = .ok (.iload_n 1, 1) := by decide +kernel
theorem dX3_lastChanceOf_34 : decode cX3_lastChanceOf 34 = .ok (.iaload, 1) := by decide +kernel
theorem dX3_lastChanceOf_35 : decode cX3_lastChanceOf 35 = .ok (.iconst 1, 1) := by decide +kernel
theorem dX3_lastChanceOf_36 : decode cX3_lastChanceOf 36 = .ok (.iadd, 1) := by decide +kernel
theorem dX3_lastChanceOf_37 : decode cX3_lastChanceOf 37 = .ok (.aload_n 0, 1) := by decide +kernel
theorem dX3_lastChanceOf_38 : decode cX3_lastChanceOf 38 = .ok (.iload_n 2, 1) := by decide +kernel
theorem dX3_lastChanceOf_39 : decode cX3_lastChanceOf 39 = .ok (.iconst 0, 1) := by decide +kernel
theorem dX3_lastChanceOf_40 : decode cX3_lastChanceOf 40 = .ok (.invokevirtual 72, 3) := by decide +kernel
theorem dX3_lastChanceOf_43 : decode cX3_lastChanceOf 43 = .ok (.isub, 1) := by decide +kernel
theorem dX3_lastChanceOf_44 : decode cX3_lastChanceOf 44 = .ok (.invokevirtual 94, 3) := by decide +kernel
theorem dX3_lastChanceOf_47 : decode cX3_lastChanceOf 47 = .ok (.istore_n 3, 1) := by decide +kernel
theorem dX3_lastChanceOf_48 : decode cX3_lastChanceOf 48 = .ok (.aload_n 0, 1) := by decide +kernel
theorem dX3_lastChanceOf_49 : decode cX3_lastChanceOf 49 = .ok (.getfield 28, 3) := by decide +kernel
theorem dX3_lastChanceOf_52 : decode cX3_lastChanceOf 52 = .ok (.iload_n 1, 1) := by decide +kernel
theorem dX3_lastChanceOf_53 : decode cX3_lastChanceOf 53 = .ok (.iload_n 3, 1) := by decide +kernel
theorem dX3_lastChanceOf_54 : decode cX3_lastChanceOf 54 = .ok (.iconst 1, 1) := by decide +kernel
theorem dX3_lastChanceOf_55 : decode cX3_lastChanceOf 55 = .ok (.isub, 1) := by decide +kernel
theorem dX3_lastChanceOf_56 : decode cX3_lastChanceOf 56 = .ok (.invokevirtual 106, 3) := by decide +kernel
theorem dX3_lastChanceOf_59 : decode cX3_lastChanceOf 59 = .ok (.ireturn, 1) := by decide +kernel
theorem dX3_firstChance_0 : decode cX3_firstChance 0 = .ok (.sipush 301, 3) := by decide +kernel
theorem dX3_firstChance_3 : decode cX3_firstChance 3 = .ok (.istore_n 2, 1) := by decide +kernel
theorem dX3_firstChance_4 : decode cX3_firstChance 4 = .ok (.iconst 0, 1) := by decide +kernel
theorem dX3_firstChance_5 : decode cX3_firstChance 5 = .ok (.istore_n 3, 1) := by decide +kernel
theorem dX3_firstChance_6 : decode cX3_firstChance 6 = .ok (.iload_n 3, 1) := by decide +kernel
theorem dX3_firstChance_7 : decode cX3_firstChance 7 = .ok (.iconst 4, 1) := by decide +kernel
theorem dX3_firstChance_8 : decode cX3_firstChance 8 = .ok (.if_icmp .ge 35, 3) := by decide +kernel
theorem dX3_firstChance_11 : decode cX3_firstChance 11 = .ok (.aload_n 0, 1) := by decide +kernel
theorem dX3_firstChance_12 : decode cX3_firstChance 12 = .ok (.iload_n 3, 1) := by decide +kernel
theorem dX3_firstChance_13 : decode cX3_firstChance 13 = .ok (.iload_n 1, 1) := by decide +kernel
theorem dX3_firstChance_14 : decode cX3_firstChance 14 = .ok (.invokevirtual 109, 3) := by decide +kernel
theorem dX3_firstChance_17 : decode cX3_firstChance 17 = .ok (.istore 4, 2) := by decide +kernel
theorem dX3_firstChance_19 : decode cX3_firstChance 19 = .ok (.iload 4, 2) := by decide +kernel
theorem dX3_firstChance_21 : decode cX3_firstChance 21 = .ok (.aload_n 0, 1) := by decide +kernel
