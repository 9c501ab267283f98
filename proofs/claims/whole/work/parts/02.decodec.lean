theorem dX7_isThing_11 : decode cX7_isThing 11 = .ok (.isub, 1) := by decide +kernel
theorem dX7_isThing_12 : decode cX7_isThing 12 = .ok (.invokestatic 56, 3) := by decide +kernel
theorem dX7_isThing_15 : decode cX7_isThing 15 = .ok (.ireturn, 1) := by decide +kernel
theorem dX7_isArm_0 : decode cX7_isArm 0 = .ok (.iload_n 0, 1) := by decide +kernel
theorem dX7_isArm_1 : decode cX7_isArm 1 = .ok (.iconst 0, 1) := by decide +kernel
theorem dX7_isArm_2 : decode cX7_isArm 2 = .ok (.iconst 3, 1) := by decide +kernel
theorem dX7_isArm_3 : decode cX7_isArm 3 = .ok (.invokestatic 56, 3) := by decide +kernel
theorem dX7_isArm_6 : decode cX7_isArm 6 = .ok (.ireturn, 1) := by decide +kernel
theorem dX7_size_0 : decode cX7_size 0 = .ok (.iload_n 0, 1) := by decide +kernel
theorem dX7_size_1 : decode cX7_size 1 = .ok (.ifCond .ge 8, 3) := by decide +kernel
theorem dX7_size_4 : decode cX7_size 4 = .ok (.iload_n 0, 1) := by decide +kernel
theorem dX7_size_5 : decode cX7_size 5 = .ok (.ineg, 1) := by decide +kernel
theorem dX7_size_6 : decode cX7_size 6 = .ok (.goto 4, 3) := by decide +kernel
theorem dX7_size_9 : decode cX7_size 9 = .ok (.iload_n 0, 1) := by decide +kernel
theorem dX7_size_10 : decode cX7_size 10 = .ok (.ireturn, 1) := by decide +kernel
theorem dX7_changes_0 : decode cX7_changes 0 = .ok (.iconst 0, 1) := by decide +kernel
theorem dX7_changes_1 : decode cX7_changes 1 = .ok (.istore_n 1, 1) := by decide +kernel
theorem dX7_changes_2 : decode cX7_changes 2 = .ok (.iconst 1, 1) := by decide +kernel
theorem dX7_changes_3 : decode cX7_changes 3 = .ok (.istore_n 2, 1) := by decide +kernel
theorem dX7_changes_4 : decode cX7_changes 4 = .ok (.iload_n 2, 1) := by decide +kernel
theorem dX7_changes_5 : decode cX7_changes 5 = .ok (.sipush 301, 3) := by decide +kernel
theorem dX7_changes_8 : decode cX7_changes 8 = .ok (.if_icmp .ge 28, 3) := by decide +kernel
theorem dX7_changes_11 : decode cX7_changes 11 = .ok (.iload_n 1, 1) := by decide +kernel
theorem dX7_changes_12 : decode cX7_changes 12 = .ok (.aload_n 0, 1) := by decide +kernel
theorem dX7_changes_13 : decode cX7_changes 13 = .ok (.getfield 7, 3) := by decide +kernel
theorem dX7_changes_16 : decode cX7_changes 16 = .ok (.iconst 0, 1) := by decide +kernel
theorem dX7_changes_17 : decode cX7_changes 17 = .ok (.iload_n 2, 1) := by decide +kernel
theorem dX7_changes_18 : decode cX7_changes 18 = .ok (.iadd, 1) := by decide +kernel
theorem dX7_changes_19 : decode cX7_changes 19 = .ok (.iaload, 1) := by decide +kernel
theorem dX7_changes_20 : decode cX7_changes 20 = .ok (.ifCond .lt 7, 3) := by decide +kernel
theorem dX7_changes_23 : decode cX7_changes 23 = .ok (.iconst 1, 1) := by decide +kernel
theorem dX7_changes_24 : decode cX7_changes 24 = .ok (.goto 4, 3) := by decide +kernel
theorem dX7_changes_27 : decode cX7_changes 27 = .ok (.iconst 0, 1) := by decide +kernel
theorem dX7_changes_28 : decode cX7_changes 28 = .ok (.iadd, 1) := by decide +kernel
theorem dX7_changes_29 : decode cX7_changes 29 = .ok (.istore_n 1, 1) := by decide +kernel
theorem dX7_changes_30 : decode cX7_changes 30 = .ok (.iinc 2 1, 3) := by decide +kernel
theorem dX7_changes_33 : decode cX7_changes 33 = .ok (.goto (-29), 3) := by decide +kernel
theorem dX7_changes_36 : decode cX7_changes 36 = .ok (.iload_n 1, 1) := by decide +kernel
theorem dX7_changes_37 : decode cX7_changes 37 = .ok (.ireturn, 1) := by decide +kernel
theorem dX7_speedAt_0 : decode cX7_speedAt 0 = .ok (.iload_n 1, 1) := by decide +kernel
theorem dX7_speedAt_1 : decode cX7_speedAt 1 = .ok (.istore_n 2, 1) := by decide +kernel
theorem dX7_speedAt_2 : decode cX7_speedAt 2 = .ok (.aload_n 0, 1) := by decide +kernel
theorem dX7_speedAt_3 : decode cX7_speedAt 3 = .ok (.getfield 7, 3) := by decide +kernel
theorem dX7_speedAt_6 : decode cX7_speedAt 6 = .ok (.iconst 0, 1) := by decide +kernel
theorem dX7_speedAt_7 : decode cX7_speedAt 7 = .ok (.iload_n 2, 1) := by decide +kernel
theorem dX7_speedAt_8 : decode cX7_speedAt 8 = .ok (.iadd, 1) := by decide +kernel
theorem dX7_speedAt_9 : decode cX7_speedAt 9 = .ok (.iaload, 1) := by decide +kernel
theorem dX7_speedAt_10 : decode cX7_speedAt 10 = .ok (.ifCond .ge 9, 3) := by decide +kernel
theorem dX7_speedAt_13 : decode cX7_speedAt 13 = .ok (.iinc 2 (-1), 3) := by decide +kernel
theorem dX7_speedAt_16 : decode cX7_speedAt 16 = .ok (.goto (-14), 3) := by decide +kernel
theorem dX7_speedAt_19 : decode cX7_speedAt 19 = .ok (.aload_n 0, 1) := by decide +kernel
theorem dX7_speedAt_20 : decode cX7_speedAt 20 = .ok (.getfield 7, 3) := by decide +kernel
theorem dX7_speedAt_23 : decode cX7_speedAt 23 = .ok (.iconst 0, 1) := by decide +kernel
theorem dX7_speedAt_24 : decode cX7_speedAt 24 = .ok (.iload_n 2, 1) := by decide +kernel
theorem dX7_speedAt_25 : decode cX7_speedAt 25 = .ok (.iadd, 1) := by decide +kernel
theorem dX7_speedAt_26 : decode cX7_speedAt 26 = .ok (.iaload, 1) := by decide +kernel
theorem dX7_speedAt_27 : decode cX7_speedAt 27 = .ok (.ireturn, 1) := by decide +kernel
theorem dX7_speed_0 : decode cX7_speed 0 = .ok (.iload_n 1, 1) := by decide +kernel
theorem dX7_speed_1 : decode cX7_speed 1 = .ok (.invokestatic 60, 3) := by decide +kernel
theorem dX7_speed_4 : decode cX7_speed 4 = .ok (.ifCond .eq 13, 3) := by decide +kernel
theorem dX7_speed_7 : decode cX7_speed 7 = .ok (.iload_n 2, 1) := by decide +kernel
theorem dX7_speed_8 : decode cX7_speed 8 = .ok (.iconst 0, 1) := by decide +kernel
theorem dX7_speed_9 : decode cX7_speed 9 = .ok (.bipush 9, 2) := by decide +kernel
theorem dX7_speed_11 : decode cX7_speed 11 = .ok (.invokestatic 56, 3) := by decide +kernel
theorem dX7_speed_14 : decode cX7_speed 14 = .ok (.ifCond .ne 6, 3) := by decide +kernel
theorem dX7_speed_17 : decode cX7_speed 17 = .ok (.bipush (-2), 2) := by decide +kernel
theorem dX7_speed_19 : decode cX7_speed 19 = .ok (.ireturn, 1) := by decide +kernel
theorem dX7_speed_20 : decode cX7_speed 20 = .ok (.aload_n 0, 1) := by decide +kernel
theorem dX7_speed_21 : decode cX7_speed 21 = .ok (.getfield 7, 3) := by decide +kernel
theorem dX7_speed_24 : decode cX7_speed 24 = .ok (.iconst 0, 1) := by decide +kernel
theorem dX7_speed_25 : decode cX7_speed 25 = .ok (.iload_n 1, 1) := by decide +kernel
theorem dX7_speed_26 : decode cX7_speed 26 = .ok (.iadd, 1) := by decide +kernel
theorem dX7_speed_27 : decode cX7_speed 27 = .ok (.iaload, 1) := by decide +kernel
theorem dX7_speed_28 : decode cX7_speed 28 = .ok (.ifCond .ge 15, 3) := by decide +kernel
theorem dX7_speed_31 : decode cX7_speed 31 = .ok (.aload_n 0, 1) := by decide +kernel
theorem dX7_speed_32 : decode cX7_speed 32 = .ok (.invokevirtual 64, 3) := by decide +kernel
theorem dX7_speed_35 : decode cX7_speed 35 = .ok (.bipush 8, 2) := by decide +kernel
theorem dX7_speed_37 : decode cX7_speed 37 = .ok (.if_icmp .ne 6, 3) := by decide +kernel
theorem dX7_speed_40 : decode cX7_speed 40 = .ok (.bipush (-4), 2) := by decide +kernel
theorem dX7_speed_42 : decode cX7_speed 42 = .ok (.ireturn, 1) := by decide +kernel
theorem dX7_speed_43 : decode cX7_speed 43 = .ok (.aload_n 0, 1) := by decide +kernel
theorem dX7_speed_44 : decode cX7_speed 44 = .ok (.iload_n 1, 1) := by decide +kernel
theorem dX7_speed_45 : decode cX7_speed 45 = .ok (.invokevirtual 68, 3) := by decide +kernel
theorem dX7_speed_48 : decode cX7_speed 48 = .ok (.istore_n 3, 1) := by decide +kernel
theorem dX7_speed_49 : decode cX7_speed 49 = .ok (.aload_n 0, 1) := by decide +kernel
theorem dX7_speed_50 : decode cX7_speed 50 = .ok (.getfield 7, 3) := by decide +kernel
theorem dX7_speed_53 : decode cX7_speed 53 = .ok (.iconst 0, 1) := by decide +kernel
theorem dX7_speed_54 : decode cX7_speed 54 = .ok (.iload_n 1, 1) := by decide +kernel
theorem dX7_speed_55 : decode cX7_speed 55 = .ok (.iadd, 1) := by decide +kernel
theorem dX7_speed_56 : decode cX7_speed 56 = .ok (.iload_n 2, 1) := by decide +kernel
theorem dX7_speed_57 : decode cX7_speed 57 = .ok (.iastore, 1) := by decide +kernel
theorem dX7_speed_58 : decode cX7_speed 58 = .ok (.iload_n 3, 1) := by decide +kernel
theorem dX7_speed_59 : decode cX7_speed 59 = .ok (.ireturn, 1) := by decide +kernel
theorem dX7_level_0 : decode cX7_level 0 = .ok (.iload_n 1, 1) := by decide +kernel
theorem dX7_level_1 : decode cX7_level 1 = .ok (.iconst 1, 1) := by decide +kernel
theorem dX7_level_2 : decode cX7_level 2 = .ok (.sipush 300, 3) := by decide +kernel
theorem dX7_level_5 : decode cX7_level 5 = .ok (.invokestatic 56, 3) := by decide +kernel
theorem dX7_level_8 : decode cX7_level 8 = .ok (.ifCond .ne 6, 3) := by decide +kernel
theorem dX7_level_11 : decode cX7_level 11 = .ok (.bipush (-2), 2) := by decide +kernel
theorem dX7_level_13 : decode cX7_level 13 = .ok (.ireturn, 1) := by decide +kernel
theorem dX7_level_14 : decode cX7_level 14 = .ok (.aload_n 0, 1) := by decide +kernel
theorem dX7_level_15 : decode cX7_level 15 = .ok (.getfield 7, 3) := by decide +kernel
theorem dX7_level_18 : decode cX7_level 18 = .ok (.iconst 0, 1) := by decide +kernel
theorem dX7_level_19 : decode cX7_level 19 = .ok (.iload_n 1, 1) := by decide +kernel
theorem dX7_level_20 : decode cX7_level 20 = .ok (.iadd, 1) := by decide +kernel
theorem dX7_level_21 : decode cX7_level 21 = .ok (.iaload, 1) := by decide +kernel
theorem dX7_level_22 : decode cX7_level 22 = .ok (.ifCond .ge 6, 3) := by decide +kernel
theorem dX7_level_25 : decode cX7_level 25 = .ok (.bipush (-5), 2) := by decide +kernel
theorem dX7_level_27 : decode cX7_level 27 = .ok (.ireturn, 1) := by decide +kernel
theorem dX7_level_28 : decode cX7_level 28 = .ok (.aload_n 0, 1) := by decide +kernel
theorem dX7_level_29 : decode cX7_level 29 = .ok (.getfield 7, 3) := by decide +kernel
theorem dX7_level_32 : decode cX7_level 32 = .ok (.iconst 0, 1) := by decide +kernel
theorem dX7_level_33 : decode cX7_level 33 = .ok (.iload_n 1, 1) := by decide +kernel
theorem dX7_level_34 : decode cX7_level 34 = .ok (.iadd, 1) := by decide +kernel
theorem dX7_level_35 : decode cX7_level 35 = .ok (.bipush (-6), 2) := by decide +kernel
theorem dX7_level_37 : decode cX7_level 37 = .ok (.iastore, 1) := by decide +kernel
theorem dX7_level_38 : decode cX7_level 38 = .ok (.aload_n 0, 1) := by decide +kernel
theorem dX7_level_39 : decode cX7_level 39 = .ok (.invokevirtual 64, 3) := by decide +kernel
theorem dX7_level_42 : decode cX7_level 42 = .ok (.ireturn, 1) := by decide +kernel
theorem dX7_layGone_0 : decode cX7_layGone 0 = .ok (.aload_n 0, 1) := by decide +kernel
theorem dX7_layGone_1 : decode cX7_layGone 1 = .ok (.getfield 20, 3) := by decide +kernel
theorem dX7_layGone_4 : decode cX7_layGone 4 = .ok (.iconst 0, 1) := by decide +kernel
theorem dX7_layGone_5 : decode cX7_layGone 5 = .ok (.iconst 0, 1) := by decide +kernel
theorem dX7_layGone_6 : decode cX7_layGone 6 = .ok (.iastore, 1) := by decide +kernel
theorem dX7_layGone_7 : decode cX7_layGone 7 = .ok (.iconst 1, 1) := by decide +kernel
theorem dX7_layGone_8 : decode cX7_layGone 8 = .ok (.istore_n 1, 1) := by decide +kernel
theorem dX7_layGone_9 : decode cX7_layGone 9 = .ok (.iload_n 1, 1) := by decide +kernel
theorem dX7_layGone_10 : decode cX7_layGone 10 = .ok (.sipush 301, 3) := by decide +kernel
theorem dX7_layGone_13 : decode cX7_layGone 13 = .ok (.if_icmp .ge 31, 3) := by decide +kernel
theorem dX7_layGone_16 : decode cX7_layGone 16 = .ok (.aload_n 0, 1) := by decide +kernel
theorem dX7_layGone_17 : decode cX7_layGone 17 = .ok (.getfield 20, 3) := by decide +kernel
theorem dX7_layGone_20 : decode cX7_layGone 20 = .ok (.iload_n 1, 1) := by decide +kernel
theorem dX7_layGone_21 : decode cX7_layGone 21 = .ok (.aload_n 0, 1) := by decide +kernel
theorem dX7_layGone_22 : decode cX7_layGone 22 = .ok (.getfield 20, 3) := by decide +kernel
theorem dX7_layGone_25 : decode cX7_layGone 25 = .ok (.iload_n 1, 1) := by decide +kernel
theorem dX7_layGone_26 : decode cX7_layGone 26 = .ok (.iconst 1, 1) := by decide +kernel
theorem dX7_layGone_27 : decode cX7_layGone 27 = .ok (.isub, 1) := by decide +kernel
theorem dX7_layGone_28 : decode cX7_layGone 28 = .ok (.iaload, 1) := by decide +kernel
theorem dX7_layGone_29 : decode cX7_layGone 29 = .ok (.aload_n 0, 1) := by decide +kernel
theorem dX7_layGone_30 : decode cX7_layGone 30 = .ok (.iload_n 1, 1) := by decide +kernel
theorem dX7_layGone_31 : decode cX7_layGone 31 = .ok (.iconst 1, 1) := by decide +kernel
theorem dX7_layGone_32 : decode cX7_layGone 32 = .ok (.isub, 1) := by decide +kernel
theorem dX7_layGone_33 : decode cX7_layGone 33 = .ok (.invokevirtual 68, 3) := by decide +kernel
theorem dX7_layGone_36 : decode cX7_layGone 36 = .ok (.iadd, 1) := by decide +kernel
theorem dX7_layGone_37 : decode cX7_layGone 37 = .ok (.iastore, 1) := by decide +kernel
theorem dX7_layGone_38 : decode cX7_layGone 38 = .ok (.iinc 1 1, 3) := by decide +kernel
theorem dX7_layGone_41 : decode cX7_layGone 41 = .ok (.goto (-32), 3) := by decide +kernel
theorem dX7_layGone_44 : decode cX7_layGone 44 = .ok (.return_, 1) := by decide +kernel
theorem dX7_gone_0 : decode cX7_gone 0 = .ok (.iload_n 1, 1) := by decide +kernel
theorem dX7_gone_1 : decode cX7_gone 1 = .ok (.invokestatic 60, 3) := by decide +kernel
theorem dX7_gone_4 : decode cX7_gone 4 = .ok (.ifCond .ne 6, 3) := by decide +kernel
theorem dX7_gone_7 : decode cX7_gone 7 = .ok (.bipush (-2), 2) := by decide +kernel
theorem dX7_gone_9 : decode cX7_gone 9 = .ok (.ireturn, 1) := by decide +kernel
theorem dX7_gone_10 : decode cX7_gone 10 = .ok (.aload_n 0, 1) := by decide +kernel
theorem dX7_gone_11 : decode cX7_gone 11 = .ok (.invokevirtual 72, 3) := by decide +kernel
theorem dX7_gone_14 : decode cX7_gone 14 = .ok (.aload_n 0, 1) := by decide +kernel
theorem dX7_gone_15 : decode cX7_gone 15 = .ok (.getfield 20, 3) := by decide +kernel
theorem dX7_gone_18 : decode cX7_gone 18 = .ok (.iload_n 1, 1) := by decide +kernel
theorem dX7_gone_19 : decode cX7_gone 19 = .ok (.iaload, 1) := by decide +kernel
theorem dX7_gone_20 : decode cX7_gone 20 = .ok (.ireturn, 1) := by decide +kernel
theorem dX7_placeOf_0 : decode cX7_placeOf 0 = .ok (.aload_n 0, 1) := by decide +kernel
theorem dX7_placeOf_1 : decode cX7_placeOf 1 = .ok (.getfield 7, 3) := by decide +kernel
theorem dX7_placeOf_4 : decode cX7_placeOf 4 = .ok (.sipush 341, 3) := by decide +kernel
theorem dX7_placeOf_7 : decode cX7_placeOf 7 = .ok (.iload_n 1, 1) := by decide +kernel
theorem dX7_placeOf_8 : decode cX7_placeOf 8 = .ok (.iadd, 1) := by decide +kernel
theorem dX7_placeOf_9 : decode cX7_placeOf 9 = .ok (.iaload, 1) := by decide +kernel
theorem dX7_placeOf_10 : decode cX7_placeOf 10 = .ok (.aload_n 0, 1) := by decide +kernel
theorem dX7_placeOf_11 : decode cX7_placeOf 11 = .ok (.getfield 20, 3) := by decide +kernel
theorem dX7_placeOf_14 : decode cX7_placeOf 14 = .ok (.iload_n 2, 1) := by decide +kernel
theorem dX7_placeOf_15 : decode cX7_placeOf 15 = .ok (.iaload, 1) := by decide +kernel
theorem dX7_placeOf_16 : decode cX7_placeOf 16 = .ok (.iadd, 1) := by decide +kernel
theorem dX7_placeOf_17 : decode cX7_placeOf 17 = .ok (.aload_n 0, 1) := by decide +kernel
theorem dX7_placeOf_18 : decode cX7_placeOf 18 = .ok (.getfield 20, 3) := by decide +kernel
theorem dX7_placeOf_21 : decode cX7_placeOf 21 = .ok (.aload_n 0, 1) := by decide +kernel
theorem dX7_placeOf_22 : decode cX7_placeOf 22 = .ok (.getfield 7, 3) := by decide +kernel
theorem dX7_placeOf_25 : decode cX7_placeOf 25 = .ok (.sipush 301, 3) := by decide +kernel
theorem dX7_placeOf_28 : decode cX7_placeOf 28 = .ok (.iload_n 1, 1) := by decide +kernel
theorem dX7_placeOf_29 : decode cX7_placeOf 29 = .ok (.iadd, 1) := by decide +kernel
theorem dX7_placeOf_30 : decode cX7_placeOf 30 = .ok (.iaload, 1) := by decide +kernel
theorem dX7_placeOf_31 : decode cX7_placeOf 31 = .ok (.iaload, 1) := by decide +kernel
theorem dX7_placeOf_32 : decode cX7_placeOf 32 = .ok (.isub, 1) := by decide +kernel
theorem dX7_placeOf_33 : decode cX7_placeOf 33 = .ok (.ireturn, 1) := by decide +kernel
theorem dX7_wasSeen_0 : decode cX7_wasSeen 0 = .ok (.aload_n 0, 1) := by decide +kernel
theorem dX7_wasSeen_1 : decode cX7_wasSeen 1 = .ok (.getfield 7, 3) := by decide +kernel
theorem dX7_wasSeen_4 : decode cX7_wasSeen 4 = .ok (.sipush 381, 3) := by decide +kernel
theorem dX7_wasSeen_7 : decode cX7_wasSeen 7 = .ok (.sipush 301, 3) := by decide +kernel
theorem dX7_wasSeen_10 : decode cX7_wasSeen 10 = .ok (.iload_n 1, 1) := by decide +kernel
theorem dX7_wasSeen_11 : decode cX7_wasSeen 11 = .ok (.imul, 1) := by decide +kernel
theorem dX7_wasSeen_12 : decode cX7_wasSeen 12 = .ok (.iadd, 1) := by decide +kernel
theorem dX7_wasSeen_13 : decode cX7_wasSeen 13 = .ok (.iload_n 2, 1) := by decide +kernel
theorem dX7_wasSeen_14 : decode cX7_wasSeen 14 = .ok (.iadd, 1) := by decide +kernel
theorem dX7_wasSeen_15 : decode cX7_wasSeen 15 = .ok (.iaload, 1) := by decide +kernel
theorem dX7_wasSeen_16 : decode cX7_wasSeen 16 = .ok (.iconst 1, 1) := by decide +kernel
theorem dX7_wasSeen_17 : decode cX7_wasSeen 17 = .ok (.if_icmp .ne 7, 3) := by decide +kernel
theorem dX7_wasSeen_20 : decode cX7_wasSeen 20 = .ok (.iconst 1, 1) := by decide +kernel
theorem dX7_wasSeen_21 : decode cX7_wasSeen 21 = .ok (.goto 4, 3) := by decide +kernel
theorem dX7_wasSeen_24 : decode cX7_wasSeen 24 = .ok (.iconst 0, 1) := by decide +kernel
theorem dX7_wasSeen_25 : decode cX7_wasSeen 25 = .ok (.ireturn, 1) := by decide +kernel
theorem dX7_see_0 : decode cX7_see 0 = .ok (.iload_n 1, 1) := by decide +kernel
theorem dX7_see_1 : decode cX7_see 1 = .ok (.invokestatic 60, 3) := by decide +kernel
theorem dX7_see_4 : decode cX7_see 4 = .ok (.ifCond .eq 32, 3) := by decide +kernel
theorem dX7_see_7 : decode cX7_see 7 = .ok (.iload_n 2, 1) := by decide +kernel
theorem dX7_see_8 : decode cX7_see 8 = .ok (.iconst 0, 1) := by decide +kernel
theorem dX7_see_9 : decode cX7_see 9 = .ok (.iconst 3, 1) := by decide +kernel
theorem dX7_see_10 : decode cX7_see 10 = .ok (.invokestatic 56, 3) := by decide +kernel
theorem dX7_see_13 : decode cX7_see 13 = .ok (.ifCond .eq 23, 3) := by decide +kernel
theorem dX7_see_16 : decode cX7_see 16 = .ok (.iload_n 3, 1) := by decide +kernel
theorem dX7_see_17 : decode cX7_see 17 = .ok (.iconst 0, 1) := by decide +kernel
theorem dX7_see_18 : decode cX7_see 18 = .ok (.bipush 60, 2) := by decide +kernel
theorem dX7_see_20 : decode cX7_see 20 = .ok (.invokestatic 56, 3) := by decide +kernel
theorem dX7_see_23 : decode cX7_see 23 = .ok (.ifCond .eq 13, 3) := by decide +kernel
theorem dX7_see_26 : decode cX7_see 26 = .ok (.iload 4, 2) := by decide +kernel
theorem dX7_see_28 : decode cX7_see 28 = .ok (.iconst 0, 1) := by decide +kernel
theorem dX7_see_29 : decode cX7_see 29 = .ok (.iconst 2, 1) := by decide +kernel
theorem dX7_see_30 : decode cX7_see 30 = .ok (.invokestatic 56, 3) := by decide +kernel
theorem dX7_see_33 : decode cX7_see 33 = .ok (.ifCond .ne 6, 3) := by decide +kernel
theorem dX7_see_36 : decode cX7_see 36 = .ok (.bipush (-2), 2) := by decide +kernel
theorem dX7_see_38 : decode cX7_see 38 = .ok (.ireturn, 1) := by decide +kernel
theorem dX7_see_39 : decode cX7_see 39 = .ok (.aload_n 0, 1) := by decide +kernel
theorem dX7_see_40 : decode cX7_see 40 = .ok (.invokevirtual 72, 3) := by decide +kernel
theorem dX7_see_43 : decode cX7_see 43 = .ok (.bipush (-6), 2) := by decide +kernel
theorem dX7_see_45 : decode cX7_see 45 = .ok (.istore 5, 2) := by decide +kernel
theorem dX7_see_47 : decode cX7_see 47 = .ok (.aload_n 0, 1) := by decide +kernel
theorem dX7_see_48 : decode cX7_see 48 = .ok (.getfield 7, 3) := by decide +kernel
theorem dX7_see_51 : decode cX7_see 51 = .ok (.sipush 6421, 3) := by decide +kernel
theorem dX7_see_54 : decode cX7_see 54 = .ok (.iaload, 1) := by decide +kernel
theorem dX7_see_55 : decode cX7_see 55 = .ok (.iconst 1, 1) := by decide +kernel
theorem dX7_see_56 : decode cX7_see 56 = .ok (.iadd, 1) := by decide +kernel
theorem dX7_see_57 : decode cX7_see 57 = .ok (.istore 6, 2) := by decide +kernel
theorem dX7_see_59 : decode cX7_see 59 = .ok (.iconst 0, 1) := by decide +kernel
theorem dX7_see_60 : decode cX7_see 60 = .ok (.istore 7, 2) := by decide +kernel
theorem dX7_see_62 : decode cX7_see 62 = .ok (.iload 7, 2) := by decide +kernel
theorem dX7_see_64 : decode cX7_see 64 = .ok (.aload_n 0, 1) := by decide +kernel
theorem dX7_see_65 : decode cX7_see 65 = .ok (.getfield 7, 3) := by decide +kernel
theorem dX7_see_68 : decode cX7_see 68 = .ok (.sipush 6423, 3) := by decide +kernel
theorem dX7_see_71 : decode cX7_see 71 = .ok (.iaload, 1) := by decide +kernel
theorem dX7_see_72 : decode cX7_see 72 = .ok (.if_icmp .ge 79, 3) := by decide +kernel
theorem dX7_see_75 : decode cX7_see 75 = .ok (.aload_n 0, 1) := by decide +kernel
theorem dX7_see_76 : decode cX7_see 76 = .ok (.iload 7, 2) := by decide +kernel
theorem dX7_see_78 : decode cX7_see 78 = .ok (.iload_n 1, 1) := by decide +kernel
theorem dX7_see_79 : decode cX7_see 79 = .ok (.invokevirtual 75, 3) := by decide +kernel
theorem dX7_see_82 : decode cX7_see 82 = .ok (.iload_n 3, 1) := by decide +kernel
theorem dX7_see_83 : decode cX7_see 83 = .ok (.isub, 1) := by decide +kernel
theorem dX7_see_84 : decode cX7_see 84 = .ok (.invokestatic 79, 3) := by decide +kernel
theorem dX7_see_87 : decode cX7_see 87 = .ok (.istore 8, 2) := by decide +kernel
theorem dX7_see_89 : decode cX7_see 89 = .ok (.aload_n 0, 1) := by decide +kernel
theorem dX7_see_90 : decode cX7_see 90 = .ok (.getfield 7, 3) := by decide +kernel
theorem dX7_see_93 : decode cX7_see 93 = .ok (.sipush 321, 3) := by decide +kernel
theorem dX7_see_96 : decode cX7_see 96 = .ok (.iload 7, 2) := by decide +kernel
theorem dX7_see_98 : decode cX7_see 98 = .ok (.iadd, 1) := by decide +kernel
theorem dX7_see_99 : decode cX7_see 99 = .ok (.iaload, 1) := by decide +kernel
theorem dX7_see_100 : decode cX7_see 100 = .ok (.iload_n 2, 1) := by decide +kernel
theorem dX7_see_101 : decode cX7_see 101 = .ok (.if_icmp .ne 44, 3) := by decide +kernel
theorem dX7_see_104 : decode cX7_see 104 = .ok (.aload_n 0, 1) := by decide +kernel
theorem dX7_see_105 : decode cX7_see 105 = .ok (.getfield 7, 3) := by decide +kernel
theorem dX7_see_108 : decode cX7_see 108 = .ok (.sipush 361, 3) := by decide +kernel
theorem dX7_see_111 : decode cX7_see 111 = .ok (.iload 7, 2) := by decide +kernel
theorem dX7_see_113 : decode cX7_see 113 = .ok (.iadd, 1) := by decide +kernel
theorem dX7_see_114 : decode cX7_see 114 = .ok (.iaload, 1) := by decide +kernel
theorem dX7_see_115 : decode cX7_see 115 = .ok (.iload 4, 2) := by decide +kernel
theorem dX7_see_117 : decode cX7_see 117 = .ok (.if_icmp .ne 28, 3) := by decide +kernel
theorem dX7_see_120 : decode cX7_see 120 = .ok (.aload_n 0, 1) := by decide +kernel
theorem dX7_see_121 : decode cX7_see 121 = .ok (.iload 7, 2) := by decide +kernel
theorem dX7_see_123 : decode cX7_see 123 = .ok (.iload_n 1, 1) := by decide +kernel
theorem dX7_see_124 : decode cX7_see 124 = .ok (.invokevirtual 82, 3) := by decide +kernel
theorem dX7_see_127 : decode cX7_see 127 = .ok (.ifCond .ne 18, 3) := by decide +kernel
theorem dX7_see_130 : decode cX7_see 130 = .ok (.iload 8, 2) := by decide +kernel
theorem dX7_see_132 : decode cX7_see 132 = .ok (.iload 6, 2) := by decide +kernel
theorem dX7_see_134 : decode cX7_see 134 = .ok (.if_icmp .ge 11, 3) := by decide +kernel
theorem dX7_see_137 : decode cX7_see 137 = .ok (.iload 7, 2) := by decide +kernel
theorem dX7_see_139 : decode cX7_see 139 = .ok (.istore 5, 2) := by decide +kernel
theorem dX7_see_141 : decode cX7_see 141 = .ok (.iload 8, 2) := by decide +kernel
theorem dX7_see_143 : decode cX7_see 143 = .ok (.istore 6, 2) := by decide +kernel
theorem dX7_see_145 : decode cX7_see 145 = .ok (.iinc 7 1, 3) := by decide +kernel
theorem dX7_see_148 : decode cX7_see 148 = .ok (.goto (-86), 3) := by decide +kernel
theorem dX7_see_151 : decode cX7_see 151 = .ok (.iload 5, 2) := by decide +kernel
theorem dX7_see_153 : decode cX7_see 153 = .ok (.ifCond .ge 120, 3) := by decide +kernel
theorem dX7_see_156 : decode cX7_see 156 = .ok (.aload_n 0, 1) := by decide +kernel
theorem dX7_see_157 : decode cX7_see 157 = .ok (.getfield 7, 3) := by decide +kernel
theorem dX7_see_160 : decode cX7_see 160 = .ok (.sipush 6423, 3) := by decide +kernel
theorem dX7_see_163 : decode cX7_see 163 = .ok (.iaload, 1) := by decide +kernel
theorem dX7_see_164 : decode cX7_see 164 = .ok (.istore 5, 2) := by decide +kernel
theorem dX7_see_166 : decode cX7_see 166 = .ok (.iload 5, 2) := by decide +kernel
theorem dX7_see_168 : decode cX7_see 168 = .ok (.bipush 20, 2) := by decide +kernel
theorem dX7_see_170 : decode cX7_see 170 = .ok (.if_icmp .ne 6, 3) := by decide +kernel
theorem dX7_see_173 : decode cX7_see 173 = .ok (.bipush (-4), 2) := by decide +kernel
theorem dX7_see_175 : decode cX7_see 175 = .ok (.ireturn, 1) := by decide +kernel
theorem dX7_see_176 : decode cX7_see 176 = .ok (.aload_n 0, 1) := by decide +kernel
theorem dX7_see_177 : decode cX7_see 177 = .ok (.getfield 7, 3) := by decide +kernel
theorem dX7_see_180 : decode cX7_see 180 = .ok (.sipush 301, 3) := by decide +kernel
theorem dX7_see_183 : decode cX7_see 183 = .ok (.iload 5, 2) := by decide +kernel
theorem dX7_see_185 : decode cX7_see 185 = .ok (.iadd, 1) := by decide +kernel
theorem dX7_see_186 : decode cX7_see 186 = .ok (.iload_n 1, 1) := by decide +kernel
theorem dX7_see_187 : decode cX7_see 187 = .ok (.iastore, 1) := by decide +kernel
theorem dX7_see_188 : decode cX7_see 188 = .ok (.aload_n 0, 1) := by decide +kernel
theorem dX7_see_189 : decode cX7_see 189 = .ok (.getfield 7, 3) := by decide +kernel
theorem dX7_see_192 : decode cX7_see 192 = .ok (.sipush 321, 3) := by decide +kernel
theorem dX7_see_195 : decode cX7_see 195 = .ok (.iload 5, 2) := by decide +kernel
theorem dX7_see_197 : decode cX7_see 197 = .ok (.iadd, 1) := by decide +kernel
theorem dX7_see_198 : decode cX7_see 198 = .ok (.iload_n 2, 1) := by decide +kernel
theorem dX7_see_199 : decode cX7_see 199 = .ok (.iastore, 1) := by decide +kernel
theorem dX7_see_200 : decode cX7_see 200 = .ok (.aload_n 0, 1) := by decide +kernel
theorem dX7_see_201 : decode cX7_see 201 = .ok (.getfield 7, 3) := by decide +kernel
theorem dX7_see_204 : decode cX7_see 204 = .ok (.sipush 341, 3) := by decide +kernel
theorem dX7_see_207 : decode cX7_see 207 = .ok (.iload 5, 2) := by decide +kernel
theorem dX7_see_209 : decode cX7_see 209 = .ok (.iadd, 1) := by decide +kernel
theorem dX7_see_210 : decode cX7_see 210 = .ok (.iload_n 3, 1) := by decide +kernel
theorem dX7_see_211 : decode cX7_see 211 = .ok (.iastore, 1) := by decide +kernel
theorem dX7_see_212 : decode cX7_see 212 = .ok (.aload_n 0, 1) := by decide +kernel
theorem dX7_see_213 : decode cX7_see 213 = .ok (.getfield 7, 3) := by decide +kernel
theorem dX7_see_216 : decode cX7_see 216 = .ok (.sipush 361, 3) := by decide +kernel
theorem dX7_see_219 : decode cX7_see 219 = .ok (.iload 5, 2) := by decide +kernel
theorem dX7_see_221 : decode cX7_see 221 = .ok (.iadd, 1) := by decide +kernel
theorem dX7_see_222 : decode cX7_see 222 = .ok (.iload 4, 2) := by decide +kernel
theorem dX7_see_224 : decode cX7_see 224 = .ok (.iastore, 1) := by decide +kernel
theorem dX7_see_225 : decode cX7_see 225 = .ok (.iconst 0, 1) := by decide +kernel
theorem dX7_see_226 : decode cX7_see 226 = .ok (.istore 7, 2) := by decide +kernel
theorem dX7_see_228 : decode cX7_see 228 = .ok (.iload 7, 2) := by decide +kernel
theorem dX7_see_230 : decode cX7_see 230 = .ok (.sipush 301, 3) := by decide +kernel
theorem dX7_see_233 : decode cX7_see 233 = .ok (.if_icmp .ge 28, 3) := by decide +kernel
theorem dX7_see_236 : decode cX7_see 236 = .ok (.aload_n 0, 1) := by decide +kernel
theorem dX7_see_237 : decode cX7_see 237 = .ok (.getfield 7, 3) := by decide +kernel
theorem dX7_see_240 : decode cX7_see 240 = .ok (.sipush 381, 3) := by decide +kernel
theorem dX7_see_243 : decode cX7_see 243 = .ok (.sipush 301, 3) := by decide +kernel
theorem dX7_see_246 : decode cX7_see 246 = .ok (.iload 5, 2) := by decide +kernel
theorem dX7_see_248 : decode cX7_see 248 = .ok (.imul, 1) := by decide +kernel
theorem dX7_see_249 : decode cX7_see 249 = .ok (.iadd, 1) := by decide +kernel
theorem dX7_see_250 : decode cX7_see 250 = .ok (.iload 7, 2) := by decide +kernel
theorem dX7_see_252 : decode cX7_see 252 = .ok (.iadd, 1) := by decide +kernel
theorem dX7_see_253 : decode cX7_see 253 = .ok (.iconst 0, 1) := by decide +kernel
theorem dX7_see_254 : decode cX7_see 254 = .ok (.iastore, 1) := by decide +kernel
theorem dX7_see_255 : decode cX7_see 255 = .ok (.iinc 7 1, 3) := by decide +kernel
theorem dX7_see_258 : decode cX7_see 258 = .ok (.goto (-30), 3) := by decide +kernel
theorem dX7_see_261 : decode cX7_see 261 = .ok (.aload_n 0, 1) := by decide +kernel
theorem dX7_see_262 : decode cX7_see 262 = .ok (.getfield 7, 3) := by decide +kernel
theorem dX7_see_265 : decode cX7_see 265 = .ok (.sipush 6423, 3) := by decide +kernel
theorem dX7_see_268 : decode cX7_see 268 = .ok (.dup2, 1) := by decide +kernel
theorem dX7_see_269 : decode cX7_see 269 = .ok (.iaload, 1) := by decide +kernel
theorem dX7_see_270 : decode cX7_see 270 = .ok (.iconst 1, 1) := by decide +kernel
theorem dX7_see_271 : decode cX7_see 271 = .ok (.iadd, 1) := by decide +kernel
theorem dX7_see_272 : decode cX7_see 272 = .ok (.iastore, 1) := by decide +kernel
theorem dX7_see_273 : decode cX7_see 273 = .ok (.aload_n 0, 1) := by decide +kernel
theorem dX7_see_274 : decode cX7_see 274 = .ok (.getfield 7, 3) := by decide +kernel
theorem dX7_see_277 : decode cX7_see 277 = .ok (.sipush 381, 3) := by decide +kernel
theorem dX7_see_280 : decode cX7_see 280 = .ok (.sipush 301, 3) := by decide +kernel
theorem dX7_see_283 : decode cX7_see 283 = .ok (.iload 5, 2) := by decide +kernel
theorem dX7_see_285 : decode cX7_see 285 = .ok (.imul, 1) := by decide +kernel
theorem dX7_see_286 : decode cX7_see 286 = .ok (.iadd, 1) := by decide +kernel
theorem dX7_see_287 : decode cX7_see 287 = .ok (.iload_n 1, 1) := by decide +kernel
theorem dX7_see_288 : decode cX7_see 288 = .ok (.iadd, 1) := by decide +kernel
theorem dX7_see_289 : decode cX7_see 289 = .ok (.iconst 1, 1) := by decide +kernel
theorem dX7_see_290 : decode cX7_see 290 = .ok (.iastore, 1) := by decide +kernel
theorem dX7_see_291 : decode cX7_see 291 = .ok (.iload 5, 2) := by decide +kernel
theorem dX7_see_293 : decode cX7_see 293 = .ok (.ireturn, 1) := by decide +kernel
theorem dX7_drop_0 : decode cX7_drop 0 = .ok (.aload_n 0, 1) := by decide +kernel
theorem dX7_drop_1 : decode cX7_drop 1 = .ok (.iload_n 1, 1) := by decide +kernel
theorem dX7_drop_2 : decode cX7_drop 2 = .ok (.invokevirtual 86, 3) := by decide +kernel
theorem dX7_drop_5 : decode cX7_drop 5 = .ok (.ifCond .ne 5, 3) := by decide +kernel
theorem dX7_drop_8 : decode cX7_drop 8 = .ok (.iconst (-1), 1) := by decide +kernel
theorem dX7_drop_9 : decode cX7_drop 9 = .ok (.ireturn, 1) := by decide +kernel
theorem dX7_drop_10 : decode cX7_drop 10 = .ok (.aload_n 0, 1) := by decide +kernel
theorem dX7_drop_11 : decode cX7_drop 11 = .ok (.getfield 7, 3) := by decide +kernel
theorem dX7_drop_14 : decode cX7_drop 14 = .ok (.sipush 6423, 3) := by decide +kernel
theorem dX7_drop_17 : decode cX7_drop 17 = .ok (.dup2, 1) := by decide +kernel
theorem dX7_drop_18 : decode cX7_drop 18 = .ok (.iaload, 1) := by decide +kernel
theorem dX7_drop_19 : decode cX7_drop 19 = .ok (.iconst 1, 1) := by decide +kernel
theorem dX7_drop_20 : decode cX7_drop 20 = .ok (.isub, 1) := by decide +kernel
theorem dX7_drop_21 : decode cX7_drop 21 = .ok (.iastore, 1) := by decide +kernel
theorem dX7_drop_22 : decode cX7_drop 22 = .ok (.iload_n 1, 1) := by decide +kernel
theorem dX7_drop_23 : decode cX7_drop 23 = .ok (.istore_n 2, 1) := by decide +kernel
theorem dX7_drop_24 : decode cX7_drop 24 = .ok (.iload_n 2, 1) := by decide +kernel
theorem dX7_drop_25 : decode cX7_drop 25 = .ok (.aload_n 0, 1) := by decide +kernel
theorem dX7_drop_26 : decode cX7_drop 26 = .ok (.getfield 7, 3) := by decide +kernel
theorem dX7_drop_29 : decode cX7_drop 29 = .ok (.sipush 6423, 3) := by decide +kernel
theorem dX7_drop_32 : decode cX7_drop 32 = .ok (.iaload, 1) := by decide +kernel
theorem dX7_drop_33 : decode cX7_drop 33 = .ok (.if_icmp .ge 95, 3) := by decide +kernel
theorem dX7_drop_36 : decode cX7_drop 36 = .ok (.sipush 301, 3) := by decide +kernel
theorem dX7_drop_39 : decode cX7_drop 39 = .ok (.istore_n 3, 1) := by decide +kernel
theorem dX7_drop_40 : decode cX7_drop 40 = .ok (.iload_n 3, 1) := by decide +kernel
theorem dX7_drop_41 : decode cX7_drop 41 = .ok (.sipush 361, 3) := by decide +kernel
theorem dX7_drop_44 : decode cX7_drop 44 = .ok (.if_icmp .gt 27, 3) := by decide +kernel
theorem dX7_drop_47 : decode cX7_drop 47 = .ok (.aload_n 0, 1) := by decide +kernel
theorem dX7_drop_48 : decode cX7_drop 48 = .ok (.getfield 7, 3) := by decide +kernel
theorem dX7_drop_51 : decode cX7_drop 51 = .ok (.iload_n 3, 1) := by decide +kernel
theorem dX7_drop_52 : decode cX7_drop 52 = .ok (.iload_n 2, 1) := by decide +kernel
theorem dX7_drop_53 : decode cX7_drop 53 = .ok (.iadd, 1) := by decide +kernel
theorem dX7_drop_54 : decode cX7_drop 54 = .ok (.aload_n 0, 1) := by decide +kernel
theorem dX7_drop_55 : decode cX7_drop 55 = .ok (.getfield 7, 3) := by decide +kernel
theorem dX7_drop_58 : decode cX7_drop 58 = .ok (.iload_n 3, 1) := by decide +kernel
theorem dX7_drop_59 : decode cX7_drop 59 = .ok (.iload_n 2, 1) := by decide +kernel
theorem dX7_drop_60 : decode cX7_drop 60 = .ok (.iadd, 1) := by decide +kernel
theorem dX7_drop_61 : decode cX7_drop 61 = .ok (.iconst 1, 1) := by decide +kernel
theorem dX7_drop_62 : decode cX7_drop 62 = .ok (.iadd, 1) := by decide +kernel
theorem dX7_drop_63 : decode cX7_drop 63 = .ok (.iaload, 1) := by decide +kernel
theorem dX7_drop_64 : decode cX7_drop 64 = .ok (.iastore, 1) := by decide +kernel
theorem dX7_drop_65 : decode cX7_drop 65 = .ok (.iinc 3 20, 3) := by decide +kernel
theorem dX7_drop_68 : decode cX7_drop 68 = .ok (.goto (-28), 3) := by decide +kernel
theorem dX7_drop_71 : decode cX7_drop 71 = .ok (.iconst 0, 1) := by decide +kernel
theorem dX7_drop_72 : decode cX7_drop 72 = .ok (.istore_n 3, 1) := by decide +kernel
theorem dX7_drop_73 : decode cX7_drop 73 = .ok (.iload_n 3, 1) := by decide +kernel
theorem dX7_drop_74 : decode cX7_drop 74 = .ok (.sipush 301, 3) := by decide +kernel
theorem dX7_drop_77 : decode cX7_drop 77 = .ok (.if_icmp .ge 45, 3) := by decide +kernel
theorem dX7_drop_80 : decode cX7_drop 80 = .ok (.aload_n 0, 1) := by decide +kernel
theorem dX7_drop_81 : decode cX7_drop 81 = .ok (.getfield 7, 3) := by decide +kernel
theorem dX7_drop_84 : decode cX7_drop 84 = .ok (.sipush 381, 3) := by decide +kernel
theorem dX7_drop_87 : decode cX7_drop 87 = .ok (.sipush 301, 3) := by decide +kernel
theorem dX7_drop_90 : decode cX7_drop 90 = .ok (.iload_n 2, 1) := by decide +kernel
theorem dX7_drop_91 : decode cX7_drop 91 = .ok (.imul, 1) := by decide +kernel
theorem dX7_drop_92 : decode cX7_drop 92 = .ok (.iadd, 1) := by decide +kernel
theorem dX7_drop_93 : decode cX7_drop 93 = .ok (.iload_n 3, 1) := by decide +kernel
theorem dX7_drop_94 : decode cX7_drop 94 = .ok (.iadd, 1) := by decide +kernel
theorem dX7_drop_95 : decode cX7_drop 95 = .ok (.aload_n 0, 1) := by decide +kernel
theorem dX7_drop_96 : decode cX7_drop 96 = .ok (.getfield 7, 3) := by decide +kernel
theorem dX7_drop_99 : decode cX7_drop 99 = .ok (.sipush 381, 3) := by decide +kernel
theorem dX7_drop_102 : decode cX7_drop 102 = .ok (.sipush 301, 3) := by decide +kernel
theorem dX7_drop_105 : decode cX7_drop 105 = .ok (.iload_n 2, 1) := by decide +kernel
theorem dX7_drop_106 : decode cX7_drop 106 = .ok (.imul, 1) := by decide +kernel
theorem dX7_drop_107 : decode cX7_drop 107 = .ok (.iadd, 1) := by decide +kernel
theorem dX7_drop_108 : decode cX7_drop 108 = .ok (.sipush 301, 3) := by decide +kernel
theorem dX7_drop_111 : decode cX7_drop 111 = .ok (.iadd, 1) := by decide +kernel
theorem dX7_drop_112 : decode cX7_drop 112 = .ok (.iload_n 3, 1) := by decide +kernel
theorem dX7_drop_113 : decode cX7_drop 113 = .ok (.iadd, 1) := by decide +kernel
theorem dX7_drop_114 : decode cX7_drop 114 = .ok (.iaload, 1) := by decide +kernel
theorem dX7_drop_115 : decode cX7_drop 115 = .ok (.iastore, 1) := by decide +kernel
theorem dX7_drop_116 : decode cX7_drop 116 = .ok (.iinc 3 1, 3) := by decide +kernel
theorem dX7_drop_119 : decode cX7_drop 119 = .ok (.goto (-46), 3) := by decide +kernel
theorem dX7_drop_122 : decode cX7_drop 122 = .ok (.iinc 2 1, 3) := by decide +kernel
theorem dX7_drop_125 : decode cX7_drop 125 = .ok (.goto (-101), 3) := by decide +kernel
theorem dX7_drop_128 : decode cX7_drop 128 = .ok (.aload_n 0, 1) := by decide +kernel
theorem dX7_drop_129 : decode cX7_drop 129 = .ok (.getfield 7, 3) := by decide +kernel
theorem dX7_drop_132 : decode cX7_drop 132 = .ok (.sipush 6423, 3) := by decide +kernel
theorem dX7_drop_135 : decode cX7_drop 135 = .ok (.iaload, 1) := by decide +kernel
theorem dX7_drop_136 : decode cX7_drop 136 = .ok (.ireturn, 1) := by decide +kernel
theorem dX7_place_0 : decode cX7_place 0 = .ok (.aload_n 0, 1) := by decide +kernel
theorem dX7_place_1 : decode cX7_place 1 = .ok (.iload_n 1, 1) := by decide +kernel
theorem dX7_place_2 : decode cX7_place 2 = .ok (.invokevirtual 86, 3) := by decide +kernel
theorem dX7_place_5 : decode cX7_place 5 = .ok (.ifCond .ne 5, 3) := by decide +kernel
theorem dX7_place_8 : decode cX7_place 8 = .ok (.iconst (-1), 1) := by decide +kernel
theorem dX7_place_9 : decode cX7_place 9 = .ok (.ireturn, 1) := by decide +kernel
theorem dX7_place_10 : decode cX7_place 10 = .ok (.iload_n 2, 1) := by decide +kernel
theorem dX7_place_11 : decode cX7_place 11 = .ok (.invokestatic 60, 3) := by decide +kernel
theorem dX7_place_14 : decode cX7_place 14 = .ok (.ifCond .ne 6, 3) := by decide +kernel
theorem dX7_place_17 : decode cX7_place 17 = .ok (.bipush (-2), 2) := by decide +kernel
theorem dX7_place_19 : decode cX7_place 19 = .ok (.ireturn, 1) := by decide +kernel
theorem dX7_place_20 : decode cX7_place 20 = .ok (.aload_n 0, 1) := by decide +kernel
theorem dX7_place_21 : decode cX7_place 21 = .ok (.invokevirtual 72, 3) := by decide +kernel
theorem dX7_place_24 : decode cX7_place 24 = .ok (.sipush 10000, 3) := by decide +kernel
theorem dX7_place_27 : decode cX7_place 27 = .ok (.aload_n 0, 1) := by decide +kernel
theorem dX7_place_28 : decode cX7_place 28 = .ok (.iload_n 1, 1) := by decide +kernel
theorem dX7_place_29 : decode cX7_place 29 = .ok (.iload_n 2, 1) := by decide +kernel
theorem dX7_place_30 : decode cX7_place 30 = .ok (.invokevirtual 75, 3) := by decide +kernel
theorem dX7_place_33 : decode cX7_place 33 = .ok (.iadd, 1) := by decide +kernel
theorem dX7_place_34 : decode cX7_place 34 = .ok (.ireturn, 1) := by decide +kernel
theorem dX7_seenOf_0 : decode cX7_seenOf 0 = .ok (.iconst 0, 1) := by decide +kernel
theorem dX7_seenOf_1 : decode cX7_seenOf 1 = .ok (.istore_n 2, 1) := by decide +kernel
theorem dX7_seenOf_2 : decode cX7_seenOf 2 = .ok (.iconst 0, 1) := by decide +kernel
theorem dX7_seenOf_3 : decode cX7_seenOf 3 = .ok (.istore_n 3, 1) := by decide +kernel
theorem dX7_seenOf_4 : decode cX7_seenOf 4 = .ok (.iload_n 3, 1) := by decide +kernel
theorem dX7_seenOf_5 : decode cX7_seenOf 5 = .ok (.sipush 301, 3) := by decide +kernel
theorem dX7_seenOf_8 : decode cX7_seenOf 8 = .ok (.if_icmp .ge 26, 3) := by decide +kernel
theorem dX7_seenOf_11 : decode cX7_seenOf 11 = .ok (.iload_n 2, 1) := by decide +kernel
theorem dX7_seenOf_12 : decode cX7_seenOf 12 = .ok (.aload_n 0, 1) := by decide +kernel
theorem dX7_seenOf_13 : decode cX7_seenOf 13 = .ok (.iload_n 1, 1) := by decide +kernel
theorem dX7_seenOf_14 : decode cX7_seenOf 14 = .ok (.iload_n 3, 1) := by decide +kernel
theorem dX7_seenOf_15 : decode cX7_seenOf 15 = .ok (.invokevirtual 82, 3) := by decide +kernel
theorem dX7_seenOf_18 : decode cX7_seenOf 18 = .ok (.ifCond .eq 7, 3) := by decide +kernel
theorem dX7_seenOf_21 : decode cX7_seenOf 21 = .ok (.iconst 1, 1) := by decide +kernel
theorem dX7_seenOf_22 : decode cX7_seenOf 22 = .ok (.goto 4, 3) := by decide +kernel
theorem dX7_seenOf_25 : decode cX7_seenOf 25 = .ok (.iconst 0, 1) := by decide +kernel
theorem dX7_seenOf_26 : decode cX7_seenOf 26 = .ok (.iadd, 1) := by decide +kernel
theorem dX7_seenOf_27 : decode cX7_seenOf 27 = .ok (.istore_n 2, 1) := by decide +kernel
theorem dX7_seenOf_28 : decode cX7_seenOf 28 = .ok (.iinc 3 1, 3) := by decide +kernel
theorem dX7_seenOf_31 : decode cX7_seenOf 31 = .ok (.goto (-27), 3) := by decide +kernel
theorem dX7_seenOf_34 : decode cX7_seenOf 34 = .ok (.iload_n 2, 1) := by decide +kernel
theorem dX7_seenOf_35 : decode cX7_seenOf 35 = .ok (.ireturn, 1) := by decide +kernel
theorem dX7_reach_0 : decode cX7_reach 0 = .ok (.iload_n 1, 1) := by decide +kernel
theorem dX7_reach_1 : decode cX7_reach 1 = .ok (.invokestatic 89, 3) := by decide +kernel
theorem dX7_reach_4 : decode cX7_reach 4 = .ok (.ifCond .ne 5, 3) := by decide +kernel
theorem dX7_reach_7 : decode cX7_reach 7 = .ok (.iconst (-1), 1) := by decide +kernel
theorem dX7_reach_8 : decode cX7_reach 8 = .ok (.ireturn, 1) := by decide +kernel
theorem dX7_reach_9 : decode cX7_reach 9 = .ok (.iload_n 2, 1) := by decide +kernel
theorem dX7_reach_10 : decode cX7_reach 10 = .ok (.iconst 0, 1) := by decide +kernel
theorem dX7_reach_11 : decode cX7_reach 11 = .ok (.sipush 999, 3) := by decide +kernel
theorem dX7_reach_14 : decode cX7_reach 14 = .ok (.invokestatic 56, 3) := by decide +kernel
theorem dX7_reach_17 : decode cX7_reach 17 = .ok (.ifCond .eq 19, 3) := by decide +kernel
theorem dX7_reach_20 : decode cX7_reach 20 = .ok (.iload_n 3, 1) := by decide +kernel
theorem dX7_reach_21 : decode cX7_reach 21 = .ok (.iconst 0, 1) := by decide +kernel
theorem dX7_reach_22 : decode cX7_reach 22 = .ok (.sipush 999, 3) := by decide +kernel
theorem dX7_reach_25 : decode cX7_reach 25 = .ok (.invokestatic 56, 3) := by decide +kernel
theorem dX7_reach_28 : decode cX7_reach 28 = .ok (.ifCond .eq 8, 3) := by decide +kernel
theorem dX7_reach_31 : decode cX7_reach 31 = .ok (.iload_n 2, 1) := by decide +kernel
theorem dX7_reach_32 : decode cX7_reach 32 = .ok (.iload_n 3, 1) := by decide +kernel
theorem dX7_reach_33 : decode cX7_reach 33 = .ok (.if_icmp .le 6, 3) := by decide +kernel
theorem dX7_reach_36 : decode cX7_reach 36 = .ok (.bipush (-2), 2) := by decide +kernel
theorem dX7_reach_38 : decode cX7_reach 38 = .ok (.ireturn, 1) := by decide +kernel
theorem dX7_reach_39 : decode cX7_reach 39 = .ok (.iconst 0, 1) := by decide +kernel
theorem dX7_reach_40 : decode cX7_reach 40 = .ok (.istore 4, 2) := by decide +kernel
theorem dX7_reach_42 : decode cX7_reach 42 = .ok (.iload 4, 2) := by decide +kernel
theorem dX7_reach_44 : decode cX7_reach 44 = .ok (.iconst 4, 1) := by decide +kernel
theorem dX7_reach_45 : decode cX7_reach 45 = .ok (.if_icmp .ge 48, 3) := by decide +kernel
theorem dX7_reach_48 : decode cX7_reach 48 = .ok (.iload 4, 2) := by decide +kernel
theorem dX7_reach_50 : decode cX7_reach 50 = .ok (.iload_n 1, 1) := by decide +kernel
theorem dX7_reach_51 : decode cX7_reach 51 = .ok (.if_icmp .eq 36, 3) := by decide +kernel
theorem dX7_reach_54 : decode cX7_reach 54 = .ok (.aload_n 0, 1) := by decide +kernel
theorem dX7_reach_55 : decode cX7_reach 55 = .ok (.getfield 7, 3) := by decide +kernel
theorem dX7_reach_58 : decode cX7_reach 58 = .ok (.sipush 6401, 3) := by decide +kernel
theorem dX7_reach_61 : decode cX7_reach 61 = .ok (.iload 4, 2) := by decide +kernel
theorem dX7_reach_63 : decode cX7_reach 63 = .ok (.iadd, 1) := by decide +kernel
theorem dX7_reach_64 : decode cX7_reach 64 = .ok (.iaload, 1) := by decide +kernel
theorem dX7_reach_65 : decode cX7_reach 65 = .ok (.iload_n 3, 1) := by decide +kernel
theorem dX7_reach_66 : decode cX7_reach 66 = .ok (.if_icmp .gt 21, 3) := by decide +kernel
theorem dX7_reach_69 : decode cX7_reach 69 = .ok (.iload_n 2, 1) := by decide +kernel
theorem dX7_reach_70 : decode cX7_reach 70 = .ok (.aload_n 0, 1) := by decide +kernel
theorem dX7_reach_71 : decode cX7_reach 71 = .ok (.getfield 7, 3) := by decide +kernel
theorem dX7_reach_74 : decode cX7_reach 74 = .ok (.sipush 6405, 3) := by decide +kernel
theorem dX7_reach_77 : decode cX7_reach 77 = .ok (.iload 4, 2) := by decide +kernel
theorem dX7_reach_79 : decode cX7_reach 79 = .ok (.iadd, 1) := by decide +kernel
theorem dX7_reach_80 : decode cX7_reach 80 = .ok (.iaload, 1) := by decide +kernel
theorem dX7_reach_81 : decode cX7_reach 81 = .ok (.if_icmp .gt 6, 3) := by decide +kernel
theorem dX7_reach_84 : decode cX7_reach 84 = .ok (.bipush (-5), 2) := by decide +kernel
theorem dX7_reach_86 : decode cX7_reach 86 = .ok (.ireturn, 1) := by decide +kernel
theorem dX7_reach_87 : decode cX7_reach 87 = .ok (.iinc 4 1, 3) := by decide +kernel
theorem dX7_reach_90 : decode cX7_reach 90 = .ok (.goto (-48), 3) := by decide +kernel
theorem dX7_reach_93 : decode cX7_reach 93 = .ok (.aload_n 0, 1) := by decide +kernel
theorem dX7_reach_94 : decode cX7_reach 94 = .ok (.getfield 7, 3) := by decide +kernel
theorem dX7_reach_97 : decode cX7_reach 97 = .ok (.sipush 6401, 3) := by decide +kernel
theorem dX7_reach_100 : decode cX7_reach 100 = .ok (.iload_n 1, 1) := by decide +kernel
theorem dX7_reach_101 : decode cX7_reach 101 = .ok (.iadd, 1) := by decide +kernel
theorem dX7_reach_102 : decode cX7_reach 102 = .ok (.iload_n 2, 1) := by decide +kernel
theorem dX7_reach_103 : decode cX7_reach 103 = .ok (.iastore, 1) := by decide +kernel
theorem dX7_reach_104 : decode cX7_reach 104 = .ok (.aload_n 0, 1) := by decide +kernel
theorem dX7_reach_105 : decode cX7_reach 105 = .ok (.getfield 7, 3) := by decide +kernel
theorem dX7_reach_108 : decode cX7_reach 108 = .ok (.sipush 6405, 3) := by decide +kernel
theorem dX7_reach_111 : decode cX7_reach 111 = .ok (.iload_n 1, 1) := by decide +kernel
theorem dX7_reach_112 : decode cX7_reach 112 = .ok (.iadd, 1) := by decide +kernel
theorem dX7_reach_113 : decode cX7_reach 113 = .ok (.iload_n 3, 1) := by decide +kernel
theorem dX7_reach_114 : decode cX7_reach 114 = .ok (.iastore, 1) := by decide +kernel
theorem dX7_reach_115 : decode cX7_reach 115 = .ok (.iconst 1, 1) := by decide +kernel
theorem dX7_reach_116 : decode cX7_reach 116 = .ok (.ireturn, 1) := by decide +kernel
theorem dX7_beat_0 : decode cX7_beat 0 = .ok (.iload_n 1, 1) := by decide +kernel
theorem dX7_beat_1 : decode cX7_beat 1 = .ok (.invokestatic 89, 3) := by decide +kernel
theorem dX7_beat_4 : decode cX7_beat 4 = .ok (.ifCond .ne 5, 3) := by decide +kernel
theorem dX7_beat_7 : decode cX7_beat 7 = .ok (.iconst (-1), 1) := by decide +kernel
theorem dX7_beat_8 : decode cX7_beat 8 = .ok (.ireturn, 1) := by decide +kernel
theorem dX7_beat_9 : decode cX7_beat 9 = .ok (.iload_n 2, 1) := by decide +kernel
theorem dX7_beat_10 : decode cX7_beat 10 = .ok (.iconst 1, 1) := by decide +kernel
theorem dX7_beat_11 : decode cX7_beat 11 = .ok (.bipush 20, 2) := by decide +kernel
theorem dX7_beat_13 : decode cX7_beat 13 = .ok (.invokestatic 56, 3) := by decide +kernel
theorem dX7_beat_16 : decode cX7_beat 16 = .ok (.ifCond .eq 14, 3) := by decide +kernel
theorem dX7_beat_19 : decode cX7_beat 19 = .ok (.iload_n 3, 1) := by decide +kernel
theorem dX7_beat_20 : decode cX7_beat 20 = .ok (.iconst 0, 1) := by decide +kernel
theorem dX7_beat_21 : decode cX7_beat 21 = .ok (.iload_n 2, 1) := by decide +kernel
theorem dX7_beat_22 : decode cX7_beat 22 = .ok (.iconst 1, 1) := by decide +kernel
theorem dX7_beat_23 : decode cX7_beat 23 = .ok (.isub, 1) := by decide +kernel
theorem dX7_beat_24 : decode cX7_beat 24 = .ok (.invokestatic 56, 3) := by decide +kernel
theorem dX7_beat_27 : decode cX7_beat 27 = .ok (.ifCond .ne 6, 3) := by decide +kernel
theorem dX7_beat_30 : decode cX7_beat 30 = .ok (.bipush (-2), 2) := by decide +kernel
theorem dX7_beat_32 : decode cX7_beat 32 = .ok (.ireturn, 1) := by decide +kernel
theorem dX7_beat_33 : decode cX7_beat 33 = .ok (.aload_n 0, 1) := by decide +kernel
theorem dX7_beat_34 : decode cX7_beat 34 = .ok (.getfield 7, 3) := by decide +kernel
theorem dX7_beat_37 : decode cX7_beat 37 = .ok (.sipush 6409, 3) := by decide +kernel
theorem dX7_beat_40 : decode cX7_beat 40 = .ok (.iload_n 1, 1) := by decide +kernel
theorem dX7_beat_41 : decode cX7_beat 41 = .ok (.iadd, 1) := by decide +kernel
theorem dX7_beat_42 : decode cX7_beat 42 = .ok (.iload_n 2, 1) := by decide +kernel
theorem dX7_beat_43 : decode cX7_beat 43 = .ok (.iastore, 1) := by decide +kernel
theorem dX7_beat_44 : decode cX7_beat 44 = .ok (.aload_n 0, 1) := by decide +kernel
theorem dX7_beat_45 : decode cX7_beat 45 = .ok (.getfield 7, 3) := by decide +kernel
theorem dX7_beat_48 : decode cX7_beat 48 = .ok (.sipush 6413, 3) := by decide +kernel
theorem dX7_beat_51 : decode cX7_beat 51 = .ok (.iload_n 1, 1) := by decide +kernel
theorem dX7_beat_52 : decode cX7_beat 52 = .ok (.iadd, 1) := by decide +kernel
theorem dX7_beat_53 : decode cX7_beat 53 = .ok (.iload_n 3, 1) := by decide +kernel
theorem dX7_beat_54 : decode cX7_beat 54 = .ok (.iastore, 1) := by decide +kernel
theorem dX7_beat_55 : decode cX7_beat 55 = .ok (.iconst 1, 1) := by decide +kernel
theorem dX7_beat_56 : decode cX7_beat 56 = .ok (.ireturn, 1) := by decide +kernel
theorem dX7_lanes_0 : decode cX7_lanes 0 = .ok (.iload_n 1, 1) := by decide +kernel
theorem dX7_lanes_1 : decode cX7_lanes 1 = .ok (.invokestatic 89, 3) := by decide +kernel
theorem dX7_lanes_4 : decode cX7_lanes 4 = .ok (.ifCond .ne 5, 3) := by decide +kernel
theorem dX7_lanes_7 : decode cX7_lanes 7 = .ok (.iconst (-1), 1) := by decide +kernel
theorem dX7_lanes_8 : decode cX7_lanes 8 = .ok (.ireturn, 1) := by decide +kernel
theorem dX7_lanes_9 : decode cX7_lanes 9 = .ok (.iload_n 2, 1) := by decide +kernel
theorem dX7_lanes_10 : decode cX7_lanes 10 = .ok (.iconst 0, 1) := by decide +kernel
theorem dX7_lanes_11 : decode cX7_lanes 11 = .ok (.bipush 15, 2) := by decide +kernel
theorem dX7_lanes_13 : decode cX7_lanes 13 = .ok (.invokestatic 56, 3) := by decide +kernel
theorem dX7_lanes_16 : decode cX7_lanes 16 = .ok (.ifCond .ne 6, 3) := by decide +kernel
theorem dX7_lanes_19 : decode cX7_lanes 19 = .ok (.bipush (-2), 2) := by decide +kernel
theorem dX7_lanes_21 : decode cX7_lanes 21 = .ok (.ireturn, 1) := by decide +kernel
theorem dX7_lanes_22 : decode cX7_lanes 22 = .ok (.aload_n 0, 1) := by decide +kernel
theorem dX7_lanes_23 : decode cX7_lanes 23 = .ok (.getfield 7, 3) := by decide +kernel
theorem dX7_lanes_26 : decode cX7_lanes 26 = .ok (.sipush 6417, 3) := by decide +kernel
theorem dX7_lanes_29 : decode cX7_lanes 29 = .ok (.iload_n 1, 1) := by decide +kernel
theorem dX7_lanes_30 : decode cX7_lanes 30 = .ok (.iadd, 1) := by decide +kernel
theorem dX7_lanes_31 : decode cX7_lanes 31 = .ok (.iaload, 1) := by decide +kernel
theorem dX7_lanes_32 : decode cX7_lanes 32 = .ok (.istore_n 3, 1) := by decide +kernel
theorem dX7_lanes_33 : decode cX7_lanes 33 = .ok (.aload_n 0, 1) := by decide +kernel
theorem dX7_lanes_34 : decode cX7_lanes 34 = .ok (.getfield 7, 3) := by decide +kernel
theorem dX7_lanes_37 : decode cX7_lanes 37 = .ok (.sipush 6417, 3) := by decide +kernel
theorem dX7_lanes_40 : decode cX7_lanes 40 = .ok (.iload_n 1, 1) := by decide +kernel
theorem dX7_lanes_41 : decode cX7_lanes 41 = .ok (.iadd, 1) := by decide +kernel
theorem dX7_lanes_42 : decode cX7_lanes 42 = .ok (.iload_n 2, 1) := by decide +kernel
theorem dX7_lanes_43 : decode cX7_lanes 43 = .ok (.iastore, 1) := by decide +kernel
theorem dX7_lanes_44 : decode cX7_lanes 44 = .ok (.iload_n 3, 1) := by decide +kernel
theorem dX7_lanes_45 : decode cX7_lanes 45 = .ok (.ireturn, 1) := by decide +kernel
theorem dX7_canTake_0 : decode cX7_canTake 0 = .ok (.aload_n 0, 1) := by decide +kernel
theorem dX7_canTake_1 : decode cX7_canTake 1 = .ok (.iload_n 2, 1) := by decide +kernel
theorem dX7_canTake_2 : decode cX7_canTake 2 = .ok (.iload_n 3, 1) := by decide +kernel
theorem dX7_canTake_3 : decode cX7_canTake 3 = .ok (.invokevirtual 75, 3) := by decide +kernel
theorem dX7_canTake_6 : decode cX7_canTake 6 = .ok (.istore 4, 2) := by decide +kernel
theorem dX7_canTake_8 : decode cX7_canTake 8 = .ok (.iload_n 3, 1) := by decide +kernel
theorem dX7_canTake_9 : decode cX7_canTake 9 = .ok (.aload_n 0, 1) := by decide +kernel
theorem dX7_canTake_10 : decode cX7_canTake 10 = .ok (.getfield 7, 3) := by decide +kernel
theorem dX7_canTake_13 : decode cX7_canTake 13 = .ok (.sipush 6413, 3) := by decide +kernel
theorem dX7_canTake_16 : decode cX7_canTake 16 = .ok (.iload_n 1, 1) := by decide +kernel
theorem dX7_canTake_17 : decode cX7_canTake 17 = .ok (.iadd, 1) := by decide +kernel
theorem dX7_canTake_18 : decode cX7_canTake 18 = .ok (.iaload, 1) := by decide +kernel
theorem dX7_canTake_19 : decode cX7_canTake 19 = .ok (.isub, 1) := by decide +kernel
theorem dX7_canTake_20 : decode cX7_canTake 20 = .ok (.aload_n 0, 1) := by decide +kernel
theorem dX7_canTake_21 : decode cX7_canTake 21 = .ok (.getfield 7, 3) := by decide +kernel
theorem dX7_canTake_24 : decode cX7_canTake 24 = .ok (.sipush 6409, 3) := by decide +kernel
theorem dX7_canTake_27 : decode cX7_canTake 27 = .ok (.iload_n 1, 1) := by decide +kernel
theorem dX7_canTake_28 : decode cX7_canTake 28 = .ok (.iadd, 1) := by decide +kernel
theorem dX7_canTake_29 : decode cX7_canTake 29 = .ok (.iaload, 1) := by decide +kernel
theorem dX7_canTake_30 : decode cX7_canTake 30 = .ok (.irem, 1) := by decide +kernel
theorem dX7_canTake_31 : decode cX7_canTake 31 = .ok (.ifCond .ne 7, 3) := by decide +kernel
theorem dX7_canTake_34 : decode cX7_canTake 34 = .ok (.iconst 1, 1) := by decide +kernel
theorem dX7_canTake_35 : decode cX7_canTake 35 = .ok (.goto 4, 3) := by decide +kernel
theorem dX7_canTake_38 : decode cX7_canTake 38 = .ok (.iconst 0, 1) := by decide +kernel
theorem dX7_canTake_39 : decode cX7_canTake 39 = .ok (.istore 5, 2) := by decide +kernel
theorem dX7_canTake_41 : decode cX7_canTake 41 = .ok (.aload_n 0, 1) := by decide +kernel
theorem dX7_canTake_42 : decode cX7_canTake 42 = .ok (.getfield 7, 3) := by decide +kernel
theorem dX7_canTake_45 : decode cX7_canTake 45 = .ok (.sipush 6417, 3) := by decide +kernel
theorem dX7_canTake_48 : decode cX7_canTake 48 = .ok (.iload_n 1, 1) := by decide +kernel
theorem dX7_canTake_49 : decode cX7_canTake 49 = .ok (.iadd, 1) := by decide +kernel
theorem dX7_canTake_50 : decode cX7_canTake 50 = .ok (.iaload, 1) := by decide +kernel
theorem dX7_canTake_51 : decode cX7_canTake 51 = .ok (.aload_n 0, 1) := by decide +kernel
theorem dX7_canTake_52 : decode cX7_canTake 52 = .ok (.getfield 7, 3) := by decide +kernel
theorem dX7_canTake_55 : decode cX7_canTake 55 = .ok (.sipush 321, 3) := by decide +kernel
theorem dX7_canTake_58 : decode cX7_canTake 58 = .ok (.iload_n 2, 1) := by decide +kernel
theorem dX7_canTake_59 : decode cX7_canTake 59 = .ok (.iadd, 1) := by decide +kernel
theorem dX7_canTake_60 : decode cX7_canTake 60 = .ok (.iaload, 1) := by decide +kernel
theorem dX7_canTake_61 : decode cX7_canTake 61 = .ok (.ishr, 1) := by decide +kernel
theorem dX7_canTake_62 : decode cX7_canTake 62 = .ok (.iconst 1, 1) := by decide +kernel
theorem dX7_canTake_63 : decode cX7_canTake 63 = .ok (.iand, 1) := by decide +kernel
theorem dX7_canTake_64 : decode cX7_canTake 64 = .ok (.iconst 1, 1) := by decide +kernel
theorem dX7_canTake_65 : decode cX7_canTake 65 = .ok (.if_icmp .ne 7, 3) := by decide +kernel
theorem dX7_canTake_68 : decode cX7_canTake 68 = .ok (.iconst 1, 1) := by decide +kernel
theorem dX7_canTake_69 : decode cX7_canTake 69 = .ok (.goto 4, 3) := by decide +kernel
theorem dX7_canTake_72 : decode cX7_canTake 72 = .ok (.iconst 0, 1) := by decide +kernel
theorem dX7_canTake_73 : decode cX7_canTake 73 = .ok (.istore 6, 2) := by decide +kernel
theorem dX7_canTake_75 : decode cX7_canTake 75 = .ok (.iload 5, 2) := by decide +kernel
theorem dX7_canTake_77 : decode cX7_canTake 77 = .ok (.ifCond .eq 54, 3) := by decide +kernel
theorem dX7_canTake_80 : decode cX7_canTake 80 = .ok (.iload 6, 2) := by decide +kernel
theorem dX7_canTake_82 : decode cX7_canTake 82 = .ok (.ifCond .eq 49, 3) := by decide +kernel
theorem dX7_canTake_85 : decode cX7_canTake 85 = .ok (.iload_n 3, 1) := by decide +kernel
theorem dX7_canTake_86 : decode cX7_canTake 86 = .ok (.aload_n 0, 1) := by decide +kernel
theorem dX7_canTake_87 : decode cX7_canTake 87 = .ok (.getfield 7, 3) := by decide +kernel
theorem dX7_canTake_90 : decode cX7_canTake 90 = .ok (.sipush 301, 3) := by decide +kernel
theorem dX7_canTake_93 : decode cX7_canTake 93 = .ok (.iload_n 2, 1) := by decide +kernel
theorem dX7_canTake_94 : decode cX7_canTake 94 = .ok (.iadd, 1) := by decide +kernel
theorem dX7_canTake_95 : decode cX7_canTake 95 = .ok (.iaload, 1) := by decide +kernel
theorem dX7_canTake_96 : decode cX7_canTake 96 = .ok (.if_icmp .le 35, 3) := by decide +kernel
theorem dX7_canTake_99 : decode cX7_canTake 99 = .ok (.iload 4, 2) := by decide +kernel
theorem dX7_canTake_101 : decode cX7_canTake 101 = .ok (.aload_n 0, 1) := by decide +kernel
theorem dX7_canTake_102 : decode cX7_canTake 102 = .ok (.getfield 7, 3) := by decide +kernel
theorem dX7_canTake_105 : decode cX7_canTake 105 = .ok (.sipush 6401, 3) := by decide +kernel
theorem dX7_canTake_108 : decode cX7_canTake 108 = .ok (.iload_n 1, 1) := by decide +kernel
theorem dX7_canTake_109 : decode cX7_canTake 109 = .ok (.iadd, 1) := by decide +kernel
theorem dX7_canTake_110 : decode cX7_canTake 110 = .ok (.iaload, 1) := by decide +kernel
theorem dX7_canTake_111 : decode cX7_canTake 111 = .ok (.aload_n 0, 1) := by decide +kernel
theorem dX7_canTake_112 : decode cX7_canTake 112 = .ok (.getfield 7, 3) := by decide +kernel
theorem dX7_canTake_115 : decode cX7_canTake 115 = .ok (.sipush 6405, 3) := by decide +kernel
theorem dX7_canTake_118 : decode cX7_canTake 118 = .ok (.iload_n 1, 1) := by decide +kernel
theorem dX7_canTake_119 : decode cX7_canTake 119 = .ok (.iadd, 1) := by decide +kernel
theorem dX7_canTake_120 : decode cX7_canTake 120 = .ok (.iaload, 1) := by decide +kernel
theorem dX7_canTake_121 : decode cX7_canTake 121 = .ok (.invokestatic 56, 3) := by decide +kernel
theorem dX7_canTake_124 : decode cX7_canTake 124 = .ok (.ifCond .eq 7, 3) := by decide +kernel
theorem dX7_canTake_127 : decode cX7_canTake 127 = .ok (.iconst 1, 1) := by decide +kernel
theorem dX7_canTake_128 : decode cX7_canTake 128 = .ok (.goto 4, 3) := by decide +kernel
theorem dX7_canTake_131 : decode cX7_canTake 131 = .ok (.iconst 0, 1) := by decide +kernel
theorem dX7_canTake_132 : decode cX7_canTake 132 = .ok (.ireturn, 1) := by decide +kernel
theorem dX7_can_0 : decode cX7_can 0 = .ok (.iload_n 1, 1) := by decide +kernel
theorem dX7_can_1 : decode cX7_can 1 = .ok (.invokestatic 89, 3) := by decide +kernel
theorem dX7_can_4 : decode cX7_can 4 = .ok (.ifCond .eq 11, 3) := by decide +kernel
theorem dX7_can_7 : decode cX7_can 7 = .ok (.aload_n 0, 1) := by decide +kernel
theorem dX7_can_8 : decode cX7_can 8 = .ok (.iload_n 2, 1) := by decide +kernel
theorem dX7_can_9 : decode cX7_can 9 = .ok (.invokevirtual 86, 3) := by decide +kernel
theorem dX7_can_12 : decode cX7_can 12 = .ok (.ifCond .ne 5, 3) := by decide +kernel
theorem dX7_can_15 : decode cX7_can 15 = .ok (.iconst (-1), 1) := by decide +kernel
theorem dX7_can_16 : decode cX7_can 16 = .ok (.ireturn, 1) := by decide +kernel
theorem dX7_can_17 : decode cX7_can 17 = .ok (.iload_n 3, 1) := by decide +kernel
theorem dX7_can_18 : decode cX7_can 18 = .ok (.invokestatic 60, 3) := by decide +kernel
theorem dX7_can_21 : decode cX7_can 21 = .ok (.ifCond .ne 6, 3) := by decide +kernel
theorem dX7_can_24 : decode cX7_can 24 = .ok (.bipush (-2), 2) := by decide +kernel
theorem dX7_can_26 : decode cX7_can 26 = .ok (.ireturn, 1) := by decide +kernel
theorem dX7_can_27 : decode cX7_can 27 = .ok (.aload_n 0, 1) := by decide +kernel
theorem dX7_can_28 : decode cX7_can 28 = .ok (.invokevirtual 72, 3) := by decide +kernel
theorem dX7_can_31 : decode cX7_can 31 = .ok (.aload_n 0, 1) := by decide +kernel
theorem dX7_can_32 : decode cX7_can 32 = .ok (.iload_n 1, 1) := by decide +kernel
theorem dX7_can_33 : decode cX7_can 33 = .ok (.iload_n 2, 1) := by decide +kernel
theorem dX7_can_34 : decode cX7_can 34 = .ok (.iload_n 3, 1) := by decide +kernel
theorem dX7_can_35 : decode cX7_can 35 = .ok (.invokevirtual 92, 3) := by decide +kernel
theorem dX7_can_38 : decode cX7_can 38 = .ok (.ifCond .eq 7, 3) := by decide +kernel
theorem dX7_can_41 : decode cX7_can 41 = .ok (.iconst 1, 1) := by decide +kernel
theorem dX7_can_42 : decode cX7_can 42 = .ok (.goto 4, 3) := by decide +kernel
theorem dX7_can_45 : decode cX7_can 45 = .ok (.iconst 0, 1) := by decide +kernel
theorem dX7_can_46 : decode cX7_can 46 = .ok (.ireturn, 1) := by decide +kernel
theorem dX7_layArms_0 : decode cX7_layArms 0 = .ok (.aload_n 0, 1) := by decide +kernel
theorem dX7_layArms_1 : decode cX7_layArms 1 = .ok (.invokevirtual 72, 3) := by decide +kernel
theorem dX7_layArms_4 : decode cX7_layArms 4 = .ok (.iconst 0, 1) := by decide +kernel
theorem dX7_layArms_5 : decode cX7_layArms 5 = .ok (.istore_n 2, 1) := by decide +kernel
theorem dX7_layArms_6 : decode cX7_layArms 6 = .ok (.iload_n 2, 1) := by decide +kernel
theorem dX7_layArms_7 : decode cX7_layArms 7 = .ok (.aload_n 0, 1) := by decide +kernel
theorem dX7_layArms_8 : decode cX7_layArms 8 = .ok (.getfield 7, 3) := by decide +kernel
theorem dX7_layArms_11 : decode cX7_layArms 11 = .ok (.sipush 6423, 3) := by decide +kernel
theorem dX7_layArms_14 : decode cX7_layArms 14 = .ok (.iaload, 1) := by decide +kernel
theorem dX7_layArms_15 : decode cX7_layArms 15 = .ok (.if_icmp .ge 83, 3) := by decide +kernel
theorem dX7_layArms_18 : decode cX7_layArms 18 = .ok (.iconst 0, 1) := by decide +kernel
theorem dX7_layArms_19 : decode cX7_layArms 19 = .ok (.istore_n 3, 1) := by decide +kernel
theorem dX7_layArms_20 : decode cX7_layArms 20 = .ok (.iload_n 3, 1) := by decide +kernel
theorem dX7_layArms_21 : decode cX7_layArms 21 = .ok (.sipush 301, 3) := by decide +kernel
theorem dX7_layArms_24 : decode cX7_layArms 24 = .ok (.if_icmp .ge 68, 3) := by decide +kernel
theorem dX7_layArms_27 : decode cX7_layArms 27 = .ok (.bipush (-6), 2) := by decide +kernel
theorem dX7_layArms_29 : decode cX7_layArms 29 = .ok (.istore 4, 2) := by decide +kernel
theorem dX7_layArms_31 : decode cX7_layArms 31 = .ok (.iconst 0, 1) := by decide +kernel
theorem dX7_layArms_32 : decode cX7_layArms 32 = .ok (.istore 5, 2) := by decide +kernel
theorem dX7_layArms_34 : decode cX7_layArms 34 = .ok (.iload 5, 2) := by decide +kernel
theorem dX7_layArms_36 : decode cX7_layArms 36 = .ok (.iconst 4, 1) := by decide +kernel
theorem dX7_layArms_37 : decode cX7_layArms 37 = .ok (.if_icmp .ge 35, 3) := by decide +kernel
theorem dX7_layArms_40 : decode cX7_layArms 40 = .ok (.iload 5, 2) := by decide +kernel
theorem dX7_layArms_42 : decode cX7_layArms 42 = .ok (.iload_n 1, 1) := by decide +kernel
theorem dX7_layArms_43 : decode cX7_layArms 43 = .ok (.if_icmp .eq 19, 3) := by decide +kernel
theorem dX7_layArms_46 : decode cX7_layArms 46 = .ok (.aload_n 0, 1) := by decide +kernel
theorem dX7_layArms_47 : decode cX7_layArms 47 = .ok (.iload 5, 2) := by decide +kernel
theorem dX7_layArms_49 : decode cX7_layArms 49 = .ok (.iload_n 2, 1) := by decide +kernel
theorem dX7_layArms_50 : decode cX7_layArms 50 = .ok (.iload_n 3, 1) := by decide +kernel
theorem dX7_layArms_51 : decode cX7_layArms 51 = .ok (.invokevirtual 92, 3) := by decide +kernel
theorem dX7_layArms_54 : decode cX7_layArms 54 = .ok (.ifCond .eq 8, 3) := by decide +kernel
theorem dX7_layArms_57 : decode cX7_layArms 57 = .ok (.iload 5, 2) := by decide +kernel
theorem dX7_layArms_59 : decode cX7_layArms 59 = .ok (.goto 5, 3) := by decide +kernel
theorem dX7_layArms_62 : decode cX7_layArms 62 = .ok (.iload 4, 2) := by decide +kernel
theorem dX7_layArms_64 : decode cX7_layArms 64 = .ok (.istore 4, 2) := by decide +kernel
theorem dX7_layArms_66 : decode cX7_layArms 66 = .ok (.iinc 5 1, 3) := by decide +kernel
theorem dX7_layArms_69 : decode cX7_layArms 69 = .ok (.goto (-35), 3) := by decide +kernel
theorem dX7_layArms_72 : decode cX7_layArms 72 = .ok (.aload_n 0, 1) := by decide +kernel
theorem dX7_layArms_73 : decode cX7_layArms 73 = .ok (.getfield 23, 3) := by decide +kernel
theorem dX7_layArms_76 : decode cX7_layArms 76 = .ok (.sipush 301, 3) := by decide +kernel
theorem dX7_layArms_79 : decode cX7_layArms 79 = .ok (.iload_n 2, 1) := by decide +kernel
theorem dX7_layArms_80 : decode cX7_layArms 80 = .ok (.imul, 1) := by decide +kernel
theorem dX7_layArms_81 : decode cX7_layArms 81 = .ok (.iload_n 3, 1) := by decide +kernel
theorem dX7_layArms_82 : decode cX7_layArms 82 = .ok (.iadd, 1) := by decide +kernel
theorem dX7_layArms_83 : decode cX7_layArms 83 = .ok (.iload 4, 2) := by decide +kernel
theorem dX7_layArms_85 : decode cX7_layArms 85 = .ok (.iastore, 1) := by decide +kernel
theorem dX7_layArms_86 : decode cX7_layArms 86 = .ok (.iinc 3 1, 3) := by decide +kernel
theorem dX7_layArms_89 : decode cX7_layArms 89 = .ok (.goto (-69), 3) := by decide +kernel
theorem dX7_layArms_92 : decode cX7_layArms 92 = .ok (.iinc 2 1, 3) := by decide +kernel
theorem dX7_layArms_95 : decode cX7_layArms 95 = .ok (.goto (-89), 3) := by decide +kernel
theorem dX7_layArms_98 : decode cX7_layArms 98 = .ok (.return_, 1) := by decide +kernel
theorem dX7_slot_0 : decode cX7_slot 0 = .ok (.sipush 301, 3) := by decide +kernel
theorem dX7_slot_3 : decode cX7_slot 3 = .ok (.iload_n 0, 1) := by decide +kernel
theorem dX7_slot_4 : decode cX7_slot 4 = .ok (.imul, 1) := by decide +kernel
theorem dX7_slot_5 : decode cX7_slot 5 = .ok (.iload_n 1, 1) := by decide +kernel
theorem dX7_slot_6 : decode cX7_slot 6 = .ok (.iadd, 1) := by decide +kernel
theorem dX7_slot_7 : decode cX7_slot 7 = .ok (.ireturn, 1) := by decide +kernel
theorem dX7_find_0 : decode cX7_find 0 = .ok (.iconst 0, 1) := by decide +kernel
theorem dX7_find_1 : decode cX7_find 1 = .ok (.istore_n 2, 1) := by decide +kernel
theorem dX7_find_2 : decode cX7_find 2 = .ok (.iload_n 2, 1) := by decide +kernel
theorem dX7_find_3 : decode cX7_find 3 = .ok (.sipush 1204, 3) := by decide +kernel
theorem dX7_find_6 : decode cX7_find 6 = .ok (.if_icmp .ge 17, 3) := by decide +kernel
theorem dX7_find_9 : decode cX7_find 9 = .ok (.aload_n 0, 1) := by decide +kernel
theorem dX7_find_10 : decode cX7_find 10 = .ok (.getfield 38, 3) := by decide +kernel
theorem dX7_find_13 : decode cX7_find 13 = .ok (.iload_n 2, 1) := by decide +kernel
theorem dX7_find_14 : decode cX7_find 14 = .ok (.bipush (-6), 2) := by decide +kernel
theorem dX7_find_16 : decode cX7_find 16 = .ok (.iastore, 1) := by decide +kernel
theorem dX7_find_17 : decode cX7_find 17 = .ok (.iinc 2 1, 3) := by decide +kernel
theorem dX7_find_20 : decode cX7_find 20 = .ok (.goto (-18), 3) := by decide +kernel
theorem dX7_find_23 : decode cX7_find 23 = .ok (.iconst 1, 1) := by decide +kernel
theorem dX7_find_24 : decode cX7_find 24 = .ok (.istore_n 2, 1) := by decide +kernel
theorem dX7_find_25 : decode cX7_find 25 = .ok (.aload_n 0, 1) := by decide +kernel
theorem dX7_find_26 : decode cX7_find 26 = .ok (.getfield 35, 3) := by decide +kernel
theorem dX7_find_29 : decode cX7_find 29 = .ok (.iconst 0, 1) := by decide +kernel
theorem dX7_find_30 : decode cX7_find 30 = .ok (.iload_n 1, 1) := by decide +kernel
theorem dX7_find_31 : decode cX7_find 31 = .ok (.iastore, 1) := by decide +kernel
theorem dX7_find_32 : decode cX7_find 32 = .ok (.iconst 0, 1) := by decide +kernel
theorem dX7_find_33 : decode cX7_find 33 = .ok (.istore_n 3, 1) := by decide +kernel
theorem dX7_find_34 : decode cX7_find 34 = .ok (.iload_n 3, 1) := by decide +kernel
theorem dX7_find_35 : decode cX7_find 35 = .ok (.iload_n 2, 1) := by decide +kernel
theorem dX7_find_36 : decode cX7_find 36 = .ok (.if_icmp .ge 139, 3) := by decide +kernel
theorem dX7_find_39 : decode cX7_find 39 = .ok (.aload_n 0, 1) := by decide +kernel
theorem dX7_find_40 : decode cX7_find 40 = .ok (.getfield 35, 3) := by decide +kernel
theorem dX7_find_43 : decode cX7_find 43 = .ok (.iload_n 3, 1) := by decide +kernel
theorem dX7_find_44 : decode cX7_find 44 = .ok (.iaload, 1) := by decide +kernel
theorem dX7_find_45 : decode cX7_find 45 = .ok (.istore 4, 2) := by decide +kernel
theorem dX7_find_47 : decode cX7_find 47 = .ok (.iconst 0, 1) := by decide +kernel
theorem dX7_find_48 : decode cX7_find 48 = .ok (.istore 5, 2) := by decide +kernel
theorem dX7_find_50 : decode cX7_find 50 = .ok (.iload 5, 2) := by decide +kernel
theorem dX7_find_52 : decode cX7_find 52 = .ok (.sipush 301, 3) := by decide +kernel
theorem dX7_find_55 : decode cX7_find 55 = .ok (.if_icmp .ge 114, 3) := by decide +kernel
theorem dX7_find_58 : decode cX7_find 58 = .ok (.aload_n 0, 1) := by decide +kernel
theorem dX7_find_59 : decode cX7_find 59 = .ok (.getfield 23, 3) := by decide +kernel
theorem dX7_find_62 : decode cX7_find 62 = .ok (.sipush 301, 3) := by decide +kernel
theorem dX7_find_65 : decode cX7_find 65 = .ok (.iload 4, 2) := by decide +kernel
theorem dX7_find_67 : decode cX7_find 67 = .ok (.imul, 1) := by decide +kernel
theorem dX7_find_68 : decode cX7_find 68 = .ok (.iload 5, 2) := by decide +kernel
theorem dX7_find_70 : decode cX7_find 70 = .ok (.iadd, 1) := by decide +kernel
theorem dX7_find_71 : decode cX7_find 71 = .ok (.iaload, 1) := by decide +kernel
theorem dX7_find_72 : decode cX7_find 72 = .ok (.istore 6, 2) := by decide +kernel
theorem dX7_find_74 : decode cX7_find 74 = .ok (.iload 6, 2) := by decide +kernel
theorem dX7_find_76 : decode cX7_find 76 = .ok (.ifCond .ge 7, 3) := by decide +kernel
theorem dX7_find_79 : decode cX7_find 79 = .ok (.iconst 0, 1) := by decide +kernel
theorem dX7_find_80 : decode cX7_find 80 = .ok (.goto 10, 3) := by decide +kernel
theorem dX7_find_83 : decode cX7_find 83 = .ok (.iload 6, 2) := by decide +kernel
theorem dX7_find_85 : decode cX7_find 85 = .ok (.iload 5, 2) := by decide +kernel
theorem dX7_find_87 : decode cX7_find 87 = .ok (.invokestatic 95, 3) := by decide +kernel
theorem dX7_find_90 : decode cX7_find 90 = .ok (.istore 7, 2) := by decide +kernel
theorem dX7_find_92 : decode cX7_find 92 = .ok (.iload 6, 2) := by decide +kernel
theorem dX7_find_94 : decode cX7_find 94 = .ok (.ifCond .lt 69, 3) := by decide +kernel
theorem dX7_find_97 : decode cX7_find 97 = .ok (.aload_n 0, 1) := by decide +kernel
theorem dX7_find_98 : decode cX7_find 98 = .ok (.getfield 38, 3) := by decide +kernel
theorem dX7_find_101 : decode cX7_find 101 = .ok (.iload 7, 2) := by decide +kernel
theorem dX7_find_103 : decode cX7_find 103 = .ok (.iaload, 1) := by decide +kernel
theorem dX7_find_104 : decode cX7_find 104 = .ok (.bipush (-6), 2) := by decide +kernel
theorem dX7_find_106 : decode cX7_find 106 = .ok (.if_icmp .ne 57, 3) := by decide +kernel
theorem dX7_find_109 : decode cX7_find 109 = .ok (.aload_n 0, 1) := by decide +kernel
theorem dX7_find_110 : decode cX7_find 110 = .ok (.getfield 29, 3) := by decide +kernel
theorem dX7_find_113 : decode cX7_find 113 = .ok (.iload 7, 2) := by decide +kernel
theorem dX7_find_115 : decode cX7_find 115 = .ok (.baload, 1) := by decide +kernel
theorem dX7_find_116 : decode cX7_find 116 = .ok (.ifCond .ne 47, 3) := by decide +kernel
theorem dX7_find_119 : decode cX7_find 119 = .ok (.aload_n 0, 1) := by decide +kernel
theorem dX7_find_120 : decode cX7_find 120 = .ok (.getfield 38, 3) := by decide +kernel
theorem dX7_find_123 : decode cX7_find 123 = .ok (.iload 7, 2) := by decide +kernel
theorem dX7_find_125 : decode cX7_find 125 = .ok (.iload 4, 2) := by decide +kernel
theorem dX7_find_127 : decode cX7_find 127 = .ok (.iastore, 1) := by decide +kernel
theorem dX7_find_128 : decode cX7_find 128 = .ok (.aload_n 0, 1) := by decide +kernel
theorem dX7_find_129 : decode cX7_find 129 = .ok (.getfield 26, 3) := by decide +kernel
theorem dX7_find_132 : decode cX7_find 132 = .ok (.iload 7, 2) := by decide +kernel
theorem dX7_find_134 : decode cX7_find 134 = .ok (.iaload, 1) := by decide +kernel
theorem dX7_find_135 : decode cX7_find 135 = .ok (.ifCond .ge 12, 3) := by decide +kernel
theorem dX7_find_138 : decode cX7_find 138 = .ok (.aload_n 0, 1) := by decide +kernel
theorem dX7_find_139 : decode cX7_find 139 = .ok (.iload 7, 2) := by decide +kernel
theorem dX7_find_141 : decode cX7_find 141 = .ok (.iload_n 1, 1) := by decide +kernel
theorem dX7_find_142 : decode cX7_find 142 = .ok (.invokevirtual 98, 3) := by decide +kernel
theorem dX7_find_145 : decode cX7_find 145 = .ok (.iconst 1, 1) := by decide +kernel
theorem dX7_find_146 : decode cX7_find 146 = .ok (.ireturn, 1) := by decide +kernel
theorem dX7_find_147 : decode cX7_find 147 = .ok (.aload_n 0, 1) := by decide +kernel
theorem dX7_find_148 : decode cX7_find 148 = .ok (.getfield 35, 3) := by decide +kernel
theorem dX7_find_151 : decode cX7_find 151 = .ok (.iload_n 2, 1) := by decide +kernel
theorem dX7_find_152 : decode cX7_find 152 = .ok (.aload_n 0, 1) := by decide +kernel
theorem dX7_find_153 : decode cX7_find 153 = .ok (.getfield 26, 3) := by decide +kernel
theorem dX7_find_156 : decode cX7_find 156 = .ok (.iload 7, 2) := by decide +kernel
theorem dX7_find_158 : decode cX7_find 158 = .ok (.iaload, 1) := by decide +kernel
theorem dX7_find_159 : decode cX7_find 159 = .ok (.iastore, 1) := by decide +kernel
theorem dX7_find_160 : decode cX7_find 160 = .ok (.iinc 2 1, 3) := by decide +kernel
theorem dX7_find_163 : decode cX7_find 163 = .ok (.iinc 5 1, 3) := by decide +kernel
theorem dX7_find_166 : decode cX7_find 166 = .ok (.goto (-116), 3) := by decide +kernel
theorem dX7_find_169 : decode cX7_find 169 = .ok (.iinc 3 1, 3) := by decide +kernel
theorem dX7_find_172 : decode cX7_find 172 = .ok (.goto (-138), 3) := by decide +kernel
theorem dX7_find_175 : decode cX7_find 175 = .ok (.iconst 0, 1) := by decide +kernel
theorem dX7_find_176 : decode cX7_find 176 = .ok (.ireturn, 1) := by decide +kernel
theorem dX7_turn_0 : decode cX7_turn 0 = .ok (.iload_n 1, 1) := by decide +kernel
theorem dX7_turn_1 : decode cX7_turn 1 = .ok (.istore_n 3, 1) := by decide +kernel
theorem dX7_turn_2 : decode cX7_turn 2 = .ok (.iconst 1, 1) := by decide +kernel
theorem dX7_turn_3 : decode cX7_turn 3 = .ok (.istore 4, 2) := by decide +kernel
theorem dX7_turn_5 : decode cX7_turn 5 = .ok (.iload 4, 2) := by decide +kernel
theorem dX7_turn_7 : decode cX7_turn 7 = .ok (.ifCond .eq 55, 3) := by decide +kernel
theorem dX7_turn_10 : decode cX7_turn 10 = .ok (.aload_n 0, 1) := by decide +kernel
theorem dX7_turn_11 : decode cX7_turn 11 = .ok (.getfield 38, 3) := by decide +kernel
theorem dX7_turn_14 : decode cX7_turn 14 = .ok (.iload_n 3, 1) := by decide +kernel
theorem dX7_turn_15 : decode cX7_turn 15 = .ok (.iaload, 1) := by decide +kernel
theorem dX7_turn_16 : decode cX7_turn 16 = .ok (.istore 5, 2) := by decide +kernel
theorem dX7_turn_18 : decode cX7_turn 18 = .ok (.aload_n 0, 1) := by decide +kernel
theorem dX7_turn_19 : decode cX7_turn 19 = .ok (.getfield 41, 3) := by decide +kernel
theorem dX7_turn_22 : decode cX7_turn 22 = .ok (.iload 5, 2) := by decide +kernel
theorem dX7_turn_24 : decode cX7_turn 24 = .ok (.iaload, 1) := by decide +kernel
theorem dX7_turn_25 : decode cX7_turn 25 = .ok (.istore 6, 2) := by decide +kernel
theorem dX7_turn_27 : decode cX7_turn 27 = .ok (.aload_n 0, 1) := by decide +kernel
theorem dX7_turn_28 : decode cX7_turn 28 = .ok (.getfield 26, 3) := by decide +kernel
theorem dX7_turn_31 : decode cX7_turn 31 = .ok (.iload_n 3, 1) := by decide +kernel
theorem dX7_turn_32 : decode cX7_turn 32 = .ok (.iload 5, 2) := by decide +kernel
theorem dX7_turn_34 : decode cX7_turn 34 = .ok (.iastore, 1) := by decide +kernel
theorem dX7_turn_35 : decode cX7_turn 35 = .ok (.aload_n 0, 1) := by decide +kernel
theorem dX7_turn_36 : decode cX7_turn 36 = .ok (.getfield 41, 3) := by decide +kernel
theorem dX7_turn_39 : decode cX7_turn 39 = .ok (.iload 5, 2) := by decide +kernel
theorem dX7_turn_41 : decode cX7_turn 41 = .ok (.iload_n 3, 1) := by decide +kernel
theorem dX7_turn_42 : decode cX7_turn 42 = .ok (.iastore, 1) := by decide +kernel
theorem dX7_turn_43 : decode cX7_turn 43 = .ok (.iload 5, 2) := by decide +kernel
theorem dX7_turn_45 : decode cX7_turn 45 = .ok (.iload_n 2, 1) := by decide +kernel
theorem dX7_turn_46 : decode cX7_turn 46 = .ok (.if_icmp .eq 7, 3) := by decide +kernel
theorem dX7_turn_49 : decode cX7_turn 49 = .ok (.iconst 1, 1) := by decide +kernel
theorem dX7_turn_50 : decode cX7_turn 50 = .ok (.goto 4, 3) := by decide +kernel
theorem dX7_turn_53 : decode cX7_turn 53 = .ok (.iconst 0, 1) := by decide +kernel
theorem dX7_turn_54 : decode cX7_turn 54 = .ok (.istore 4, 2) := by decide +kernel
theorem dX7_turn_56 : decode cX7_turn 56 = .ok (.iload 6, 2) := by decide +kernel
theorem dX7_turn_58 : decode cX7_turn 58 = .ok (.istore_n 3, 1) := by decide +kernel
theorem dX7_turn_59 : decode cX7_turn 59 = .ok (.goto (-54), 3) := by decide +kernel
theorem dX7_turn_62 : decode cX7_turn 62 = .ok (.return_, 1) := by decide +kernel
theorem dX7_most_0 : decode cX7_most 0 = .ok (.iconst 0, 1) := by decide +kernel
theorem dX7_most_1 : decode cX7_most 1 = .ok (.istore_n 2, 1) := by decide +kernel
theorem dX7_most_2 : decode cX7_most 2 = .ok (.iload_n 2, 1) := by decide +kernel
theorem dX7_most_3 : decode cX7_most 3 = .ok (.sipush 1204, 3) := by decide +kernel
theorem dX7_most_6 : decode cX7_most 6 = .ok (.if_icmp .ge 17, 3) := by decide +kernel
theorem dX7_most_9 : decode cX7_most 9 = .ok (.aload_n 0, 1) := by decide +kernel
theorem dX7_most_10 : decode cX7_most 10 = .ok (.getfield 26, 3) := by decide +kernel
theorem dX7_most_13 : decode cX7_most 13 = .ok (.iload_n 2, 1) := by decide +kernel
theorem dX7_most_14 : decode cX7_most 14 = .ok (.bipush (-6), 2) := by decide +kernel
theorem dX7_most_16 : decode cX7_most 16 = .ok (.iastore, 1) := by decide +kernel
theorem dX7_most_17 : decode cX7_most 17 = .ok (.iinc 2 1, 3) := by decide +kernel
theorem dX7_most_20 : decode cX7_most 20 = .ok (.goto (-18), 3) := by decide +kernel
theorem dX7_most_23 : decode cX7_most 23 = .ok (.iconst 0, 1) := by decide +kernel
theorem dX7_most_24 : decode cX7_most 24 = .ok (.istore_n 2, 1) := by decide +kernel
theorem dX7_most_25 : decode cX7_most 25 = .ok (.iconst 0, 1) := by decide +kernel
theorem dX7_most_26 : decode cX7_most 26 = .ok (.istore_n 3, 1) := by decide +kernel
theorem dX7_most_27 : decode cX7_most 27 = .ok (.iload_n 3, 1) := by decide +kernel
theorem dX7_most_28 : decode cX7_most 28 = .ok (.bipush 20, 2) := by decide +kernel
theorem dX7_most_30 : decode cX7_most 30 = .ok (.if_icmp .ge 17, 3) := by decide +kernel
theorem dX7_most_33 : decode cX7_most 33 = .ok (.aload_n 0, 1) := by decide +kernel
theorem dX7_most_34 : decode cX7_most 34 = .ok (.getfield 41, 3) := by decide +kernel
theorem dX7_most_37 : decode cX7_most 37 = .ok (.iload_n 3, 1) := by decide +kernel
theorem dX7_most_38 : decode cX7_most 38 = .ok (.bipush (-6), 2) := by decide +kernel
theorem dX7_most_40 : decode cX7_most 40 = .ok (.iastore, 1) := by decide +kernel
theorem dX7_most_41 : decode cX7_most 41 = .ok (.iinc 3 1, 3) := by decide +kernel
theorem dX7_most_44 : decode cX7_most 44 = .ok (.goto (-17), 3) := by decide +kernel
theorem dX7_most_47 : decode cX7_most 47 = .ok (.iload_n 1, 1) := by decide +kernel
theorem dX7_most_48 : decode cX7_most 48 = .ok (.istore_n 3, 1) := by decide +kernel
theorem dX7_most_49 : decode cX7_most 49 = .ok (.iload_n 3, 1) := by decide +kernel
theorem dX7_most_50 : decode cX7_most 50 = .ok (.aload_n 0, 1) := by decide +kernel
theorem dX7_most_51 : decode cX7_most 51 = .ok (.getfield 7, 3) := by decide +kernel
theorem dX7_most_54 : decode cX7_most 54 = .ok (.sipush 6423, 3) := by decide +kernel
theorem dX7_most_57 : decode cX7_most 57 = .ok (.iaload, 1) := by decide +kernel
theorem dX7_most_58 : decode cX7_most 58 = .ok (.if_icmp .ge 34, 3) := by decide +kernel
theorem dX7_most_61 : decode cX7_most 61 = .ok (.iload_n 2, 1) := by decide +kernel
theorem dX7_most_62 : decode cX7_most 62 = .ok (.aload_n 0, 1) := by decide +kernel
theorem dX7_most_63 : decode cX7_most 63 = .ok (.getfield 32, 3) := by decide +kernel
theorem dX7_most_66 : decode cX7_most 66 = .ok (.iload_n 3, 1) := by decide +kernel
theorem dX7_most_67 : decode cX7_most 67 = .ok (.baload, 1) := by decide +kernel
theorem dX7_most_68 : decode cX7_most 68 = .ok (.ifCond .ne 15, 3) := by decide +kernel
theorem dX7_most_71 : decode cX7_most 71 = .ok (.aload_n 0, 1) := by decide +kernel
theorem dX7_most_72 : decode cX7_most 72 = .ok (.iload_n 3, 1) := by decide +kernel
theorem dX7_most_73 : decode cX7_most 73 = .ok (.invokevirtual 102, 3) := by decide +kernel
theorem dX7_most_76 : decode cX7_most 76 = .ok (.ifCond .eq 7, 3) := by decide +kernel
theorem dX7_most_79 : decode cX7_most 79 = .ok (.iconst 1, 1) := by decide +kernel
theorem dX7_most_80 : decode cX7_most 80 = .ok (.goto 4, 3) := by decide +kernel
theorem dX7_most_83 : decode cX7_most 83 = .ok (.iconst 0, 1) := by decide +kernel
theorem dX7_most_84 : decode cX7_most 84 = .ok (.iadd, 1) := by decide +kernel
theorem dX7_most_85 : decode cX7_most 85 = .ok (.istore_n 2, 1) := by decide +kernel
theorem dX7_most_86 : decode cX7_most 86 = .ok (.iinc 3 1, 3) := by decide +kernel
theorem dX7_most_89 : decode cX7_most 89 = .ok (.goto (-40), 3) := by decide +kernel
theorem dX7_most_92 : decode cX7_most 92 = .ok (.iload_n 2, 1) := by decide +kernel
theorem dX7_most_93 : decode cX7_most 93 = .ok (.ireturn, 1) := by decide +kernel
theorem dX7_clear_0 : decode cX7_clear 0 = .ok (.iconst 0, 1) := by decide +kernel
theorem dX7_clear_1 : decode cX7_clear 1 = .ok (.istore_n 1, 1) := by decide +kernel
theorem dX7_clear_2 : decode cX7_clear 2 = .ok (.iload_n 1, 1) := by decide +kernel
theorem dX7_clear_3 : decode cX7_clear 3 = .ok (.sipush 1204, 3) := by decide +kernel
theorem dX7_clear_6 : decode cX7_clear 6 = .ok (.if_icmp .ge 16, 3) := by decide +kernel
theorem dX7_clear_9 : decode cX7_clear 9 = .ok (.aload_n 0, 1) := by decide +kernel
theorem dX7_clear_10 : decode cX7_clear 10 = .ok (.getfield 29, 3) := by decide +kernel
theorem dX7_clear_13 : decode cX7_clear 13 = .ok (.iload_n 1, 1) := by decide +kernel
theorem dX7_clear_14 : decode cX7_clear 14 = .ok (.iconst 0, 1) := by decide +kernel
theorem dX7_clear_15 : decode cX7_clear 15 = .ok (.bastore, 1) := by decide +kernel
theorem dX7_clear_16 : decode cX7_clear 16 = .ok (.iinc 1 1, 3) := by decide +kernel
theorem dX7_clear_19 : decode cX7_clear 19 = .ok (.goto (-17), 3) := by decide +kernel
theorem dX7_clear_22 : decode cX7_clear 22 = .ok (.iconst 0, 1) := by decide +kernel
theorem dX7_clear_23 : decode cX7_clear 23 = .ok (.istore_n 1, 1) := by decide +kernel
theorem dX7_clear_24 : decode cX7_clear 24 = .ok (.iload_n 1, 1) := by decide +kernel
theorem dX7_clear_25 : decode cX7_clear 25 = .ok (.bipush 20, 2) := by decide +kernel
theorem dX7_clear_27 : decode cX7_clear 27 = .ok (.if_icmp .ge 16, 3) := by decide +kernel
theorem dX7_clear_30 : decode cX7_clear 30 = .ok (.aload_n 0, 1) := by decide +kernel
theorem dX7_clear_31 : decode cX7_clear 31 = .ok (.getfield 32, 3) := by decide +kernel
theorem dX7_clear_34 : decode cX7_clear 34 = .ok (.iload_n 1, 1) := by decide +kernel
theorem dX7_clear_35 : decode cX7_clear 35 = .ok (.iconst 0, 1) := by decide +kernel
theorem dX7_clear_36 : decode cX7_clear 36 = .ok (.bastore, 1) := by decide +kernel
theorem dX7_clear_37 : decode cX7_clear 37 = .ok (.iinc 1 1, 3) := by decide +kernel
theorem dX7_clear_40 : decode cX7_clear 40 = .ok (.goto (-16), 3) := by decide +kernel
theorem dX7_clear_43 : decode cX7_clear 43 = .ok (.return_, 1) := by decide +kernel
theorem dX7_layPlan_0 : decode cX7_layPlan 0 = .ok (.aload_n 0, 1) := by decide +kernel
theorem dX7_layPlan_1 : decode cX7_layPlan 1 = .ok (.bipush (-6), 2) := by decide +kernel
theorem dX7_layPlan_3 : decode cX7_layPlan 3 = .ok (.invokevirtual 105, 3) := by decide +kernel
theorem dX7_layPlan_6 : decode cX7_layPlan 6 = .ok (.aload_n 0, 1) := by decide +kernel
theorem dX7_layPlan_7 : decode cX7_layPlan 7 = .ok (.invokevirtual 109, 3) := by decide +kernel
theorem dX7_layPlan_10 : decode cX7_layPlan 10 = .ok (.aload_n 0, 1) := by decide +kernel
theorem dX7_layPlan_11 : decode cX7_layPlan 11 = .ok (.aload_n 0, 1) := by decide +kernel
theorem dX7_layPlan_12 : decode cX7_layPlan 12 = .ok (.iconst 0, 1) := by decide +kernel
theorem dX7_layPlan_13 : decode cX7_layPlan 13 = .ok (.invokevirtual 112, 3) := by decide +kernel
theorem dX7_layPlan_16 : decode cX7_layPlan 16 = .ok (.putfield 115, 3) := by decide +kernel
theorem dX7_layPlan_19 : decode cX7_layPlan 19 = .ok (.aload_n 0, 1) := by decide +kernel
theorem dX7_layPlan_20 : decode cX7_layPlan 20 = .ok (.getfield 115, 3) := by decide +kernel
theorem dX7_layPlan_23 : decode cX7_layPlan 23 = .ok (.istore_n 1, 1) := by decide +kernel
theorem dX7_layPlan_24 : decode cX7_layPlan 24 = .ok (.iconst 0, 1) := by decide +kernel
theorem dX7_layPlan_25 : decode cX7_layPlan 25 = .ok (.istore_n 2, 1) := by decide +kernel
theorem dX7_layPlan_26 : decode cX7_layPlan 26 = .ok (.iload_n 2, 1) := by decide +kernel
theorem dX7_layPlan_27 : decode cX7_layPlan 27 = .ok (.aload_n 0, 1) := by decide +kernel
theorem dX7_layPlan_28 : decode cX7_layPlan 28 = .ok (.getfield 7, 3) := by decide +kernel
theorem dX7_layPlan_31 : decode cX7_layPlan 31 = .ok (.sipush 6423, 3) := by decide +kernel
theorem dX7_layPlan_34 : decode cX7_layPlan 34 = .ok (.iaload, 1) := by decide +kernel
theorem dX7_layPlan_35 : decode cX7_layPlan 35 = .ok (.if_icmp .ge 140, 3) := by decide +kernel
theorem dX7_layPlan_38 : decode cX7_layPlan 38 = .ok (.aload_n 0, 1) := by decide +kernel
theorem dX7_layPlan_39 : decode cX7_layPlan 39 = .ok (.getfield 44, 3) := by decide +kernel
theorem dX7_layPlan_42 : decode cX7_layPlan 42 = .ok (.iload_n 2, 1) := by decide +kernel
theorem dX7_layPlan_43 : decode cX7_layPlan 43 = .ok (.bipush (-6), 2) := by decide +kernel
theorem dX7_layPlan_45 : decode cX7_layPlan 45 = .ok (.iastore, 1) := by decide +kernel
theorem dX7_layPlan_46 : decode cX7_layPlan 46 = .ok (.aload_n 0, 1) := by decide +kernel
theorem dX7_layPlan_47 : decode cX7_layPlan 47 = .ok (.getfield 47, 3) := by decide +kernel
theorem dX7_layPlan_50 : decode cX7_layPlan 50 = .ok (.iload_n 2, 1) := by decide +kernel
theorem dX7_layPlan_51 : decode cX7_layPlan 51 = .ok (.bipush (-6), 2) := by decide +kernel
theorem dX7_layPlan_53 : decode cX7_layPlan 53 = .ok (.iastore, 1) := by decide +kernel
theorem dX7_layPlan_54 : decode cX7_layPlan 54 = .ok (.iconst 0, 1) := by decide +kernel
theorem dX7_layPlan_55 : decode cX7_layPlan 55 = .ok (.istore_n 3, 1) := by decide +kernel
theorem dX7_layPlan_56 : decode cX7_layPlan 56 = .ok (.iload_n 3, 1) := by decide +kernel
theorem dX7_layPlan_57 : decode cX7_layPlan 57 = .ok (.sipush 301, 3) := by decide +kernel
theorem dX7_layPlan_60 : decode cX7_layPlan 60 = .ok (.if_icmp .ge 109, 3) := by decide +kernel
theorem dX7_layPlan_63 : decode cX7_layPlan 63 = .ok (.aload_n 0, 1) := by decide +kernel
theorem dX7_layPlan_64 : decode cX7_layPlan 64 = .ok (.getfield 44, 3) := by decide +kernel
theorem dX7_layPlan_67 : decode cX7_layPlan 67 = .ok (.iload_n 2, 1) := by decide +kernel
theorem dX7_layPlan_68 : decode cX7_layPlan 68 = .ok (.iaload, 1) := by decide +kernel
theorem dX7_layPlan_69 : decode cX7_layPlan 69 = .ok (.ifCond .ge 100, 3) := by decide +kernel
theorem dX7_layPlan_72 : decode cX7_layPlan 72 = .ok (.aload_n 0, 1) := by decide +kernel
theorem dX7_layPlan_73 : decode cX7_layPlan 73 = .ok (.getfield 23, 3) := by decide +kernel
theorem dX7_layPlan_76 : decode cX7_layPlan 76 = .ok (.sipush 301, 3) := by decide +kernel
theorem dX7_layPlan_79 : decode cX7_layPlan 79 = .ok (.iload_n 2, 1) := by decide +kernel
theorem dX7_layPlan_80 : decode cX7_layPlan 80 = .ok (.imul, 1) := by decide +kernel
theorem dX7_layPlan_81 : decode cX7_layPlan 81 = .ok (.iload_n 3, 1) := by decide +kernel
theorem dX7_layPlan_82 : decode cX7_layPlan 82 = .ok (.iadd, 1) := by decide +kernel
theorem dX7_layPlan_83 : decode cX7_layPlan 83 = .ok (.iaload, 1) := by decide +kernel
theorem dX7_layPlan_84 : decode cX7_layPlan 84 = .ok (.istore 4, 2) := by decide +kernel
theorem dX7_layPlan_86 : decode cX7_layPlan 86 = .ok (.iload 4, 2) := by decide +kernel
theorem dX7_layPlan_88 : decode cX7_layPlan 88 = .ok (.ifCond .lt 75, 3) := by decide +kernel
theorem dX7_layPlan_91 : decode cX7_layPlan 91 = .ok (.aload_n 0, 1) := by decide +kernel
theorem dX7_layPlan_92 : decode cX7_layPlan 92 = .ok (.getfield 29, 3) := by decide +kernel
theorem dX7_layPlan_95 : decode cX7_layPlan 95 = .ok (.iload 4, 2) := by decide +kernel
theorem dX7_layPlan_97 : decode cX7_layPlan 97 = .ok (.iload_n 3, 1) := by decide +kernel
theorem dX7_layPlan_98 : decode cX7_layPlan 98 = .ok (.invokestatic 95, 3) := by decide +kernel
theorem dX7_layPlan_101 : decode cX7_layPlan 101 = .ok (.baload, 1) := by decide +kernel
theorem dX7_layPlan_102 : decode cX7_layPlan 102 = .ok (.ifCond .ne 61, 3) := by decide +kernel
theorem dX7_layPlan_105 : decode cX7_layPlan 105 = .ok (.aload_n 0, 1) := by decide +kernel
theorem dX7_layPlan_106 : decode cX7_layPlan 106 = .ok (.getfield 29, 3) := by decide +kernel
theorem dX7_layPlan_109 : decode cX7_layPlan 109 = .ok (.iload 4, 2) := by decide +kernel
theorem dX7_layPlan_111 : decode cX7_layPlan 111 = .ok (.iload_n 3, 1) := by decide +kernel
theorem dX7_layPlan_112 : decode cX7_layPlan 112 = .ok (.invokestatic 95, 3) := by decide +kernel
theorem dX7_layPlan_115 : decode cX7_layPlan 115 = .ok (.iconst 1, 1) := by decide +kernel
theorem dX7_layPlan_116 : decode cX7_layPlan 116 = .ok (.bastore, 1) := by decide +kernel
theorem dX7_layPlan_117 : decode cX7_layPlan 117 = .ok (.iconst 1, 1) := by decide +kernel
theorem dX7_layPlan_118 : decode cX7_layPlan 118 = .ok (.aload_n 0, 1) := by decide +kernel
theorem dX7_layPlan_119 : decode cX7_layPlan 119 = .ok (.iload_n 2, 1) := by decide +kernel
theorem dX7_layPlan_120 : decode cX7_layPlan 120 = .ok (.iconst 1, 1) := by decide +kernel
theorem dX7_layPlan_121 : decode cX7_layPlan 121 = .ok (.iadd, 1) := by decide +kernel
theorem dX7_layPlan_122 : decode cX7_layPlan 122 = .ok (.invokevirtual 112, 3) := by decide +kernel
theorem dX7_layPlan_125 : decode cX7_layPlan 125 = .ok (.iadd, 1) := by decide +kernel
theorem dX7_layPlan_126 : decode cX7_layPlan 126 = .ok (.iload_n 1, 1) := by decide +kernel
theorem dX7_layPlan_127 : decode cX7_layPlan 127 = .ok (.if_icmp .ne 24, 3) := by decide +kernel
theorem dX7_layPlan_130 : decode cX7_layPlan 130 = .ok (.aload_n 0, 1) := by decide +kernel
theorem dX7_layPlan_131 : decode cX7_layPlan 131 = .ok (.getfield 44, 3) := by decide +kernel
theorem dX7_layPlan_134 : decode cX7_layPlan 134 = .ok (.iload_n 2, 1) := by decide +kernel
theorem dX7_layPlan_135 : decode cX7_layPlan 135 = .ok (.iload_n 3, 1) := by decide +kernel
theorem dX7_layPlan_136 : decode cX7_layPlan 136 = .ok (.iastore, 1) := by decide +kernel
theorem dX7_layPlan_137 : decode cX7_layPlan 137 = .ok (.aload_n 0, 1) := by decide +kernel
theorem dX7_layPlan_138 : decode cX7_layPlan 138 = .ok (.getfield 47, 3) := by decide +kernel
theorem dX7_layPlan_141 : decode cX7_layPlan 141 = .ok (.iload_n 2, 1) := by decide +kernel
theorem dX7_layPlan_142 : decode cX7_layPlan 142 = .ok (.iload 4, 2) := by decide +kernel
theorem dX7_layPlan_144 : decode cX7_layPlan 144 = .ok (.iastore, 1) := by decide +kernel
theorem dX7_layPlan_145 : decode cX7_layPlan 145 = .ok (.iinc 1 (-1), 3) := by decide +kernel
theorem dX7_layPlan_148 : decode cX7_layPlan 148 = .ok (.goto 15, 3) := by decide +kernel
theorem dX7_layPlan_151 : decode cX7_layPlan 151 = .ok (.aload_n 0, 1) := by decide +kernel
theorem dX7_layPlan_152 : decode cX7_layPlan 152 = .ok (.getfield 29, 3) := by decide +kernel
theorem dX7_layPlan_155 : decode cX7_layPlan 155 = .ok (.iload 4, 2) := by decide +kernel
theorem dX7_layPlan_157 : decode cX7_layPlan 157 = .ok (.iload_n 3, 1) := by decide +kernel
theorem dX7_layPlan_158 : decode cX7_layPlan 158 = .ok (.invokestatic 95, 3) := by decide +kernel
theorem dX7_layPlan_161 : decode cX7_layPlan 161 = .ok (.iconst 0, 1) := by decide +kernel
theorem dX7_layPlan_162 : decode cX7_layPlan 162 = .ok (.bastore, 1) := by decide +kernel
theorem dX7_layPlan_163 : decode cX7_layPlan 163 = .ok (.iinc 3 1, 3) := by decide +kernel
theorem dX7_layPlan_166 : decode cX7_layPlan 166 = .ok (.goto (-110), 3) := by decide +kernel
theorem dX7_layPlan_169 : decode cX7_layPlan 169 = .ok (.iinc 2 1, 3) := by decide +kernel
theorem dX7_layPlan_172 : decode cX7_layPlan 172 = .ok (.goto (-146), 3) := by decide +kernel
theorem dX7_layPlan_175 : decode cX7_layPlan 175 = .ok (.return_, 1) := by decide +kernel
theorem dX7_mostWithout_0 : decode cX7_mostWithout 0 = .ok (.aload_n 0, 1) := by decide +kernel
theorem dX7_mostWithout_1 : decode cX7_mostWithout 1 = .ok (.iload_n 1, 1) := by decide +kernel
theorem dX7_mostWithout_2 : decode cX7_mostWithout 2 = .ok (.invokevirtual 105, 3) := by decide +kernel
theorem dX7_mostWithout_5 : decode cX7_mostWithout 5 = .ok (.aload_n 0, 1) := by decide +kernel
theorem dX7_mostWithout_6 : decode cX7_mostWithout 6 = .ok (.invokevirtual 109, 3) := by decide +kernel
theorem dX7_mostWithout_9 : decode cX7_mostWithout 9 = .ok (.aload_n 0, 1) := by decide +kernel
theorem dX7_mostWithout_10 : decode cX7_mostWithout 10 = .ok (.iconst 0, 1) := by decide +kernel
theorem dX7_mostWithout_11 : decode cX7_mostWithout 11 = .ok (.invokevirtual 112, 3) := by decide +kernel
theorem dX7_mostWithout_14 : decode cX7_mostWithout 14 = .ok (.ireturn, 1) := by decide +kernel
theorem dX7_layTrays_0 : decode cX7_layTrays 0 = .ok (.iconst 0, 1) := by decide +kernel
theorem dX7_layTrays_1 : decode cX7_layTrays 1 = .ok (.istore_n 1, 1) := by decide +kernel
theorem dX7_layTrays_2 : decode cX7_layTrays 2 = .ok (.iload_n 1, 1) := by decide +kernel
theorem dX7_layTrays_3 : decode cX7_layTrays 3 = .ok (.bipush 18, 2) := by decide +kernel
theorem dX7_layTrays_5 : decode cX7_layTrays 5 = .ok (.if_icmp .ge 16, 3) := by decide +kernel
theorem dX7_layTrays_8 : decode cX7_layTrays 8 = .ok (.aload_n 0, 1) := by decide +kernel
theorem dX7_layTrays_9 : decode cX7_layTrays 9 = .ok (.getfield 50, 3) := by decide +kernel
theorem dX7_layTrays_12 : decode cX7_layTrays 12 = .ok (.iload_n 1, 1) := by decide +kernel
theorem dX7_layTrays_13 : decode cX7_layTrays 13 = .ok (.iconst 0, 1) := by decide +kernel
theorem dX7_layTrays_14 : decode cX7_layTrays 14 = .ok (.iastore, 1) := by decide +kernel
theorem dX7_layTrays_15 : decode cX7_layTrays 15 = .ok (.iinc 1 1, 3) := by decide +kernel
theorem dX7_layTrays_18 : decode cX7_layTrays 18 = .ok (.goto (-16), 3) := by decide +kernel
theorem dX7_layTrays_21 : decode cX7_layTrays 21 = .ok (.iconst 0, 1) := by decide +kernel
theorem dX7_layTrays_22 : decode cX7_layTrays 22 = .ok (.istore_n 1, 1) := by decide +kernel
theorem dX7_layTrays_23 : decode cX7_layTrays 23 = .ok (.iload_n 1, 1) := by decide +kernel
theorem dX7_layTrays_24 : decode cX7_layTrays 24 = .ok (.bipush 20, 2) := by decide +kernel
theorem dX7_layTrays_26 : decode cX7_layTrays 26 = .ok (.if_icmp .ge 17, 3) := by decide +kernel
theorem dX7_layTrays_29 : decode cX7_layTrays 29 = .ok (.aload_n 0, 1) := by decide +kernel
theorem dX7_layTrays_30 : decode cX7_layTrays 30 = .ok (.getfield 53, 3) := by decide +kernel
theorem dX7_layTrays_33 : decode cX7_layTrays 33 = .ok (.iload_n 1, 1) := by decide +kernel
theorem dX7_layTrays_34 : decode cX7_layTrays 34 = .ok (.bipush (-6), 2) := by decide +kernel
theorem dX7_layTrays_36 : decode cX7_layTrays 36 = .ok (.iastore, 1) := by decide +kernel
theorem dX7_layTrays_37 : decode cX7_layTrays 37 = .ok (.iinc 1 1, 3) := by decide +kernel
theorem dX7_layTrays_40 : decode cX7_layTrays 40 = .ok (.goto (-17), 3) := by decide +kernel
theorem dX7_layTrays_43 : decode cX7_layTrays 43 = .ok (.iconst 0, 1) := by decide +kernel
theorem dX7_layTrays_44 : decode cX7_layTrays 44 = .ok (.istore_n 1, 1) := by decide +kernel
theorem dX7_layTrays_45 : decode cX7_layTrays 45 = .ok (.iload_n 1, 1) := by decide +kernel
theorem dX7_layTrays_46 : decode cX7_layTrays 46 = .ok (.sipush 1204, 3) := by decide +kernel
theorem dX7_layTrays_49 : decode cX7_layTrays 49 = .ok (.if_icmp .ge 157, 3) := by decide +kernel
theorem dX7_layTrays_52 : decode cX7_layTrays 52 = .ok (.iload_n 1, 1) := by decide +kernel
theorem dX7_layTrays_53 : decode cX7_layTrays 53 = .ok (.iconst 4, 1) := by decide +kernel
theorem dX7_layTrays_54 : decode cX7_layTrays 54 = .ok (.idiv, 1) := by decide +kernel
theorem dX7_layTrays_55 : decode cX7_layTrays 55 = .ok (.istore_n 2, 1) := by decide +kernel
theorem dX7_layTrays_56 : decode cX7_layTrays 56 = .ok (.iload_n 1, 1) := by decide +kernel
theorem dX7_layTrays_57 : decode cX7_layTrays 57 = .ok (.iconst 4, 1) := by decide +kernel
theorem dX7_layTrays_58 : decode cX7_layTrays 58 = .ok (.irem, 1) := by decide +kernel
theorem dX7_layTrays_59 : decode cX7_layTrays 59 = .ok (.istore_n 3, 1) := by decide +kernel
theorem dX7_layTrays_60 : decode cX7_layTrays 60 = .ok (.iconst 0, 1) := by decide +kernel
theorem dX7_layTrays_61 : decode cX7_layTrays 61 = .ok (.istore 4, 2) := by decide +kernel
theorem dX7_layTrays_63 : decode cX7_layTrays 63 = .ok (.iload 4, 2) := by decide +kernel
theorem dX7_layTrays_65 : decode cX7_layTrays 65 = .ok (.aload_n 0, 1) := by decide +kernel
theorem dX7_layTrays_66 : decode cX7_layTrays 66 = .ok (.getfield 7, 3) := by decide +kernel
theorem dX7_layTrays_69 : decode cX7_layTrays 69 = .ok (.sipush 6423, 3) := by decide +kernel
theorem dX7_layTrays_72 : decode cX7_layTrays 72 = .ok (.iaload, 1) := by decide +kernel
theorem dX7_layTrays_73 : decode cX7_layTrays 73 = .ok (.if_icmp .ge 127, 3) := by decide +kernel
theorem dX7_layTrays_76 : decode cX7_layTrays 76 = .ok (.aload_n 0, 1) := by decide +kernel
theorem dX7_layTrays_77 : decode cX7_layTrays 77 = .ok (.getfield 44, 3) := by decide +kernel
theorem dX7_layTrays_80 : decode cX7_layTrays 80 = .ok (.iload 4, 2) := by decide +kernel
theorem dX7_layTrays_82 : decode cX7_layTrays 82 = .ok (.iaload, 1) := by decide +kernel
theorem dX7_layTrays_83 : decode cX7_layTrays 83 = .ok (.iload_n 2, 1) := by decide +kernel
theorem dX7_layTrays_84 : decode cX7_layTrays 84 = .ok (.if_icmp .ne 110, 3) := by decide +kernel
theorem dX7_layTrays_87 : decode cX7_layTrays 87 = .ok (.aload_n 0, 1) := by decide +kernel
theorem dX7_layTrays_88 : decode cX7_layTrays 88 = .ok (.getfield 47, 3) := by decide +kernel
theorem dX7_layTrays_91 : decode cX7_layTrays 91 = .ok (.iload 4, 2) := by decide +kernel
theorem dX7_layTrays_93 : decode cX7_layTrays 93 = .ok (.iaload, 1) := by decide +kernel
theorem dX7_layTrays_94 : decode cX7_layTrays 94 = .ok (.iload_n 3, 1) := by decide +kernel
theorem dX7_layTrays_95 : decode cX7_layTrays 95 = .ok (.if_icmp .ne 99, 3) := by decide +kernel
theorem dX7_layTrays_98 : decode cX7_layTrays 98 = .ok (.bipush 6, 2) := by decide +kernel
theorem dX7_layTrays_100 : decode cX7_layTrays 100 = .ok (.aload_n 0, 1) := by decide +kernel
theorem dX7_layTrays_101 : decode cX7_layTrays 101 = .ok (.getfield 7, 3) := by decide +kernel
theorem dX7_layTrays_104 : decode cX7_layTrays 104 = .ok (.sipush 361, 3) := by decide +kernel
theorem dX7_layTrays_107 : decode cX7_layTrays 107 = .ok (.iload 4, 2) := by decide +kernel
theorem dX7_layTrays_109 : decode cX7_layTrays 109 = .ok (.iadd, 1) := by decide +kernel
theorem dX7_layTrays_110 : decode cX7_layTrays 110 = .ok (.iaload, 1) := by decide +kernel
theorem dX7_layTrays_111 : decode cX7_layTrays 111 = .ok (.imul, 1) := by decide +kernel
theorem dX7_layTrays_112 : decode cX7_layTrays 112 = .ok (.istore 5, 2) := by decide +kernel
theorem dX7_layTrays_114 : decode cX7_layTrays 114 = .ok (.iconst 0, 1) := by decide +kernel
theorem dX7_layTrays_115 : decode cX7_layTrays 115 = .ok (.istore 6, 2) := by decide +kernel
theorem dX7_layTrays_117 : decode cX7_layTrays 117 = .ok (.iconst 1, 1) := by decide +kernel
theorem dX7_layTrays_118 : decode cX7_layTrays 118 = .ok (.istore 7, 2) := by decide +kernel
theorem dX7_layTrays_120 : decode cX7_layTrays 120 = .ok (.iload 7, 2) := by decide +kernel
theorem dX7_layTrays_122 : decode cX7_layTrays 122 = .ok (.aload_n 0, 1) := by decide +kernel
theorem dX7_layTrays_123 : decode cX7_layTrays 123 = .ok (.getfield 7, 3) := by decide +kernel
theorem dX7_layTrays_126 : decode cX7_layTrays 126 = .ok (.sipush 6422, 3) := by decide +kernel
theorem dX7_layTrays_129 : decode cX7_layTrays 129 = .ok (.iaload, 1) := by decide +kernel
theorem dX7_layTrays_130 : decode cX7_layTrays 130 = .ok (.if_icmp .ge 41, 3) := by decide +kernel
theorem dX7_layTrays_133 : decode cX7_layTrays 133 = .ok (.aload_n 0, 1) := by decide +kernel
theorem dX7_layTrays_134 : decode cX7_layTrays 134 = .ok (.getfield 50, 3) := by decide +kernel
theorem dX7_layTrays_137 : decode cX7_layTrays 137 = .ok (.iload 5, 2) := by decide +kernel
theorem dX7_layTrays_139 : decode cX7_layTrays 139 = .ok (.iload 7, 2) := by decide +kernel
theorem dX7_layTrays_141 : decode cX7_layTrays 141 = .ok (.iadd, 1) := by decide +kernel
theorem dX7_layTrays_142 : decode cX7_layTrays 142 = .ok (.iaload, 1) := by decide +kernel
theorem dX7_layTrays_143 : decode cX7_layTrays 143 = .ok (.aload_n 0, 1) := by decide +kernel
theorem dX7_layTrays_144 : decode cX7_layTrays 144 = .ok (.getfield 50, 3) := by decide +kernel
theorem dX7_layTrays_147 : decode cX7_layTrays 147 = .ok (.iload 5, 2) := by decide +kernel
theorem dX7_layTrays_149 : decode cX7_layTrays 149 = .ok (.iload 6, 2) := by decide +kernel
theorem dX7_layTrays_151 : decode cX7_layTrays 151 = .ok (.iadd, 1) := by decide +kernel
theorem dX7_layTrays_152 : decode cX7_layTrays 152 = .ok (.iaload, 1) := by decide +kernel
theorem dX7_layTrays_153 : decode cX7_layTrays 153 = .ok (.if_icmp .ge 8, 3) := by decide +kernel
theorem dX7_layTrays_156 : decode cX7_layTrays 156 = .ok (.iload 7, 2) := by decide +kernel
theorem dX7_layTrays_158 : decode cX7_layTrays 158 = .ok (.goto 5, 3) := by decide +kernel
theorem dX7_layTrays_161 : decode cX7_layTrays 161 = .ok (.iload 6, 2) := by decide +kernel
theorem dX7_layTrays_163 : decode cX7_layTrays 163 = .ok (.istore 6, 2) := by decide +kernel
theorem dX7_layTrays_165 : decode cX7_layTrays 165 = .ok (.iinc 7 1, 3) := by decide +kernel
theorem dX7_layTrays_168 : decode cX7_layTrays 168 = .ok (.goto (-48), 3) := by decide +kernel
theorem dX7_layTrays_171 : decode cX7_layTrays 171 = .ok (.aload_n 0, 1) := by decide +kernel
theorem dX7_layTrays_172 : decode cX7_layTrays 172 = .ok (.getfield 50, 3) := by decide +kernel
theorem dX7_layTrays_175 : decode cX7_layTrays 175 = .ok (.iload 5, 2) := by decide +kernel
theorem dX7_layTrays_177 : decode cX7_layTrays 177 = .ok (.iload 6, 2) := by decide +kernel
theorem dX7_layTrays_179 : decode cX7_layTrays 179 = .ok (.iadd, 1) := by decide +kernel
theorem dX7_layTrays_180 : decode cX7_layTrays 180 = .ok (.dup2, 1) := by decide +kernel
theorem dX7_layTrays_181 : decode cX7_layTrays 181 = .ok (.iaload, 1) := by decide +kernel
theorem dX7_layTrays_182 : decode cX7_layTrays 182 = .ok (.iconst 1, 1) := by decide +kernel
theorem dX7_layTrays_183 : decode cX7_layTrays 183 = .ok (.iadd, 1) := by decide +kernel
theorem dX7_layTrays_184 : decode cX7_layTrays 184 = .ok (.iastore, 1) := by decide +kernel
theorem dX7_layTrays_185 : decode cX7_layTrays 185 = .ok (.aload_n 0, 1) := by decide +kernel
theorem dX7_layTrays_186 : decode cX7_layTrays 186 = .ok (.getfield 53, 3) := by decide +kernel
theorem dX7_layTrays_189 : decode cX7_layTrays 189 = .ok (.iload 4, 2) := by decide +kernel
theorem dX7_layTrays_191 : decode cX7_layTrays 191 = .ok (.iload 6, 2) := by decide +kernel
theorem dX7_layTrays_193 : decode cX7_layTrays 193 = .ok (.iastore, 1) := by decide +kernel
theorem dX7_layTrays_194 : decode cX7_layTrays 194 = .ok (.iinc 4 1, 3) := by decide +kernel
theorem dX7_layTrays_197 : decode cX7_layTrays 197 = .ok (.goto (-134), 3) := by decide +kernel
theorem dX7_layTrays_200 : decode cX7_layTrays 200 = .ok (.iinc 1 1, 3) := by decide +kernel
theorem dX7_layTrays_203 : decode cX7_layTrays 203 = .ok (.goto (-158), 3) := by decide +kernel
theorem dX7_layTrays_206 : decode cX7_layTrays 206 = .ok (.return_, 1) := by decide +kernel
theorem dX7_tray_0 : decode cX7_tray 0 = .ok (.iload_n 1, 1) := by decide +kernel
theorem dX7_tray_1 : decode cX7_tray 1 = .ok (.iconst 0, 1) := by decide +kernel
theorem dX7_tray_2 : decode cX7_tray 2 = .ok (.iconst 2, 1) := by decide +kernel
theorem dX7_tray_3 : decode cX7_tray 3 = .ok (.invokestatic 56, 3) := by decide +kernel
theorem dX7_tray_6 : decode cX7_tray 6 = .ok (.ifCond .eq 21, 3) := by decide +kernel
theorem dX7_tray_9 : decode cX7_tray 9 = .ok (.iload_n 2, 1) := by decide +kernel
theorem dX7_tray_10 : decode cX7_tray 10 = .ok (.iconst 0, 1) := by decide +kernel
theorem dX7_tray_11 : decode cX7_tray 11 = .ok (.aload_n 0, 1) := by decide +kernel
theorem dX7_tray_12 : decode cX7_tray 12 = .ok (.getfield 7, 3) := by decide +kernel
theorem dX7_tray_15 : decode cX7_tray 15 = .ok (.sipush 6422, 3) := by decide +kernel
theorem dX7_tray_18 : decode cX7_tray 18 = .ok (.iaload, 1) := by decide +kernel
theorem dX7_tray_19 : decode cX7_tray 19 = .ok (.iconst 1, 1) := by decide +kernel
theorem dX7_tray_20 : decode cX7_tray 20 = .ok (.isub, 1) := by decide +kernel
theorem dX7_tray_21 : decode cX7_tray 21 = .ok (.invokestatic 56, 3) := by decide +kernel
theorem dX7_tray_24 : decode cX7_tray 24 = .ok (.ifCond .ne 6, 3) := by decide +kernel
theorem dX7_tray_27 : decode cX7_tray 27 = .ok (.bipush (-2), 2) := by decide +kernel
theorem dX7_tray_29 : decode cX7_tray 29 = .ok (.ireturn, 1) := by decide +kernel
theorem dX7_tray_30 : decode cX7_tray 30 = .ok (.aload_n 0, 1) := by decide +kernel
theorem dX7_tray_31 : decode cX7_tray 31 = .ok (.invokevirtual 119, 3) := by decide +kernel
theorem dX7_tray_34 : decode cX7_tray 34 = .ok (.aload_n 0, 1) := by decide +kernel
theorem dX7_tray_35 : decode cX7_tray 35 = .ok (.invokevirtual 122, 3) := by decide +kernel
theorem dX7_tray_38 : decode cX7_tray 38 = .ok (.aload_n 0, 1) := by decide +kernel
theorem dX7_tray_39 : decode cX7_tray 39 = .ok (.getfield 50, 3) := by decide +kernel
theorem dX7_tray_42 : decode cX7_tray 42 = .ok (.bipush 6, 2) := by decide +kernel
theorem dX7_tray_44 : decode cX7_tray 44 = .ok (.iload_n 1, 1) := by decide +kernel
theorem dX7_tray_45 : decode cX7_tray 45 = .ok (.imul, 1) := by decide +kernel
theorem dX7_tray_46 : decode cX7_tray 46 = .ok (.iload_n 2, 1) := by decide +kernel
theorem dX7_tray_47 : decode cX7_tray 47 = .ok (.iadd, 1) := by decide +kernel
theorem dX7_tray_48 : decode cX7_tray 48 = .ok (.iaload, 1) := by decide +kernel
theorem dX7_tray_49 : decode cX7_tray 49 = .ok (.ireturn, 1) := by decide +kernel
theorem dX7_canAt_0 : decode cX7_canAt 0 = .ok (.aload_n 0, 1) := by decide +kernel
theorem dX7_canAt_1 : decode cX7_canAt 1 = .ok (.bipush (-6), 2) := by decide +kernel
theorem dX7_canAt_3 : decode cX7_canAt 3 = .ok (.invokevirtual 105, 3) := by decide +kernel
theorem dX7_canAt_6 : decode cX7_canAt 6 = .ok (.bipush (-6), 2) := by decide +kernel
theorem dX7_canAt_8 : decode cX7_canAt 8 = .ok (.istore_n 3, 1) := by decide +kernel
theorem dX7_canAt_9 : decode cX7_canAt 9 = .ok (.bipush (-6), 2) := by decide +kernel
theorem dX7_canAt_11 : decode cX7_canAt 11 = .ok (.istore 4, 2) := by decide +kernel
theorem dX7_canAt_13 : decode cX7_canAt 13 = .ok (.iconst 0, 1) := by decide +kernel
theorem dX7_canAt_14 : decode cX7_canAt 14 = .ok (.istore 5, 2) := by decide +kernel
theorem dX7_canAt_16 : decode cX7_canAt 16 = .ok (.iconst 0, 1) := by decide +kernel
theorem dX7_canAt_17 : decode cX7_canAt 17 = .ok (.istore 6, 2) := by decide +kernel
theorem dX7_canAt_19 : decode cX7_canAt 19 = .ok (.iload 6, 2) := by decide +kernel
theorem dX7_canAt_21 : decode cX7_canAt 21 = .ok (.sipush 301, 3) := by decide +kernel
theorem dX7_canAt_24 : decode cX7_canAt 24 = .ok (.if_icmp .ge 43, 3) := by decide +kernel
theorem dX7_canAt_27 : decode cX7_canAt 27 = .ok (.aload_n 0, 1) := by decide +kernel
theorem dX7_canAt_28 : decode cX7_canAt 28 = .ok (.getfield 23, 3) := by decide +kernel
theorem dX7_canAt_31 : decode cX7_canAt 31 = .ok (.sipush 301, 3) := by decide +kernel
theorem dX7_canAt_34 : decode cX7_canAt 34 = .ok (.iload_n 1, 1) := by decide +kernel
theorem dX7_canAt_35 : decode cX7_canAt 35 = .ok (.imul, 1) := by decide +kernel
theorem dX7_canAt_36 : decode cX7_canAt 36 = .ok (.iload 6, 2) := by decide +kernel
theorem dX7_canAt_38 : decode cX7_canAt 38 = .ok (.iadd, 1) := by decide +kernel
theorem dX7_canAt_39 : decode cX7_canAt 39 = .ok (.iaload, 1) := by decide +kernel
theorem dX7_canAt_40 : decode cX7_canAt 40 = .ok (.ifCond .lt 21, 3) := by decide +kernel
theorem dX7_canAt_43 : decode cX7_canAt 43 = .ok (.iload_n 3, 1) := by decide +kernel
theorem dX7_canAt_44 : decode cX7_canAt 44 = .ok (.ifCond .ge 8, 3) := by decide +kernel
theorem dX7_canAt_47 : decode cX7_canAt 47 = .ok (.iload 6, 2) := by decide +kernel
theorem dX7_canAt_49 : decode cX7_canAt 49 = .ok (.goto 4, 3) := by decide +kernel
theorem dX7_canAt_52 : decode cX7_canAt 52 = .ok (.iload_n 3, 1) := by decide +kernel
theorem dX7_canAt_53 : decode cX7_canAt 53 = .ok (.istore_n 3, 1) := by decide +kernel
theorem dX7_canAt_54 : decode cX7_canAt 54 = .ok (.iload 6, 2) := by decide +kernel
theorem dX7_canAt_56 : decode cX7_canAt 56 = .ok (.istore 4, 2) := by decide +kernel
theorem dX7_canAt_58 : decode cX7_canAt 58 = .ok (.iinc 5 1, 3) := by decide +kernel
theorem dX7_canAt_61 : decode cX7_canAt 61 = .ok (.iinc 6 1, 3) := by decide +kernel
theorem dX7_canAt_64 : decode cX7_canAt 64 = .ok (.goto (-45), 3) := by decide +kernel
theorem dX7_canAt_67 : decode cX7_canAt 67 = .ok (.iload_n 2, 1) := by decide +kernel
theorem dX7_canAt_68 : decode cX7_canAt 68 = .ok (.bipush 8, 2) := by decide +kernel
theorem dX7_canAt_70 : decode cX7_canAt 70 = .ok (.if_icmp .ne 7, 3) := by decide +kernel
theorem dX7_canAt_73 : decode cX7_canAt 73 = .ok (.iload_n 3, 1) := by decide +kernel
theorem dX7_canAt_74 : decode cX7_canAt 74 = .ok (.goto 16, 3) := by decide +kernel
theorem dX7_canAt_77 : decode cX7_canAt 77 = .ok (.iload_n 2, 1) := by decide +kernel
theorem dX7_canAt_78 : decode cX7_canAt 78 = .ok (.bipush 9, 2) := by decide +kernel
theorem dX7_canAt_80 : decode cX7_canAt 80 = .ok (.if_icmp .ne 8, 3) := by decide +kernel
theorem dX7_canAt_83 : decode cX7_canAt 83 = .ok (.iload 4, 2) := by decide +kernel
theorem dX7_canAt_85 : decode cX7_canAt 85 = .ok (.goto 5, 3) := by decide +kernel
theorem dX7_canAt_88 : decode cX7_canAt 88 = .ok (.iload 5, 2) := by decide +kernel
theorem dX7_canAt_90 : decode cX7_canAt 90 = .ok (.ireturn, 1) := by decide +kernel
theorem dX7_planned_0 : decode cX7_planned 0 = .ok (.aload_n 0, 1) := by decide +kernel
theorem dX7_planned_1 : decode cX7_planned 1 = .ok (.invokevirtual 119, 3) := by decide +kernel
theorem dX7_planned_4 : decode cX7_planned 4 = .ok (.aload_n 0, 1) := by decide +kernel
theorem dX7_planned_5 : decode cX7_planned 5 = .ok (.invokevirtual 122, 3) := by decide +kernel
theorem dX7_planned_8 : decode cX7_planned 8 = .ok (.iload_n 2, 1) := by decide +kernel
theorem dX7_planned_9 : decode cX7_planned 9 = .ok (.iconst 5, 1) := by decide +kernel
theorem dX7_planned_10 : decode cX7_planned 10 = .ok (.if_icmp .ne 12, 3) := by decide +kernel
theorem dX7_planned_13 : decode cX7_planned 13 = .ok (.aload_n 0, 1) := by decide +kernel
theorem dX7_planned_14 : decode cX7_planned 14 = .ok (.getfield 44, 3) := by decide +kernel
theorem dX7_planned_17 : decode cX7_planned 17 = .ok (.iload_n 1, 1) := by decide +kernel
theorem dX7_planned_18 : decode cX7_planned 18 = .ok (.iaload, 1) := by decide +kernel
theorem dX7_planned_19 : decode cX7_planned 19 = .ok (.goto 24, 3) := by decide +kernel
theorem dX7_planned_22 : decode cX7_planned 22 = .ok (.iload_n 2, 1) := by decide +kernel
theorem dX7_planned_23 : decode cX7_planned 23 = .ok (.bipush 6, 2) := by decide +kernel
theorem dX7_planned_25 : decode cX7_planned 25 = .ok (.if_icmp .ne 12, 3) := by decide +kernel
theorem dX7_planned_28 : decode cX7_planned 28 = .ok (.aload_n 0, 1) := by decide +kernel
theorem dX7_planned_29 : decode cX7_planned 29 = .ok (.getfield 47, 3) := by decide +kernel
theorem dX7_planned_32 : decode cX7_planned 32 = .ok (.iload_n 1, 1) := by decide +kernel
theorem dX7_planned_33 : decode cX7_planned 33 = .ok (.iaload, 1) := by decide +kernel
theorem dX7_planned_34 : decode cX7_planned 34 = .ok (.goto 9, 3) := by decide +kernel
theorem dX7_planned_37 : decode cX7_planned 37 = .ok (.aload_n 0, 1) := by decide +kernel
theorem dX7_planned_38 : decode cX7_planned 38 = .ok (.getfield 53, 3) := by decide +kernel
theorem dX7_planned_41 : decode cX7_planned 41 = .ok (.iload_n 1, 1) := by decide +kernel
theorem dX7_planned_42 : decode cX7_planned 42 = .ok (.iaload, 1) := by decide +kernel
theorem dX7_planned_43 : decode cX7_planned 43 = .ok (.ireturn, 1) := by decide +kernel
theorem dX7_thing_0 : decode cX7_thing 0 = .ok (.aload_n 0, 1) := by decide +kernel
theorem dX7_thing_1 : decode cX7_thing 1 = .ok (.iload_n 1, 1) := by decide +kernel
theorem dX7_thing_2 : decode cX7_thing 2 = .ok (.invokevirtual 86, 3) := by decide +kernel
theorem dX7_thing_5 : decode cX7_thing 5 = .ok (.ifCond .ne 5, 3) := by decide +kernel
theorem dX7_thing_8 : decode cX7_thing 8 = .ok (.iconst (-1), 1) := by decide +kernel
theorem dX7_thing_9 : decode cX7_thing 9 = .ok (.ireturn, 1) := by decide +kernel
theorem dX7_thing_10 : decode cX7_thing 10 = .ok (.iload_n 2, 1) := by decide +kernel
theorem dX7_thing_11 : decode cX7_thing 11 = .ok (.iconst 0, 1) := by decide +kernel
theorem dX7_thing_12 : decode cX7_thing 12 = .ok (.bipush 10, 2) := by decide +kernel
theorem dX7_thing_14 : decode cX7_thing 14 = .ok (.invokestatic 56, 3) := by decide +kernel
theorem dX7_thing_17 : decode cX7_thing 17 = .ok (.ifCond .ne 6, 3) := by decide +kernel
theorem dX7_thing_20 : decode cX7_thing 20 = .ok (.bipush (-2), 2) := by decide +kernel
theorem dX7_thing_22 : decode cX7_thing 22 = .ok (.ireturn, 1) := by decide +kernel
theorem dX7_thing_23 : decode cX7_thing 23 = .ok (.iload_n 2, 1) := by decide +kernel
theorem dX7_thing_24 : decode cX7_thing 24 = .ok (.iconst 4, 1) := by decide +kernel
theorem dX7_thing_25 : decode cX7_thing 25 = .ok (.if_icmp .ge 21, 3) := by decide +kernel
theorem dX7_thing_28 : decode cX7_thing 28 = .ok (.aload_n 0, 1) := by decide +kernel
theorem dX7_thing_29 : decode cX7_thing 29 = .ok (.getfield 7, 3) := by decide +kernel
theorem dX7_thing_32 : decode cX7_thing 32 = .ok (.sipush 301, 3) := by decide +kernel
theorem dX7_thing_35 : decode cX7_thing 35 = .ok (.bipush 20, 2) := by decide +kernel
theorem dX7_thing_37 : decode cX7_thing 37 = .ok (.iload_n 2, 1) := by decide +kernel
theorem dX7_thing_38 : decode cX7_thing 38 = .ok (.imul, 1) := by decide +kernel
theorem dX7_thing_39 : decode cX7_thing 39 = .ok (.iadd, 1) := by decide +kernel
theorem dX7_thing_40 : decode cX7_thing 40 = .ok (.iload_n 1, 1) := by decide +kernel
theorem dX7_thing_41 : decode cX7_thing 41 = .ok (.iadd, 1) := by decide +kernel
theorem dX7_thing_42 : decode cX7_thing 42 = .ok (.iaload, 1) := by decide +kernel
theorem dX7_thing_43 : decode cX7_thing 43 = .ok (.goto 37, 3) := by decide +kernel
theorem dX7_thing_46 : decode cX7_thing 46 = .ok (.iload_n 2, 1) := by decide +kernel
theorem dX7_thing_47 : decode cX7_thing 47 = .ok (.iconst 4, 1) := by decide +kernel
theorem dX7_thing_48 : decode cX7_thing 48 = .ok (.if_icmp .ne 11, 3) := by decide +kernel
theorem dX7_thing_51 : decode cX7_thing 51 = .ok (.aload_n 0, 1) := by decide +kernel
theorem dX7_thing_52 : decode cX7_thing 52 = .ok (.iload_n 1, 1) := by decide +kernel
theorem dX7_thing_53 : decode cX7_thing 53 = .ok (.invokevirtual 125, 3) := by decide +kernel
theorem dX7_thing_56 : decode cX7_thing 56 = .ok (.goto 24, 3) := by decide +kernel
theorem dX7_thing_59 : decode cX7_thing 59 = .ok (.iload_n 2, 1) := by decide +kernel
theorem dX7_thing_60 : decode cX7_thing 60 = .ok (.bipush 8, 2) := by decide +kernel
theorem dX7_thing_62 : decode cX7_thing 62 = .ok (.if_icmp .ge 12, 3) := by decide +kernel
theorem dX7_thing_65 : decode cX7_thing 65 = .ok (.aload_n 0, 1) := by decide +kernel
theorem dX7_thing_66 : decode cX7_thing 66 = .ok (.iload_n 1, 1) := by decide +kernel
theorem dX7_thing_67 : decode cX7_thing 67 = .ok (.iload_n 2, 1) := by decide +kernel
theorem dX7_thing_68 : decode cX7_thing 68 = .ok (.invokevirtual 128, 3) := by decide +kernel
theorem dX7_thing_71 : decode cX7_thing 71 = .ok (.goto 9, 3) := by decide +kernel
theorem dX7_thing_74 : decode cX7_thing 74 = .ok (.aload_n 0, 1) := by decide +kernel
theorem dX7_thing_75 : decode cX7_thing 75 = .ok (.iload_n 1, 1) := by decide +kernel
theorem dX7_thing_76 : decode cX7_thing 76 = .ok (.iload_n 2, 1) := by decide +kernel
theorem dX7_thing_77 : decode cX7_thing 77 = .ok (.invokevirtual 131, 3) := by decide +kernel
theorem dX7_thing_80 : decode cX7_thing 80 = .ok (.ireturn, 1) := by decide +kernel
theorem dX7_takenBy_0 : decode cX7_takenBy 0 = .ok (.aload_n 0, 1) := by decide +kernel
theorem dX7_takenBy_1 : decode cX7_takenBy 1 = .ok (.invokevirtual 119, 3) := by decide +kernel
theorem dX7_takenBy_4 : decode cX7_takenBy 4 = .ok (.iconst 0, 1) := by decide +kernel
theorem dX7_takenBy_5 : decode cX7_takenBy 5 = .ok (.istore_n 2, 1) := by decide +kernel
theorem dX7_takenBy_6 : decode cX7_takenBy 6 = .ok (.iconst 0, 1) := by decide +kernel
theorem dX7_takenBy_7 : decode cX7_takenBy 7 = .ok (.istore_n 3, 1) := by decide +kernel
theorem dX7_takenBy_8 : decode cX7_takenBy 8 = .ok (.iload_n 3, 1) := by decide +kernel
theorem dX7_takenBy_9 : decode cX7_takenBy 9 = .ok (.aload_n 0, 1) := by decide +kernel
theorem dX7_takenBy_10 : decode cX7_takenBy 10 = .ok (.getfield 7, 3) := by decide +kernel
theorem dX7_takenBy_13 : decode cX7_takenBy 13 = .ok (.sipush 6423, 3) := by decide +kernel
theorem dX7_takenBy_16 : decode cX7_takenBy 16 = .ok (.iaload, 1) := by decide +kernel
theorem dX7_takenBy_17 : decode cX7_takenBy 17 = .ok (.if_icmp .ge 27, 3) := by decide +kernel
theorem dX7_takenBy_20 : decode cX7_takenBy 20 = .ok (.iload_n 2, 1) := by decide +kernel
theorem dX7_takenBy_21 : decode cX7_takenBy 21 = .ok (.aload_n 0, 1) := by decide +kernel
theorem dX7_takenBy_22 : decode cX7_takenBy 22 = .ok (.getfield 47, 3) := by decide +kernel
theorem dX7_takenBy_25 : decode cX7_takenBy 25 = .ok (.iload_n 3, 1) := by decide +kernel
theorem dX7_takenBy_26 : decode cX7_takenBy 26 = .ok (.iaload, 1) := by decide +kernel
theorem dX7_takenBy_27 : decode cX7_takenBy 27 = .ok (.iload_n 1, 1) := by decide +kernel
theorem dX7_takenBy_28 : decode cX7_takenBy 28 = .ok (.if_icmp .ne 7, 3) := by decide +kernel
theorem dX7_takenBy_31 : decode cX7_takenBy 31 = .ok (.iconst 1, 1) := by decide +kernel
theorem dX7_takenBy_32 : decode cX7_takenBy 32 = .ok (.goto 4, 3) := by decide +kernel
theorem dX7_takenBy_35 : decode cX7_takenBy 35 = .ok (.iconst 0, 1) := by decide +kernel
theorem dX7_takenBy_36 : decode cX7_takenBy 36 = .ok (.iadd, 1) := by decide +kernel
theorem dX7_takenBy_37 : decode cX7_takenBy 37 = .ok (.istore_n 2, 1) := by decide +kernel
theorem dX7_takenBy_38 : decode cX7_takenBy 38 = .ok (.iinc 3 1, 3) := by decide +kernel
theorem dX7_takenBy_41 : decode cX7_takenBy 41 = .ok (.goto (-33), 3) := by decide +kernel
theorem dX7_takenBy_44 : decode cX7_takenBy 44 = .ok (.iload_n 2, 1) := by decide +kernel
theorem dX7_takenBy_45 : decode cX7_takenBy 45 = .ok (.ireturn, 1) := by decide +kernel
theorem dX7_arm_0 : decode cX7_arm 0 = .ok (.iload_n 1, 1) := by decide +kernel
theorem dX7_arm_1 : decode cX7_arm 1 = .ok (.invokestatic 89, 3) := by decide +kernel
theorem dX7_arm_4 : decode cX7_arm 4 = .ok (.ifCond .ne 5, 3) := by decide +kernel
theorem dX7_arm_7 : decode cX7_arm 7 = .ok (.iconst (-1), 1) := by decide +kernel
theorem dX7_arm_8 : decode cX7_arm 8 = .ok (.ireturn, 1) := by decide +kernel
theorem dX7_arm_9 : decode cX7_arm 9 = .ok (.iload_n 2, 1) := by decide +kernel
theorem dX7_arm_10 : decode cX7_arm 10 = .ok (.iconst 0, 1) := by decide +kernel
theorem dX7_arm_11 : decode cX7_arm 11 = .ok (.bipush 6, 2) := by decide +kernel
theorem dX7_arm_13 : decode cX7_arm 13 = .ok (.invokestatic 56, 3) := by decide +kernel
theorem dX7_arm_16 : decode cX7_arm 16 = .ok (.ifCond .ne 6, 3) := by decide +kernel
theorem dX7_arm_19 : decode cX7_arm 19 = .ok (.bipush (-2), 2) := by decide +kernel
theorem dX7_arm_21 : decode cX7_arm 21 = .ok (.ireturn, 1) := by decide +kernel
theorem dX7_arm_22 : decode cX7_arm 22 = .ok (.iload_n 2, 1) := by decide +kernel
theorem dX7_arm_23 : decode cX7_arm 23 = .ok (.iconst 5, 1) := by decide +kernel
theorem dX7_arm_24 : decode cX7_arm 24 = .ok (.if_icmp .ge 20, 3) := by decide +kernel
theorem dX7_arm_27 : decode cX7_arm 27 = .ok (.aload_n 0, 1) := by decide +kernel
theorem dX7_arm_28 : decode cX7_arm 28 = .ok (.getfield 7, 3) := by decide +kernel
theorem dX7_arm_31 : decode cX7_arm 31 = .ok (.sipush 6401, 3) := by decide +kernel
theorem dX7_arm_34 : decode cX7_arm 34 = .ok (.iconst 4, 1) := by decide +kernel
theorem dX7_arm_35 : decode cX7_arm 35 = .ok (.iload_n 2, 1) := by decide +kernel
theorem dX7_arm_36 : decode cX7_arm 36 = .ok (.imul, 1) := by decide +kernel
theorem dX7_arm_37 : decode cX7_arm 37 = .ok (.iadd, 1) := by decide +kernel
theorem dX7_arm_38 : decode cX7_arm 38 = .ok (.iload_n 1, 1) := by decide +kernel
theorem dX7_arm_39 : decode cX7_arm 39 = .ok (.iadd, 1) := by decide +kernel
theorem dX7_arm_40 : decode cX7_arm 40 = .ok (.iaload, 1) := by decide +kernel
theorem dX7_arm_41 : decode cX7_arm 41 = .ok (.goto 28, 3) := by decide +kernel
theorem dX7_arm_44 : decode cX7_arm 44 = .ok (.iload_n 2, 1) := by decide +kernel
theorem dX7_arm_45 : decode cX7_arm 45 = .ok (.iconst 5, 1) := by decide +kernel
theorem dX7_arm_46 : decode cX7_arm 46 = .ok (.if_icmp .ne 11, 3) := by decide +kernel
