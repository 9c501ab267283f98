theorem dX3_firstChance_22 : decode cX3_firstChance 22 = .ok (.iload_n 3, 1) := by decide +kernel
theorem dX3_firstChance_23 : decode cX3_firstChance 23 = .ok (.iload_n 1, 1) := by decide +kernel
theorem dX3_firstChance_24 : decode cX3_firstChance 24 = .ok (.invokevirtual 112, 3) := by decide +kernel
theorem dX3_firstChance_27 : decode cX3_firstChance 27 = .ok (.if_icmp .gt 10, 3) := by decide +kernel
theorem dX3_firstChance_30 : decode cX3_firstChance 30 = .ok (.iload_n 2, 1) := by decide +kernel
theorem dX3_firstChance_31 : decode cX3_firstChance 31 = .ok (.iload 4, 2) := by decide +kernel
theorem dX3_firstChance_33 : decode cX3_firstChance 33 = .ok (.invokestatic 115, 3) := by decide +kernel
theorem dX3_firstChance_36 : decode cX3_firstChance 36 = .ok (.istore_n 2, 1) := by decide +kernel
theorem dX3_firstChance_37 : decode cX3_firstChance 37 = .ok (.iinc 3 1, 3) := by decide +kernel
theorem dX3_firstChance_40 : decode cX3_firstChance 40 = .ok (.goto (-34), 3) := by decide +kernel
theorem dX3_firstChance_43 : decode cX3_firstChance 43 = .ok (.iload_n 2, 1) := by decide +kernel
theorem dX3_firstChance_44 : decode cX3_firstChance 44 = .ok (.sipush 301, 3) := by decide +kernel
theorem dX3_firstChance_47 : decode cX3_firstChance 47 = .ok (.if_icmp .ne 8, 3) := by decide +kernel
theorem dX3_firstChance_50 : decode cX3_firstChance 50 = .ok (.bipush (-6), 2) := by decide +kernel
theorem dX3_firstChance_52 : decode cX3_firstChance 52 = .ok (.goto 4, 3) := by decide +kernel
theorem dX3_firstChance_55 : decode cX3_firstChance 55 = .ok (.iload_n 2, 1) := by decide +kernel
theorem dX3_firstChance_56 : decode cX3_firstChance 56 = .ok (.ireturn, 1) := by decide +kernel
theorem dX3_lastChance_0 : decode cX3_lastChance 0 = .ok (.iconst (-1), 1) := by decide +kernel
theorem dX3_lastChance_1 : decode cX3_lastChance 1 = .ok (.istore_n 2, 1) := by decide +kernel
theorem dX3_lastChance_2 : decode cX3_lastChance 2 = .ok (.iconst 0, 1) := by decide +kernel
theorem dX3_lastChance_3 : decode cX3_lastChance 3 = .ok (.istore_n 3, 1) := by decide +kernel
theorem dX3_lastChance_4 : decode cX3_lastChance 4 = .ok (.iload_n 3, 1) := by decide +kernel
theorem dX3_lastChance_5 : decode cX3_lastChance 5 = .ok (.iconst 4, 1) := by decide +kernel
theorem dX3_lastChance_6 : decode cX3_lastChance 6 = .ok (.if_icmp .ge 35, 3) := by decide +kernel
theorem dX3_lastChance_9 : decode cX3_lastChance 9 = .ok (.aload_n 0, 1) := by decide +kernel
theorem dX3_lastChance_10 : decode cX3_lastChance 10 = .ok (.iload_n 3, 1) := by decide +kernel
theorem dX3_lastChance_11 : decode cX3_lastChance 11 = .ok (.iload_n 1, 1) := by decide +kernel
theorem dX3_lastChance_12 : decode cX3_lastChance 12 = .ok (.invokevirtual 112, 3) := by decide +kernel
theorem dX3_lastChance_15 : decode cX3_lastChance 15 = .ok (.istore 4, 2) := by decide +kernel
theorem dX3_lastChance_17 : decode cX3_lastChance 17 = .ok (.iload 4, 2) := by decide +kernel
theorem dX3_lastChance_19 : decode cX3_lastChance 19 = .ok (.aload_n 0, 1) := by decide +kernel
theorem dX3_lastChance_20 : decode cX3_lastChance 20 = .ok (.iload_n 3, 1) := by decide +kernel
theorem dX3_lastChance_21 : decode cX3_lastChance 21 = .ok (.iload_n 1, 1) := by decide +kernel
theorem dX3_lastChance_22 : decode cX3_lastChance 22 = .ok (.invokevirtual 109, 3) := by decide +kernel
theorem dX3_lastChance_25 : decode cX3_lastChance 25 = .ok (.if_icmp .lt 10, 3) := by decide +kernel
theorem dX3_lastChance_28 : decode cX3_lastChance 28 = .ok (.iload_n 2, 1) := by decide +kernel
theorem dX3_lastChance_29 : decode cX3_lastChance 29 = .ok (.iload 4, 2) := by decide +kernel
theorem dX3_lastChance_31 : decode cX3_lastChance 31 = .ok (.invokestatic 97, 3) := by decide +kernel
theorem dX3_lastChance_34 : decode cX3_lastChance 34 = .ok (.istore_n 2, 1) := by decide +kernel
theorem dX3_lastChance_35 : decode cX3_lastChance 35 = .ok (.iinc 3 1, 3) := by decide +kernel
theorem dX3_lastChance_38 : decode cX3_lastChance 38 = .ok (.goto (-34), 3) := by decide +kernel
theorem dX3_lastChance_41 : decode cX3_lastChance 41 = .ok (.iload_n 2, 1) := by decide +kernel
theorem dX3_lastChance_42 : decode cX3_lastChance 42 = .ok (.iconst (-1), 1) := by decide +kernel
theorem dX3_lastChance_43 : decode cX3_lastChance 43 = .ok (.if_icmp .ne 8, 3) := by decide +kernel
theorem dX3_lastChance_46 : decode cX3_lastChance 46 = .ok (.bipush (-6), 2) := by decide +kernel
theorem dX3_lastChance_48 : decode cX3_lastChance 48 = .ok (.goto 4, 3) := by decide +kernel
theorem dX3_lastChance_51 : decode cX3_lastChance 51 = .ok (.iload_n 2, 1) := by decide +kernel
theorem dX3_lastChance_52 : decode cX3_lastChance 52 = .ok (.ireturn, 1) := by decide +kernel
theorem dX3_chances_0 : decode cX3_chances 0 = .ok (.iconst 0, 1) := by decide +kernel
theorem dX3_chances_1 : decode cX3_chances 1 = .ok (.istore_n 2, 1) := by decide +kernel
theorem dX3_chances_2 : decode cX3_chances 2 = .ok (.iconst 0, 1) := by decide +kernel
theorem dX3_chances_3 : decode cX3_chances 3 = .ok (.istore_n 3, 1) := by decide +kernel
theorem dX3_chances_4 : decode cX3_chances 4 = .ok (.iload_n 3, 1) := by decide +kernel
theorem dX3_chances_5 : decode cX3_chances 5 = .ok (.iconst 4, 1) := by decide +kernel
theorem dX3_chances_6 : decode cX3_chances 6 = .ok (.if_icmp .ge 50, 3) := by decide +kernel
theorem dX3_chances_9 : decode cX3_chances 9 = .ok (.aload_n 0, 1) := by decide +kernel
theorem dX3_chances_10 : decode cX3_chances 10 = .ok (.iload_n 3, 1) := by decide +kernel
theorem dX3_chances_11 : decode cX3_chances 11 = .ok (.iload_n 1, 1) := by decide +kernel
theorem dX3_chances_12 : decode cX3_chances 12 = .ok (.invokevirtual 112, 3) := by decide +kernel
theorem dX3_chances_15 : decode cX3_chances 15 = .ok (.aload_n 0, 1) := by decide +kernel
theorem dX3_chances_16 : decode cX3_chances 16 = .ok (.iload_n 3, 1) := by decide +kernel
theorem dX3_chances_17 : decode cX3_chances 17 = .ok (.iload_n 1, 1) := by decide +kernel
theorem dX3_chances_18 : decode cX3_chances 18 = .ok (.invokevirtual 109, 3) := by decide +kernel
theorem dX3_chances_21 : decode cX3_chances 21 = .ok (.isub, 1) := by decide +kernel
theorem dX3_chances_22 : decode cX3_chances 22 = .ok (.istore 4, 2) := by decide +kernel
theorem dX3_chances_24 : decode cX3_chances 24 = .ok (.iload 4, 2) := by decide +kernel
theorem dX3_chances_26 : decode cX3_chances 26 = .ok (.ifCond .lt 24, 3) := by decide +kernel
theorem dX3_chances_29 : decode cX3_chances 29 = .ok (.iload_n 2, 1) := by decide +kernel
theorem dX3_chances_30 : decode cX3_chances 30 = .ok (.iload 4, 2) := by decide +kernel
theorem dX3_chances_32 : decode cX3_chances 32 = .ok (.iconst 1, 1) := by decide +kernel
theorem dX3_chances_33 : decode cX3_chances 33 = .ok (.aload_n 0, 1) := by decide +kernel
theorem dX3_chances_34 : decode cX3_chances 34 = .ok (.getfield 28, 3) := by decide +kernel
theorem dX3_chances_37 : decode cX3_chances 37 = .ok (.getfield 118, 3) := by decide +kernel
theorem dX3_chances_40 : decode cX3_chances 40 = .ok (.iload_n 3, 1) := by decide +kernel
theorem dX3_chances_41 : decode cX3_chances 41 = .ok (.iaload, 1) := by decide +kernel
theorem dX3_chances_42 : decode cX3_chances 42 = .ok (.invokestatic 97, 3) := by decide +kernel
theorem dX3_chances_45 : decode cX3_chances 45 = .ok (.idiv, 1) := by decide +kernel
theorem dX3_chances_46 : decode cX3_chances 46 = .ok (.iconst 1, 1) := by decide +kernel
theorem dX3_chances_47 : decode cX3_chances 47 = .ok (.iadd, 1) := by decide +kernel
theorem dX3_chances_48 : decode cX3_chances 48 = .ok (.iadd, 1) := by decide +kernel
theorem dX3_chances_49 : decode cX3_chances 49 = .ok (.istore_n 2, 1) := by decide +kernel
theorem dX3_chances_50 : decode cX3_chances 50 = .ok (.iinc 3 1, 3) := by decide +kernel
theorem dX3_chances_53 : decode cX3_chances 53 = .ok (.goto (-49), 3) := by decide +kernel
theorem dX3_chances_56 : decode cX3_chances 56 = .ok (.iload_n 2, 1) := by decide +kernel
theorem dX3_chances_57 : decode cX3_chances 57 = .ok (.ireturn, 1) := by decide +kernel
theorem dX4_init_0 : decode cX4_init 0 = .ok (.aload_n 0, 1) := by decide +kernel
theorem dX4_init_1 : decode cX4_init 1 = .ok (.invokespecial 5, 3) := by decide +kernel
theorem dX4_init_4 : decode cX4_init 4 = .ok (.aload_n 0, 1) := by decide +kernel
theorem dX4_init_5 : decode cX4_init 5 = .ok (.iconst 0, 1) := by decide +kernel
theorem dX4_init_6 : decode cX4_init 6 = .ok (.putfield 11, 3) := by decide +kernel
theorem dX4_init_9 : decode cX4_init 9 = .ok (.aload_n 0, 1) := by decide +kernel
theorem dX4_init_10 : decode cX4_init 10 = .ok (.bipush 20, 2) := by decide +kernel
theorem dX4_init_12 : decode cX4_init 12 = .ok (.newarray .int, 2) := by decide +kernel
theorem dX4_init_14 : decode cX4_init 14 = .ok (.putfield 15, 3) := by decide +kernel
theorem dX4_init_17 : decode cX4_init 17 = .ok (.aload_n 0, 1) := by decide +kernel
theorem dX4_init_18 : decode cX4_init 18 = .ok (.bipush 20, 2) := by decide +kernel
theorem dX4_init_20 : decode cX4_init 20 = .ok (.newarray .int, 2) := by decide +kernel
theorem dX4_init_22 : decode cX4_init 22 = .ok (.putfield 19, 3) := by decide +kernel
theorem dX4_init_25 : decode cX4_init 25 = .ok (.aload_n 0, 1) := by decide +kernel
theorem dX4_init_26 : decode cX4_init 26 = .ok (.bipush 20, 2) := by decide +kernel
theorem dX4_init_28 : decode cX4_init 28 = .ok (.newarray .int, 2) := by decide +kernel
theorem dX4_init_30 : decode cX4_init 30 = .ok (.putfield 22, 3) := by decide +kernel
theorem dX4_init_33 : decode cX4_init 33 = .ok (.aload_n 0, 1) := by decide +kernel
theorem dX4_init_34 : decode cX4_init 34 = .ok (.bipush 20, 2) := by decide +kernel
theorem dX4_init_36 : decode cX4_init 36 = .ok (.newarray .int, 2) := by decide +kernel
theorem dX4_init_38 : decode cX4_init 38 = .ok (.putfield 25, 3) := by decide +kernel
theorem dX4_init_41 : decode cX4_init 41 = .ok (.aload_n 0, 1) := by decide +kernel
theorem dX4_init_42 : decode cX4_init 42 = .ok (.bipush 100, 2) := by decide +kernel
theorem dX4_init_44 : decode cX4_init 44 = .ok (.newarray .long, 2) := by decide +kernel
theorem dX4_init_46 : decode cX4_init 46 = .ok (.putfield 28, 3) := by decide +kernel
theorem dX4_init_49 : decode cX4_init 49 = .ok (.return_, 1) := by decide +kernel
theorem dX4_copyFrom_0 : decode cX4_copyFrom 0 = .ok (.aload_n 0, 1) := by decide +kernel
theorem dX4_copyFrom_1 : decode cX4_copyFrom 1 = .ok (.aload_n 1, 1) := by decide +kernel
theorem dX4_copyFrom_2 : decode cX4_copyFrom 2 = .ok (.getfield 11, 3) := by decide +kernel
theorem dX4_copyFrom_5 : decode cX4_copyFrom 5 = .ok (.putfield 11, 3) := by decide +kernel
theorem dX4_copyFrom_8 : decode cX4_copyFrom 8 = .ok (.aload_n 1, 1) := by decide +kernel
theorem dX4_copyFrom_9 : decode cX4_copyFrom 9 = .ok (.getfield 15, 3) := by decide +kernel
theorem dX4_copyFrom_12 : decode cX4_copyFrom 12 = .ok (.iconst 0, 1) := by decide +kernel
theorem dX4_copyFrom_13 : decode cX4_copyFrom 13 = .ok (.aload_n 0, 1) := by decide +kernel
theorem dX4_copyFrom_14 : decode cX4_copyFrom 14 = .ok (.getfield 15, 3) := by decide +kernel
theorem dX4_copyFrom_17 : decode cX4_copyFrom 17 = .ok (.iconst 0, 1) := by decide +kernel
theorem dX4_copyFrom_18 : decode cX4_copyFrom 18 = .ok (.bipush 20, 2) := by decide +kernel
theorem dX4_copyFrom_20 : decode cX4_copyFrom 20 = .ok (.invokestatic 32, 3) := by decide +kernel
theorem dX4_copyFrom_23 : decode cX4_copyFrom 23 = .ok (.aload_n 1, 1) := by decide +kernel
theorem dX4_copyFrom_24 : decode cX4_copyFrom 24 = .ok (.getfield 19, 3) := by decide +kernel
theorem dX4_copyFrom_27 : decode cX4_copyFrom 27 = .ok (.iconst 0, 1) := by decide +kernel
theorem dX4_copyFrom_28 : decode cX4_copyFrom 28 = .ok (.aload_n 0, 1) := by decide +kernel
theorem dX4_copyFrom_29 : decode cX4_copyFrom 29 = .ok (.getfield 19, 3) := by decide +kernel
theorem dX4_copyFrom_32 : decode cX4_copyFrom 32 = .ok (.iconst 0, 1) := by decide +kernel
theorem dX4_copyFrom_33 : decode cX4_copyFrom 33 = .ok (.bipush 20, 2) := by decide +kernel
theorem dX4_copyFrom_35 : decode cX4_copyFrom 35 = .ok (.invokestatic 32, 3) := by decide +kernel
theorem dX4_copyFrom_38 : decode cX4_copyFrom 38 = .ok (.aload_n 1, 1) := by decide +kernel
theorem dX4_copyFrom_39 : decode cX4_copyFrom 39 = .ok (.getfield 22, 3) := by decide +kernel
theorem dX4_copyFrom_42 : decode cX4_copyFrom 42 = .ok (.iconst 0, 1) := by decide +kernel
theorem dX4_copyFrom_43 : decode cX4_copyFrom 43 = .ok (.aload_n 0, 1) := by decide +kernel
theorem dX4_copyFrom_44 : decode cX4_copyFrom 44 = .ok (.getfield 22, 3) := by decide +kernel
theorem dX4_copyFrom_47 : decode cX4_copyFrom 47 = .ok (.iconst 0, 1) := by decide +kernel
theorem dX4_copyFrom_48 : decode cX4_copyFrom 48 = .ok (.bipush 20, 2) := by decide +kernel
theorem dX4_copyFrom_50 : decode cX4_copyFrom 50 = .ok (.invokestatic 32, 3) := by decide +kernel
theorem dX4_copyFrom_53 : decode cX4_copyFrom 53 = .ok (.aload_n 1, 1) := by decide +kernel
theorem dX4_copyFrom_54 : decode cX4_copyFrom 54 = .ok (.getfield 25, 3) := by decide +kernel
theorem dX4_copyFrom_57 : decode cX4_copyFrom 57 = .ok (.iconst 0, 1) := by decide +kernel
theorem dX4_copyFrom_58 : decode cX4_copyFrom 58 = .ok (.aload_n 0, 1) := by decide +kernel
theorem dX4_copyFrom_59 : decode cX4_copyFrom 59 = .ok (.getfield 25, 3) := by decide +kernel
theorem dX4_copyFrom_62 : decode cX4_copyFrom 62 = .ok (.iconst 0, 1) := by decide +kernel
theorem dX4_copyFrom_63 : decode cX4_copyFrom 63 = .ok (.bipush 20, 2) := by decide +kernel
theorem dX4_copyFrom_65 : decode cX4_copyFrom 65 = .ok (.invokestatic 32, 3) := by decide +kernel
theorem dX4_copyFrom_68 : decode cX4_copyFrom 68 = .ok (.aload_n 1, 1) := by decide +kernel
theorem dX4_copyFrom_69 : decode cX4_copyFrom 69 = .ok (.getfield 28, 3) := by decide +kernel
theorem dX4_copyFrom_72 : decode cX4_copyFrom 72 = .ok (.iconst 0, 1) := by decide +kernel
theorem dX4_copyFrom_73 : decode cX4_copyFrom 73 = .ok (.aload_n 0, 1) := by decide +kernel
theorem dX4_copyFrom_74 : decode cX4_copyFrom 74 = .ok (.getfield 28, 3) := by decide +kernel
theorem dX4_copyFrom_77 : decode cX4_copyFrom 77 = .ok (.iconst 0, 1) := by decide +kernel
theorem dX4_copyFrom_78 : decode cX4_copyFrom 78 = .ok (.bipush 100, 2) := by decide +kernel
theorem dX4_copyFrom_80 : decode cX4_copyFrom 80 = .ok (.invokestatic 32, 3) := by decide +kernel
theorem dX4_copyFrom_83 : decode cX4_copyFrom 83 = .ok (.return_, 1) := by decide +kernel
theorem dX4_append_0 : decode cX4_append 0 = .ok (.aload_n 0, 1) := by decide +kernel
theorem dX4_append_1 : decode cX4_append 1 = .ok (.getfield 11, 3) := by decide +kernel
theorem dX4_append_4 : decode cX4_append 4 = .ok (.bipush 20, 2) := by decide +kernel
theorem dX4_append_6 : decode cX4_append 6 = .ok (.if_icmp .lt 4, 3) := by decide +kernel
theorem dX4_append_9 : decode cX4_append 9 = .ok (.return_, 1) := by decide +kernel
theorem dX4_append_10 : decode cX4_append 10 = .ok (.aload_n 0, 1) := by decide +kernel
theorem dX4_append_11 : decode cX4_append 11 = .ok (.getfield 15, 3) := by decide +kernel
theorem dX4_append_14 : decode cX4_append 14 = .ok (.aload_n 0, 1) := by decide +kernel
theorem dX4_append_15 : decode cX4_append 15 = .ok (.getfield 11, 3) := by decide +kernel
theorem dX4_append_18 : decode cX4_append 18 = .ok (.iload_n 1, 1) := by decide +kernel
theorem dX4_append_19 : decode cX4_append 19 = .ok (.iastore, 1) := by decide +kernel
theorem dX4_append_20 : decode cX4_append 20 = .ok (.aload_n 0, 1) := by decide +kernel
theorem dX4_append_21 : decode cX4_append 21 = .ok (.getfield 19, 3) := by decide +kernel
theorem dX4_append_24 : decode cX4_append 24 = .ok (.aload_n 0, 1) := by decide +kernel
theorem dX4_append_25 : decode cX4_append 25 = .ok (.getfield 11, 3) := by decide +kernel
theorem dX4_append_28 : decode cX4_append 28 = .ok (.iload_n 2, 1) := by decide +kernel
theorem dX4_append_29 : decode cX4_append 29 = .ok (.iastore, 1) := by decide +kernel
theorem dX4_append_30 : decode cX4_append 30 = .ok (.aload_n 0, 1) := by decide +kernel
theorem dX4_append_31 : decode cX4_append 31 = .ok (.getfield 22, 3) := by decide +kernel
theorem dX4_append_34 : decode cX4_append 34 = .ok (.aload_n 0, 1) := by decide +kernel
theorem dX4_append_35 : decode cX4_append 35 = .ok (.getfield 11, 3) := by decide +kernel
theorem dX4_append_38 : decode cX4_append 38 = .ok (.iload_n 3, 1) := by decide +kernel
theorem dX4_append_39 : decode cX4_append 39 = .ok (.iastore, 1) := by decide +kernel
theorem dX4_append_40 : decode cX4_append 40 = .ok (.aload_n 0, 1) := by decide +kernel
theorem dX4_append_41 : decode cX4_append 41 = .ok (.getfield 25, 3) := by decide +kernel
theorem dX4_append_44 : decode cX4_append 44 = .ok (.aload_n 0, 1) := by decide +kernel
theorem dX4_append_45 : decode cX4_append 45 = .ok (.getfield 11, 3) := by decide +kernel
theorem dX4_append_48 : decode cX4_append 48 = .ok (.iload 4, 2) := by decide +kernel
theorem dX4_append_50 : decode cX4_append 50 = .ok (.iastore, 1) := by decide +kernel
theorem dX4_append_51 : decode cX4_append 51 = .ok (.aload_n 0, 1) := by decide +kernel
theorem dX4_append_52 : decode cX4_append 52 = .ok (.getfield 11, 3) := by decide +kernel
theorem dX4_append_55 : decode cX4_append 55 = .ok (.iconst 5, 1) := by decide +kernel
theorem dX4_append_56 : decode cX4_append 56 = .ok (.imul, 1) := by decide +kernel
theorem dX4_append_57 : decode cX4_append 57 = .ok (.istore 5, 2) := by decide +kernel
theorem dX4_append_59 : decode cX4_append 59 = .ok (.iload 5, 2) := by decide +kernel
theorem dX4_append_61 : decode cX4_append 61 = .ok (.aload_n 0, 1) := by decide +kernel
theorem dX4_append_62 : decode cX4_append 62 = .ok (.getfield 11, 3) := by decide +kernel
theorem dX4_append_65 : decode cX4_append 65 = .ok (.iconst 1, 1) := by decide +kernel
theorem dX4_append_66 : decode cX4_append 66 = .ok (.iadd, 1) := by decide +kernel
theorem dX4_append_67 : decode cX4_append 67 = .ok (.iconst 5, 1) := by decide +kernel
theorem dX4_append_68 : decode cX4_append 68 = .ok (.imul, 1) := by decide +kernel
theorem dX4_append_69 : decode cX4_append 69 = .ok (.if_icmp .ge 17, 3) := by decide +kernel
theorem dX4_append_72 : decode cX4_append 72 = .ok (.aload_n 0, 1) := by decide +kernel
theorem dX4_append_73 : decode cX4_append 73 = .ok (.getfield 28, 3) := by decide +kernel
theorem dX4_append_76 : decode cX4_append 76 = .ok (.iload 5, 2) := by decide +kernel
theorem dX4_append_78 : decode cX4_append 78 = .ok (.lconst 0, 1) := by decide +kernel
theorem dX4_append_79 : decode cX4_append 79 = .ok (.lastore, 1) := by decide +kernel
theorem dX4_append_80 : decode cX4_append 80 = .ok (.iinc 5 1, 3) := by decide +kernel
theorem dX4_append_83 : decode cX4_append 83 = .ok (.goto (-24), 3) := by decide +kernel
theorem dX4_append_86 : decode cX4_append 86 = .ok (.aload_n 0, 1) := by decide +kernel
theorem dX4_append_87 : decode cX4_append 87 = .ok (.aload_n 0, 1) := by decide +kernel
theorem dX4_append_88 : decode cX4_append 88 = .ok (.getfield 11, 3) := by decide +kernel
theorem dX4_append_91 : decode cX4_append 91 = .ok (.iload_n 1, 1) := by decide +kernel
theorem dX4_append_92 : decode cX4_append 92 = .ok (.invokevirtual 38, 3) := by decide +kernel
theorem dX4_append_95 : decode cX4_append 95 = .ok (.aload_n 0, 1) := by decide +kernel
theorem dX4_append_96 : decode cX4_append 96 = .ok (.dup, 1) := by decide +kernel
theorem dX4_append_97 : decode cX4_append 97 = .ok (.getfield 11, 3) := by decide +kernel
theorem dX4_append_100 : decode cX4_append 100 = .ok (.iconst 1, 1) := by decide +kernel
theorem dX4_append_101 : decode cX4_append 101 = .ok (.iadd, 1) := by decide +kernel
theorem dX4_append_102 : decode cX4_append 102 = .ok (.putfield 11, 3) := by decide +kernel
theorem dX4_append_105 : decode cX4_append 105 = .ok (.return_, 1) := by decide +kernel
theorem dX4_remove_0 : decode cX4_remove 0 = .ok (.aload_n 0, 1) := by decide +kernel
theorem dX4_remove_1 : decode cX4_remove 1 = .ok (.getfield 11, 3) := by decide +kernel
theorem dX4_remove_4 : decode cX4_remove 4 = .ok (.iload_n 1, 1) := by decide +kernel
theorem dX4_remove_5 : decode cX4_remove 5 = .ok (.isub, 1) := by decide +kernel
theorem dX4_remove_6 : decode cX4_remove 6 = .ok (.iconst 1, 1) := by decide +kernel
theorem dX4_remove_7 : decode cX4_remove 7 = .ok (.isub, 1) := by decide +kernel
theorem dX4_remove_8 : decode cX4_remove 8 = .ok (.istore_n 2, 1) := by decide +kernel
theorem dX4_remove_9 : decode cX4_remove 9 = .ok (.aload_n 0, 1) := by decide +kernel
theorem dX4_remove_10 : decode cX4_remove 10 = .ok (.getfield 15, 3) := by decide +kernel
theorem dX4_remove_13 : decode cX4_remove 13 = .ok (.iload_n 1, 1) := by decide +kernel
theorem dX4_remove_14 : decode cX4_remove 14 = .ok (.iconst 1, 1) := by decide +kernel
theorem dX4_remove_15 : decode cX4_remove 15 = .ok (.iadd, 1) := by decide +kernel
theorem dX4_remove_16 : decode cX4_remove 16 = .ok (.aload_n 0, 1) := by decide +kernel
theorem dX4_remove_17 : decode cX4_remove 17 = .ok (.getfield 15, 3) := by decide +kernel
theorem dX4_remove_20 : decode cX4_remove 20 = .ok (.iload_n 1, 1) := by decide +kernel
theorem dX4_remove_21 : decode cX4_remove 21 = .ok (.iload_n 2, 1) := by decide +kernel
theorem dX4_remove_22 : decode cX4_remove 22 = .ok (.invokestatic 32, 3) := by decide +kernel
theorem dX4_remove_25 : decode cX4_remove 25 = .ok (.aload_n 0, 1) := by decide +kernel
theorem dX4_remove_26 : decode cX4_remove 26 = .ok (.getfield 19, 3) := by decide +kernel
theorem dX4_remove_29 : decode cX4_remove 29 = .ok (.iload_n 1, 1) := by decide +kernel
theorem dX4_remove_30 : decode cX4_remove 30 = .ok (.iconst 1, 1) := by decide +kernel
theorem dX4_remove_31 : decode cX4_remove 31 = .ok (.iadd, 1) := by decide +kernel
theorem dX4_remove_32 : decode cX4_remove 32 = .ok (.aload_n 0, 1) := by decide +kernel
theorem dX4_remove_33 : decode cX4_remove 33 = .ok (.getfield 19, 3) := by decide +kernel
theorem dX4_remove_36 : decode cX4_remove 36 = .ok (.iload_n 1, 1) := by decide +kernel
theorem dX4_remove_37 : decode cX4_remove 37 = .ok (.iload_n 2, 1) := by decide +kernel
theorem dX4_remove_38 : decode cX4_remove 38 = .ok (.invokestatic 32, 3) := by decide +kernel
theorem dX4_remove_41 : decode cX4_remove 41 = .ok (.aload_n 0, 1) := by decide +kernel
theorem dX4_remove_42 : decode cX4_remove 42 = .ok (.getfield 22, 3) := by decide +kernel
theorem dX4_remove_45 : decode cX4_remove 45 = .ok (.iload_n 1, 1) := by decide +kernel
theorem dX4_remove_46 : decode cX4_remove 46 = .ok (.iconst 1, 1) := by decide +kernel
theorem dX4_remove_47 : decode cX4_remove 47 = .ok (.iadd, 1) := by decide +kernel
theorem dX4_remove_48 : decode cX4_remove 48 = .ok (.aload_n 0, 1) := by decide +kernel
theorem dX4_remove_49 : decode cX4_remove 49 = .ok (.getfield 22, 3) := by decide +kernel
theorem dX4_remove_52 : decode cX4_remove 52 = .ok (.iload_n 1, 1) := by decide +kernel
theorem dX4_remove_53 : decode cX4_remove 53 = .ok (.iload_n 2, 1) := by decide +kernel
theorem dX4_remove_54 : decode cX4_remove 54 = .ok (.invokestatic 32, 3) := by decide +kernel
theorem dX4_remove_57 : decode cX4_remove 57 = .ok (.aload_n 0, 1) := by decide +kernel
theorem dX4_remove_58 : decode cX4_remove 58 = .ok (.getfield 25, 3) := by decide +kernel
theorem dX4_remove_61 : decode cX4_remove 61 = .ok (.iload_n 1, 1) := by decide +kernel
theorem dX4_remove_62 : decode cX4_remove 62 = .ok (.iconst 1, 1) := by decide +kernel
theorem dX4_remove_63 : decode cX4_remove 63 = .ok (.iadd, 1) := by decide +kernel
theorem dX4_remove_64 : decode cX4_remove 64 = .ok (.aload_n 0, 1) := by decide +kernel
theorem dX4_remove_65 : decode cX4_remove 65 = .ok (.getfield 25, 3) := by decide +kernel
theorem dX4_remove_68 : decode cX4_remove 68 = .ok (.iload_n 1, 1) := by decide +kernel
theorem dX4_remove_69 : decode cX4_remove 69 = .ok (.iload_n 2, 1) := by decide +kernel
theorem dX4_remove_70 : decode cX4_remove 70 = .ok (.invokestatic 32, 3) := by decide +kernel
theorem dX4_remove_73 : decode cX4_remove 73 = .ok (.aload_n 0, 1) := by decide +kernel
theorem dX4_remove_74 : decode cX4_remove 74 = .ok (.getfield 28, 3) := by decide +kernel
theorem dX4_remove_77 : decode cX4_remove 77 = .ok (.iload_n 1, 1) := by decide +kernel
theorem dX4_remove_78 : decode cX4_remove 78 = .ok (.iconst 1, 1) := by decide +kernel
theorem dX4_remove_79 : decode cX4_remove 79 = .ok (.iadd, 1) := by decide +kernel
theorem dX4_remove_80 : decode cX4_remove 80 = .ok (.iconst 5, 1) := by decide +kernel
theorem dX4_remove_81 : decode cX4_remove 81 = .ok (.imul, 1) := by decide +kernel
theorem dX4_remove_82 : decode cX4_remove 82 = .ok (.aload_n 0, 1) := by decide +kernel
theorem dX4_remove_83 : decode cX4_remove 83 = .ok (.getfield 28, 3) := by decide +kernel
theorem dX4_remove_86 : decode cX4_remove 86 = .ok (.iload_n 1, 1) := by decide +kernel
theorem dX4_remove_87 : decode cX4_remove 87 = .ok (.iconst 5, 1) := by decide +kernel
theorem dX4_remove_88 : decode cX4_remove 88 = .ok (.imul, 1) := by decide +kernel
theorem dX4_remove_89 : decode cX4_remove 89 = .ok (.iload_n 2, 1) := by decide +kernel
theorem dX4_remove_90 : decode cX4_remove 90 = .ok (.iconst 5, 1) := by decide +kernel
theorem dX4_remove_91 : decode cX4_remove 91 = .ok (.imul, 1) := by decide +kernel
theorem dX4_remove_92 : decode cX4_remove 92 = .ok (.invokestatic 32, 3) := by decide +kernel
theorem dX4_remove_95 : decode cX4_remove 95 = .ok (.aload_n 0, 1) := by decide +kernel
theorem dX4_remove_96 : decode cX4_remove 96 = .ok (.dup, 1) := by decide +kernel
theorem dX4_remove_97 : decode cX4_remove 97 = .ok (.getfield 11, 3) := by decide +kernel
theorem dX4_remove_100 : decode cX4_remove 100 = .ok (.iconst 1, 1) := by decide +kernel
theorem dX4_remove_101 : decode cX4_remove 101 = .ok (.isub, 1) := by decide +kernel
theorem dX4_remove_102 : decode cX4_remove 102 = .ok (.putfield 11, 3) := by decide +kernel
theorem dX4_remove_105 : decode cX4_remove 105 = .ok (.return_, 1) := by decide +kernel
theorem dX4_markSeen_0 : decode cX4_markSeen 0 = .ok (.aload_n 0, 1) := by decide +kernel
theorem dX4_markSeen_1 : decode cX4_markSeen 1 = .ok (.getfield 28, 3) := by decide +kernel
theorem dX4_markSeen_4 : decode cX4_markSeen 4 = .ok (.iload_n 1, 1) := by decide +kernel
theorem dX4_markSeen_5 : decode cX4_markSeen 5 = .ok (.iconst 5, 1) := by decide +kernel
theorem dX4_markSeen_6 : decode cX4_markSeen 6 = .ok (.imul, 1) := by decide +kernel
theorem dX4_markSeen_7 : decode cX4_markSeen 7 = .ok (.iload_n 2, 1) := by decide +kernel
theorem dX4_markSeen_8 : decode cX4_markSeen 8 = .ok (.bipush 64, 2) := by decide +kernel
theorem dX4_markSeen_10 : decode cX4_markSeen 10 = .ok (.idiv, 1) := by decide +kernel
theorem dX4_markSeen_11 : decode cX4_markSeen 11 = .ok (.iadd, 1) := by decide +kernel
theorem dX4_markSeen_12 : decode cX4_markSeen 12 = .ok (.dup2, 1) := by decide +kernel
theorem dX4_markSeen_13 : decode cX4_markSeen 13 = .ok (.laload, 1) := by decide +kernel
theorem dX4_markSeen_14 : decode cX4_markSeen 14 = .ok (.lconst 1, 1) := by decide +kernel
theorem dX4_markSeen_15 : decode cX4_markSeen 15 = .ok (.iload_n 2, 1) := by decide +kernel
theorem dX4_markSeen_16 : decode cX4_markSeen 16 = .ok (.bipush 64, 2) := by decide +kernel
theorem dX4_markSeen_18 : decode cX4_markSeen 18 = .ok (.irem, 1) := by decide +kernel
theorem dX4_markSeen_19 : decode cX4_markSeen 19 = .ok (.lshl, 1) := by decide +kernel
theorem dX4_markSeen_20 : decode cX4_markSeen 20 = .ok (.lor, 1) := by decide +kernel
theorem dX4_markSeen_21 : decode cX4_markSeen 21 = .ok (.lastore, 1) := by decide +kernel
theorem dX4_markSeen_22 : decode cX4_markSeen 22 = .ok (.return_, 1) := by decide +kernel
theorem dX4_wasSeen_0 : decode cX4_wasSeen 0 = .ok (.aload_n 0, 1) := by decide +kernel
theorem dX4_wasSeen_1 : decode cX4_wasSeen 1 = .ok (.getfield 28, 3) := by decide +kernel
theorem dX4_wasSeen_4 : decode cX4_wasSeen 4 = .ok (.iload_n 1, 1) := by decide +kernel
theorem dX4_wasSeen_5 : decode cX4_wasSeen 5 = .ok (.iconst 5, 1) := by decide +kernel
theorem dX4_wasSeen_6 : decode cX4_wasSeen 6 = .ok (.imul, 1) := by decide +kernel
theorem dX4_wasSeen_7 : decode cX4_wasSeen 7 = .ok (.iload_n 2, 1) := by decide +kernel
theorem dX4_wasSeen_8 : decode cX4_wasSeen 8 = .ok (.bipush 64, 2) := by decide +kernel
theorem dX4_wasSeen_10 : decode cX4_wasSeen 10 = .ok (.idiv, 1) := by decide +kernel
theorem dX4_wasSeen_11 : decode cX4_wasSeen 11 = .ok (.iadd, 1) := by decide +kernel
theorem dX4_wasSeen_12 : decode cX4_wasSeen 12 = .ok (.laload, 1) := by decide +kernel
theorem dX4_wasSeen_13 : decode cX4_wasSeen 13 = .ok (.iload_n 2, 1) := by decide +kernel
theorem dX4_wasSeen_14 : decode cX4_wasSeen 14 = .ok (.bipush 64, 2) := by decide +kernel
theorem dX4_wasSeen_16 : decode cX4_wasSeen 16 = .ok (.irem, 1) := by decide +kernel
theorem dX4_wasSeen_17 : decode cX4_wasSeen 17 = .ok (.lushr, 1) := by decide +kernel
theorem dX4_wasSeen_18 : decode cX4_wasSeen 18 = .ok (.lconst 1, 1) := by decide +kernel
theorem dX4_wasSeen_19 : decode cX4_wasSeen 19 = .ok (.land, 1) := by decide +kernel
theorem dX4_wasSeen_20 : decode cX4_wasSeen 20 = .ok (.lconst 0, 1) := by decide +kernel
theorem dX4_wasSeen_21 : decode cX4_wasSeen 21 = .ok (.lcmp, 1) := by decide +kernel
theorem dX4_wasSeen_22 : decode cX4_wasSeen 22 = .ok (.ifCond .eq 7, 3) := by decide +kernel
theorem dX4_wasSeen_25 : decode cX4_wasSeen 25 = .ok (.iconst 1, 1) := by decide +kernel
theorem dX4_wasSeen_26 : decode cX4_wasSeen 26 = .ok (.goto 4, 3) := by decide +kernel
theorem dX4_wasSeen_29 : decode cX4_wasSeen 29 = .ok (.iconst 0, 1) := by decide +kernel
theorem dX4_wasSeen_30 : decode cX4_wasSeen 30 = .ok (.ireturn, 1) := by decide +kernel
theorem dX4_timesSeen_0 : decode cX4_timesSeen 0 = .ok (.iconst 0, 1) := by decide +kernel
theorem dX4_timesSeen_1 : decode cX4_timesSeen 1 = .ok (.istore_n 2, 1) := by decide +kernel
theorem dX4_timesSeen_2 : decode cX4_timesSeen 2 = .ok (.iload_n 1, 1) := by decide +kernel
theorem dX4_timesSeen_3 : decode cX4_timesSeen 3 = .ok (.iconst 5, 1) := by decide +kernel
theorem dX4_timesSeen_4 : decode cX4_timesSeen 4 = .ok (.imul, 1) := by decide +kernel
theorem dX4_timesSeen_5 : decode cX4_timesSeen 5 = .ok (.istore_n 3, 1) := by decide +kernel
theorem dX4_timesSeen_6 : decode cX4_timesSeen 6 = .ok (.iload_n 3, 1) := by decide +kernel
theorem dX4_timesSeen_7 : decode cX4_timesSeen 7 = .ok (.iload_n 1, 1) := by decide +kernel
theorem dX4_timesSeen_8 : decode cX4_timesSeen 8 = .ok (.iconst 1, 1) := by decide +kernel
theorem dX4_timesSeen_9 : decode cX4_timesSeen 9 = .ok (.iadd, 1) := by decide +kernel
theorem dX4_timesSeen_10 : decode cX4_timesSeen 10 = .ok (.iconst 5, 1) := by decide +kernel
theorem dX4_timesSeen_11 : decode cX4_timesSeen 11 = .ok (.imul, 1) := by decide +kernel
theorem dX4_timesSeen_12 : decode cX4_timesSeen 12 = .ok (.if_icmp .ge 21, 3) := by decide +kernel
theorem dX4_timesSeen_15 : decode cX4_timesSeen 15 = .ok (.iload_n 2, 1) := by decide +kernel
theorem dX4_timesSeen_16 : decode cX4_timesSeen 16 = .ok (.aload_n 0, 1) := by decide +kernel
theorem dX4_timesSeen_17 : decode cX4_timesSeen 17 = .ok (.getfield 28, 3) := by decide +kernel
theorem dX4_timesSeen_20 : decode cX4_timesSeen 20 = .ok (.iload_n 3, 1) := by decide +kernel
theorem dX4_timesSeen_21 : decode cX4_timesSeen 21 = .ok (.laload, 1) := by decide +kernel
theorem dX4_timesSeen_22 : decode cX4_timesSeen 22 = .ok (.invokestatic 42, 3) := by decide +kernel
theorem dX4_timesSeen_25 : decode cX4_timesSeen 25 = .ok (.iadd, 1) := by decide +kernel
theorem dX4_timesSeen_26 : decode cX4_timesSeen 26 = .ok (.istore_n 2, 1) := by decide +kernel
theorem dX4_timesSeen_27 : decode cX4_timesSeen 27 = .ok (.iinc 3 1, 3) := by decide +kernel
theorem dX4_timesSeen_30 : decode cX4_timesSeen 30 = .ok (.goto (-24), 3) := by decide +kernel
theorem dX4_timesSeen_33 : decode cX4_timesSeen 33 = .ok (.iload_n 2, 1) := by decide +kernel
theorem dX4_timesSeen_34 : decode cX4_timesSeen 34 = .ok (.ireturn, 1) := by decide +kernel
theorem dX4_seenOften_0 : decode cX4_seenOften 0 = .ok (.iconst 0, 1) := by decide +kernel
theorem dX4_seenOften_1 : decode cX4_seenOften 1 = .ok (.istore_n 1, 1) := by decide +kernel
theorem dX4_seenOften_2 : decode cX4_seenOften 2 = .ok (.iconst 0, 1) := by decide +kernel
theorem dX4_seenOften_3 : decode cX4_seenOften 3 = .ok (.istore_n 2, 1) := by decide +kernel
theorem dX4_seenOften_4 : decode cX4_seenOften 4 = .ok (.iload_n 2, 1) := by decide +kernel
theorem dX4_seenOften_5 : decode cX4_seenOften 5 = .ok (.aload_n 0, 1) := by decide +kernel
theorem dX4_seenOften_6 : decode cX4_seenOften 6 = .ok (.getfield 11, 3) := by decide +kernel
theorem dX4_seenOften_9 : decode cX4_seenOften 9 = .ok (.if_icmp .ge 21, 3) := by decide +kernel
theorem dX4_seenOften_12 : decode cX4_seenOften 12 = .ok (.aload_n 0, 1) := by decide +kernel
theorem dX4_seenOften_13 : decode cX4_seenOften 13 = .ok (.iload_n 2, 1) := by decide +kernel
theorem dX4_seenOften_14 : decode cX4_seenOften 14 = .ok (.invokevirtual 48, 3) := by decide +kernel
theorem dX4_seenOften_17 : decode cX4_seenOften 17 = .ok (.iconst 1, 1) := by decide +kernel
theorem dX4_seenOften_18 : decode cX4_seenOften 18 = .ok (.if_icmp .le 6, 3) := by decide +kernel
theorem dX4_seenOften_21 : decode cX4_seenOften 21 = .ok (.iinc 1 1, 3) := by decide +kernel
theorem dX4_seenOften_24 : decode cX4_seenOften 24 = .ok (.iinc 2 1, 3) := by decide +kernel
theorem dX4_seenOften_27 : decode cX4_seenOften 27 = .ok (.goto (-23), 3) := by decide +kernel
theorem dX4_seenOften_30 : decode cX4_seenOften 30 = .ok (.iload_n 1, 1) := by decide +kernel
theorem dX4_seenOften_31 : decode cX4_seenOften 31 = .ok (.ireturn, 1) := by decide +kernel
theorem dX4_ofKind_0 : decode cX4_ofKind 0 = .ok (.iconst 0, 1) := by decide +kernel
theorem dX4_ofKind_1 : decode cX4_ofKind 1 = .ok (.istore_n 2, 1) := by decide +kernel
theorem dX4_ofKind_2 : decode cX4_ofKind 2 = .ok (.iconst 0, 1) := by decide +kernel
theorem dX4_ofKind_3 : decode cX4_ofKind 3 = .ok (.istore_n 3, 1) := by decide +kernel
theorem dX4_ofKind_4 : decode cX4_ofKind 4 = .ok (.iload_n 3, 1) := by decide +kernel
theorem dX4_ofKind_5 : decode cX4_ofKind 5 = .ok (.aload_n 0, 1) := by decide +kernel
theorem dX4_ofKind_6 : decode cX4_ofKind 6 = .ok (.getfield 11, 3) := by decide +kernel
theorem dX4_ofKind_9 : decode cX4_ofKind 9 = .ok (.if_icmp .ge 22, 3) := by decide +kernel
theorem dX4_ofKind_12 : decode cX4_ofKind 12 = .ok (.aload_n 0, 1) := by decide +kernel
theorem dX4_ofKind_13 : decode cX4_ofKind 13 = .ok (.getfield 25, 3) := by decide +kernel
theorem dX4_ofKind_16 : decode cX4_ofKind 16 = .ok (.iload_n 3, 1) := by decide +kernel
theorem dX4_ofKind_17 : decode cX4_ofKind 17 = .ok (.iaload, 1) := by decide +kernel
theorem dX4_ofKind_18 : decode cX4_ofKind 18 = .ok (.iload_n 1, 1) := by decide +kernel
theorem dX4_ofKind_19 : decode cX4_ofKind 19 = .ok (.if_icmp .ne 6, 3) := by decide +kernel
theorem dX4_ofKind_22 : decode cX4_ofKind 22 = .ok (.iinc 2 1, 3) := by decide +kernel
theorem dX4_ofKind_25 : decode cX4_ofKind 25 = .ok (.iinc 3 1, 3) := by decide +kernel
theorem dX4_ofKind_28 : decode cX4_ofKind 28 = .ok (.goto (-24), 3) := by decide +kernel
theorem dX4_ofKind_31 : decode cX4_ofKind 31 = .ok (.iload_n 2, 1) := by decide +kernel
theorem dX4_ofKind_32 : decode cX4_ofKind 32 = .ok (.ireturn, 1) := by decide +kernel
theorem dX5_init_0 : decode cX5_init 0 = .ok (.aload_n 0, 1) := by decide +kernel
theorem dX5_init_1 : decode cX5_init 1 = .ok (.invokespecial 3, 3) := by decide +kernel
theorem dX5_init_4 : decode cX5_init 4 = .ok (.aload_n 0, 1) := by decide +kernel
theorem dX5_init_5 : decode cX5_init 5 = .ok (.bipush 20, 2) := by decide +kernel
theorem dX5_init_7 : decode cX5_init 7 = .ok (.newarray .int, 2) := by decide +kernel
theorem dX5_init_9 : decode cX5_init 9 = .ok (.putfield 9, 3) := by decide +kernel
theorem dX5_init_12 : decode cX5_init 12 = .ok (.aload_n 0, 1) := by decide +kernel
theorem dX5_init_13 : decode cX5_init 13 = .ok (.bipush 18, 2) := by decide +kernel
theorem dX5_init_15 : decode cX5_init 15 = .ok (.newarray .int, 2) := by decide +kernel
theorem dX5_init_17 : decode cX5_init 17 = .ok (.putfield 15, 3) := by decide +kernel
theorem dX5_init_20 : decode cX5_init 20 = .ok (.return_, 1) := by decide +kernel
theorem dX5_lay_0 : decode cX5_lay 0 = .ok (.aload_n 0, 1) := by decide +kernel
theorem dX5_lay_1 : decode cX5_lay 1 = .ok (.getfield 9, 3) := by decide +kernel
theorem dX5_lay_4 : decode cX5_lay 4 = .ok (.bipush (-6), 2) := by decide +kernel
theorem dX5_lay_6 : decode cX5_lay 6 = .ok (.invokestatic 18, 3) := by decide +kernel
theorem dX5_lay_9 : decode cX5_lay 9 = .ok (.aload_n 0, 1) := by decide +kernel
theorem dX5_lay_10 : decode cX5_lay 10 = .ok (.getfield 15, 3) := by decide +kernel
theorem dX5_lay_13 : decode cX5_lay 13 = .ok (.iconst 0, 1) := by decide +kernel
theorem dX5_lay_14 : decode cX5_lay 14 = .ok (.invokestatic 18, 3) := by decide +kernel
theorem dX5_lay_17 : decode cX5_lay 17 = .ok (.aload_n 1, 1) := by decide +kernel
theorem dX5_lay_18 : decode cX5_lay 18 = .ok (.iconst (-1), 1) := by decide +kernel
theorem dX5_lay_19 : decode cX5_lay 19 = .ok (.invokevirtual 24, 3) := by decide +kernel
theorem dX5_lay_22 : decode cX5_lay 22 = .ok (.istore_n 3, 1) := by decide +kernel
theorem dX5_lay_23 : decode cX5_lay 23 = .ok (.iconst 0, 1) := by decide +kernel
theorem dX5_lay_24 : decode cX5_lay 24 = .ok (.istore 4, 2) := by decide +kernel
theorem dX5_lay_26 : decode cX5_lay 26 = .ok (.iload 4, 2) := by decide +kernel
theorem dX5_lay_28 : decode cX5_lay 28 = .ok (.bipush 20, 2) := by decide +kernel
theorem dX5_lay_30 : decode cX5_lay 30 = .ok (.if_icmp .ge 72, 3) := by decide +kernel
theorem dX5_lay_33 : decode cX5_lay 33 = .ok (.iload_n 3, 1) := by decide +kernel
theorem dX5_lay_34 : decode cX5_lay 34 = .ok (.ifCond .lt 68, 3) := by decide +kernel
theorem dX5_lay_37 : decode cX5_lay 37 = .ok (.aload_n 2, 1) := by decide +kernel
theorem dX5_lay_38 : decode cX5_lay 38 = .ok (.getfield 30, 3) := by decide +kernel
theorem dX5_lay_41 : decode cX5_lay 41 = .ok (.getfield 36, 3) := by decide +kernel
theorem dX5_lay_44 : decode cX5_lay 44 = .ok (.iload_n 3, 1) := by decide +kernel
theorem dX5_lay_45 : decode cX5_lay 45 = .ok (.iaload, 1) := by decide +kernel
theorem dX5_lay_46 : decode cX5_lay 46 = .ok (.bipush 6, 2) := by decide +kernel
theorem dX5_lay_48 : decode cX5_lay 48 = .ok (.imul, 1) := by decide +kernel
theorem dX5_lay_49 : decode cX5_lay 49 = .ok (.istore 5, 2) := by decide +kernel
theorem dX5_lay_51 : decode cX5_lay 51 = .ok (.aload_n 0, 1) := by decide +kernel
theorem dX5_lay_52 : decode cX5_lay 52 = .ok (.iload 5, 2) := by decide +kernel
theorem dX5_lay_54 : decode cX5_lay 54 = .ok (.aload_n 2, 1) := by decide +kernel
theorem dX5_lay_55 : decode cX5_lay 55 = .ok (.getfield 41, 3) := by decide +kernel
theorem dX5_lay_58 : decode cX5_lay 58 = .ok (.invokevirtual 45, 3) := by decide +kernel
theorem dX5_lay_61 : decode cX5_lay 61 = .ok (.istore 6, 2) := by decide +kernel
theorem dX5_lay_63 : decode cX5_lay 63 = .ok (.aload_n 0, 1) := by decide +kernel
theorem dX5_lay_64 : decode cX5_lay 64 = .ok (.getfield 9, 3) := by decide +kernel
theorem dX5_lay_67 : decode cX5_lay 67 = .ok (.iload_n 3, 1) := by decide +kernel
theorem dX5_lay_68 : decode cX5_lay 68 = .ok (.iload 6, 2) := by decide +kernel
theorem dX5_lay_70 : decode cX5_lay 70 = .ok (.iastore, 1) := by decide +kernel
theorem dX5_lay_71 : decode cX5_lay 71 = .ok (.aload_n 0, 1) := by decide +kernel
theorem dX5_lay_72 : decode cX5_lay 72 = .ok (.getfield 15, 3) := by decide +kernel
theorem dX5_lay_75 : decode cX5_lay 75 = .ok (.iload 5, 2) := by decide +kernel
theorem dX5_lay_77 : decode cX5_lay 77 = .ok (.iload 6, 2) := by decide +kernel
theorem dX5_lay_79 : decode cX5_lay 79 = .ok (.iadd, 1) := by decide +kernel
theorem dX5_lay_80 : decode cX5_lay 80 = .ok (.dup2, 1) := by decide +kernel
theorem dX5_lay_81 : decode cX5_lay 81 = .ok (.iaload, 1) := by decide +kernel
theorem dX5_lay_82 : decode cX5_lay 82 = .ok (.iconst 1, 1) := by decide +kernel
theorem dX5_lay_83 : decode cX5_lay 83 = .ok (.iadd, 1) := by decide +kernel
theorem dX5_lay_84 : decode cX5_lay 84 = .ok (.iastore, 1) := by decide +kernel
theorem dX5_lay_85 : decode cX5_lay 85 = .ok (.aload_n 1, 1) := by decide +kernel
theorem dX5_lay_86 : decode cX5_lay 86 = .ok (.aload_n 1, 1) := by decide +kernel
theorem dX5_lay_87 : decode cX5_lay 87 = .ok (.getfield 49, 3) := by decide +kernel
theorem dX5_lay_90 : decode cX5_lay 90 = .ok (.iload_n 3, 1) := by decide +kernel
theorem dX5_lay_91 : decode cX5_lay 91 = .ok (.iaload, 1) := by decide +kernel
theorem dX5_lay_92 : decode cX5_lay 92 = .ok (.invokevirtual 24, 3) := by decide +kernel
theorem dX5_lay_95 : decode cX5_lay 95 = .ok (.istore_n 3, 1) := by decide +kernel
theorem dX5_lay_96 : decode cX5_lay 96 = .ok (.iinc 4 1, 3) := by decide +kernel
theorem dX5_lay_99 : decode cX5_lay 99 = .ok (.goto (-73), 3) := by decide +kernel
theorem dX5_lay_102 : decode cX5_lay 102 = .ok (.return_, 1) := by decide +kernel
theorem dX5_emptiest_0 : decode cX5_emptiest 0 = .ok (.iconst 0, 1) := by decide +kernel
theorem dX5_emptiest_1 : decode cX5_emptiest 1 = .ok (.istore_n 3, 1) := by decide +kernel
theorem dX5_emptiest_2 : decode cX5_emptiest 2 = .ok (.iconst 1, 1) := by decide +kernel
theorem dX5_emptiest_3 : decode cX5_emptiest 3 = .ok (.istore 4, 2) := by decide +kernel
theorem dX5_emptiest_5 : decode cX5_emptiest 5 = .ok (.iload 4, 2) := by decide +kernel
theorem dX5_emptiest_7 : decode cX5_emptiest 7 = .ok (.iload_n 2, 1) := by decide +kernel
theorem dX5_emptiest_8 : decode cX5_emptiest 8 = .ok (.if_icmp .ge 32, 3) := by decide +kernel
theorem dX5_emptiest_11 : decode cX5_emptiest 11 = .ok (.aload_n 0, 1) := by decide +kernel
theorem dX5_emptiest_12 : decode cX5_emptiest 12 = .ok (.getfield 15, 3) := by decide +kernel
theorem dX5_emptiest_15 : decode cX5_emptiest 15 = .ok (.iload_n 1, 1) := by decide +kernel
theorem dX5_emptiest_16 : decode cX5_emptiest 16 = .ok (.iload 4, 2) := by decide +kernel
theorem dX5_emptiest_18 : decode cX5_emptiest 18 = .ok (.iadd, 1) := by decide +kernel
theorem dX5_emptiest_19 : decode cX5_emptiest 19 = .ok (.iaload, 1) := by decide +kernel
theorem dX5_emptiest_20 : decode cX5_emptiest 20 = .ok (.aload_n 0, 1) := by decide +kernel
theorem dX5_emptiest_21 : decode cX5_emptiest 21 = .ok (.getfield 15, 3) := by decide +kernel
theorem dX5_emptiest_24 : decode cX5_emptiest 24 = .ok (.iload_n 1, 1) := by decide +kernel
theorem dX5_emptiest_25 : decode cX5_emptiest 25 = .ok (.iload_n 3, 1) := by decide +kernel
theorem dX5_emptiest_26 : decode cX5_emptiest 26 = .ok (.iadd, 1) := by decide +kernel
theorem dX5_emptiest_27 : decode cX5_emptiest 27 = .ok (.iaload, 1) := by decide +kernel
theorem dX5_emptiest_28 : decode cX5_emptiest 28 = .ok (.if_icmp .ge 6, 3) := by decide +kernel
theorem dX5_emptiest_31 : decode cX5_emptiest 31 = .ok (.iload 4, 2) := by decide +kernel
theorem dX5_emptiest_33 : decode cX5_emptiest 33 = .ok (.istore_n 3, 1) := by decide +kernel
theorem dX5_emptiest_34 : decode cX5_emptiest 34 = .ok (.iinc 4 1, 3) := by decide +kernel
theorem dX5_emptiest_37 : decode cX5_emptiest 37 = .ok (.goto (-32), 3) := by decide +kernel
theorem dX5_emptiest_40 : decode cX5_emptiest 40 = .ok (.iload_n 3, 1) := by decide +kernel
theorem dX5_emptiest_41 : decode cX5_emptiest 41 = .ok (.ireturn, 1) := by decide +kernel
theorem dX6_init_0 : decode cX6_init 0 = .ok (.aload_n 0, 1) := by decide +kernel
theorem dX6_init_1 : decode cX6_init 1 = .ok (.invokespecial 3, 3) := by decide +kernel
theorem dX6_init_4 : decode cX6_init 4 = .ok (.aload_n 0, 1) := by decide +kernel
theorem dX6_init_5 : decode cX6_init 5 = .ok (.new 9, 3) := by decide +kernel
theorem dX6_init_8 : decode cX6_init 8 = .ok (.dup, 1) := by decide +kernel
theorem dX6_init_9 : decode cX6_init 9 = .ok (.invokespecial 11, 3) := by decide +kernel
theorem dX6_init_12 : decode cX6_init 12 = .ok (.putfield 12, 3) := by decide +kernel
theorem dX6_init_15 : decode cX6_init 15 = .ok (.aload_n 0, 1) := by decide +kernel
theorem dX6_init_16 : decode cX6_init 16 = .ok (.iconst 2, 1) := by decide +kernel
theorem dX6_init_17 : decode cX6_init 17 = .ok (.anewarray 9, 3) := by decide +kernel
theorem dX6_init_20 : decode cX6_init 20 = .ok (.dup, 1) := by decide +kernel
theorem dX6_init_21 : decode cX6_init 21 = .ok (.iconst 0, 1) := by decide +kernel
theorem dX6_init_22 : decode cX6_init 22 = .ok (.new 9, 3) := by decide +kernel
theorem dX6_init_25 : decode cX6_init 25 = .ok (.dup, 1) := by decide +kernel
theorem dX6_init_26 : decode cX6_init 26 = .ok (.invokespecial 11, 3) := by decide +kernel
theorem dX6_init_29 : decode cX6_init 29 = .ok (.aastore, 1) := by decide +kernel
theorem dX6_init_30 : decode cX6_init 30 = .ok (.dup, 1) := by decide +kernel
theorem dX6_init_31 : decode cX6_init 31 = .ok (.iconst 1, 1) := by decide +kernel
theorem dX6_init_32 : decode cX6_init 32 = .ok (.new 9, 3) := by decide +kernel
theorem dX6_init_35 : decode cX6_init 35 = .ok (.dup, 1) := by decide +kernel
theorem dX6_init_36 : decode cX6_init 36 = .ok (.invokespecial 11, 3) := by decide +kernel
theorem dX6_init_39 : decode cX6_init 39 = .ok (.aastore, 1) := by decide +kernel
theorem dX6_init_40 : decode cX6_init 40 = .ok (.putfield 16, 3) := by decide +kernel
theorem dX6_init_43 : decode cX6_init 43 = .ok (.aload_n 0, 1) := by decide +kernel
theorem dX6_init_44 : decode cX6_init 44 = .ok (.iconst 0, 1) := by decide +kernel
theorem dX6_init_45 : decode cX6_init 45 = .ok (.putfield 20, 3) := by decide +kernel
theorem dX6_init_48 : decode cX6_init 48 = .ok (.aload_n 0, 1) := by decide +kernel
theorem dX6_init_49 : decode cX6_init 49 = .ok (.new 24, 3) := by decide +kernel
theorem dX6_init_52 : decode cX6_init 52 = .ok (.dup, 1) := by decide +kernel
theorem dX6_init_53 : decode cX6_init 53 = .ok (.invokespecial 26, 3) := by decide +kernel
theorem dX6_init_56 : decode cX6_init 56 = .ok (.putfield 27, 3) := by decide +kernel
theorem dX6_init_59 : decode cX6_init 59 = .ok (.aload_n 0, 1) := by decide +kernel
theorem dX6_init_60 : decode cX6_init 60 = .ok (.new 24, 3) := by decide +kernel
theorem dX6_init_63 : decode cX6_init 63 = .ok (.dup, 1) := by decide +kernel
theorem dX6_init_64 : decode cX6_init 64 = .ok (.invokespecial 26, 3) := by decide +kernel
theorem dX6_init_67 : decode cX6_init 67 = .ok (.putfield 31, 3) := by decide +kernel
theorem dX6_init_70 : decode cX6_init 70 = .ok (.aload_n 0, 1) := by decide +kernel
theorem dX6_init_71 : decode cX6_init 71 = .ok (.new 34, 3) := by decide +kernel
theorem dX6_init_74 : decode cX6_init 74 = .ok (.dup, 1) := by decide +kernel
theorem dX6_init_75 : decode cX6_init 75 = .ok (.invokespecial 36, 3) := by decide +kernel
theorem dX6_init_78 : decode cX6_init 78 = .ok (.putfield 37, 3) := by decide +kernel
theorem dX6_init_81 : decode cX6_init 81 = .ok (.aload_n 0, 1) := by decide +kernel
theorem dX6_init_82 : decode cX6_init 82 = .ok (.iconst 1, 1) := by decide +kernel
theorem dX6_init_83 : decode cX6_init 83 = .ok (.putfield 41, 3) := by decide +kernel
theorem dX6_init_86 : decode cX6_init 86 = .ok (.return_, 1) := by decide +kernel
theorem dX6_speed_0 : decode cX6_speed 0 = .ok (.iload_n 1, 1) := by decide +kernel
theorem dX6_speed_1 : decode cX6_speed 1 = .ok (.invokestatic 45, 3) := by decide +kernel
theorem dX6_speed_4 : decode cX6_speed 4 = .ok (.ifCond .eq 13, 3) := by decide +kernel
theorem dX6_speed_7 : decode cX6_speed 7 = .ok (.iload_n 2, 1) := by decide +kernel
theorem dX6_speed_8 : decode cX6_speed 8 = .ok (.iconst 0, 1) := by decide +kernel
theorem dX6_speed_9 : decode cX6_speed 9 = .ok (.bipush 9, 2) := by decide +kernel
theorem dX6_speed_11 : decode cX6_speed 11 = .ok (.invokestatic 49, 3) := by decide +kernel
theorem dX6_speed_14 : decode cX6_speed 14 = .ok (.ifCond .ne 6, 3) := by decide +kernel
theorem dX6_speed_17 : decode cX6_speed 17 = .ok (.bipush (-2), 2) := by decide +kernel
theorem dX6_speed_19 : decode cX6_speed 19 = .ok (.ireturn, 1) := by decide +kernel
theorem dX6_speed_20 : decode cX6_speed 20 = .ok (.aload_n 0, 1) := by decide +kernel
theorem dX6_speed_21 : decode cX6_speed 21 = .ok (.getfield 12, 3) := by decide +kernel
theorem dX6_speed_24 : decode cX6_speed 24 = .ok (.getfield 53, 3) := by decide +kernel
theorem dX6_speed_27 : decode cX6_speed 27 = .ok (.astore_n 3, 1) := by decide +kernel
theorem dX6_speed_28 : decode cX6_speed 28 = .ok (.iload_n 1, 1) := by decide +kernel
theorem dX6_speed_29 : decode cX6_speed 29 = .ok (.ifCond .eq 23, 3) := by decide +kernel
theorem dX6_speed_32 : decode cX6_speed 32 = .ok (.aload_n 3, 1) := by decide +kernel
theorem dX6_speed_33 : decode cX6_speed 33 = .ok (.iload_n 1, 1) := by decide +kernel
theorem dX6_speed_34 : decode cX6_speed 34 = .ok (.invokevirtual 57, 3) := by decide +kernel
theorem dX6_speed_37 : decode cX6_speed 37 = .ok (.ifCond .ge 15, 3) := by decide +kernel
theorem dX6_speed_40 : decode cX6_speed 40 = .ok (.aload_n 3, 1) := by decide +kernel
theorem dX6_speed_41 : decode cX6_speed 41 = .ok (.getfield 63, 3) := by decide +kernel
theorem dX6_speed_44 : decode cX6_speed 44 = .ok (.bipush 8, 2) := by decide +kernel
theorem dX6_speed_46 : decode cX6_speed 46 = .ok (.if_icmp .lt 6, 3) := by decide +kernel
theorem dX6_speed_49 : decode cX6_speed 49 = .ok (.bipush (-4), 2) := by decide +kernel
theorem dX6_speed_51 : decode cX6_speed 51 = .ok (.ireturn, 1) := by decide +kernel
theorem dX6_speed_52 : decode cX6_speed 52 = .ok (.aload_n 3, 1) := by decide +kernel
theorem dX6_speed_53 : decode cX6_speed 53 = .ok (.iload_n 1, 1) := by decide +kernel
theorem dX6_speed_54 : decode cX6_speed 54 = .ok (.invokevirtual 66, 3) := by decide +kernel
theorem dX6_speed_57 : decode cX6_speed 57 = .ok (.istore 4, 2) := by decide +kernel
theorem dX6_speed_59 : decode cX6_speed 59 = .ok (.aload_n 3, 1) := by decide +kernel
theorem dX6_speed_60 : decode cX6_speed 60 = .ok (.iload_n 1, 1) := by decide +kernel
theorem dX6_speed_61 : decode cX6_speed 61 = .ok (.iload_n 2, 1) := by decide +kernel
theorem dX6_speed_62 : decode cX6_speed 62 = .ok (.invokevirtual 69, 3) := by decide +kernel
theorem dX6_speed_65 : decode cX6_speed 65 = .ok (.aload_n 0, 1) := by decide +kernel
theorem dX6_speed_66 : decode cX6_speed 66 = .ok (.iconst 1, 1) := by decide +kernel
theorem dX6_speed_67 : decode cX6_speed 67 = .ok (.putfield 41, 3) := by decide +kernel
theorem dX6_speed_70 : decode cX6_speed 70 = .ok (.iload 4, 2) := by decide +kernel
theorem dX6_speed_72 : decode cX6_speed 72 = .ok (.ireturn, 1) := by decide +kernel
theorem dX6_level_0 : decode cX6_level 0 = .ok (.iload_n 1, 1) := by decide +kernel
theorem dX6_level_1 : decode cX6_level 1 = .ok (.iconst 1, 1) := by decide +kernel
theorem dX6_level_2 : decode cX6_level 2 = .ok (.sipush 300, 3) := by decide +kernel
theorem dX6_level_5 : decode cX6_level 5 = .ok (.invokestatic 49, 3) := by decide +kernel
theorem dX6_level_8 : decode cX6_level 8 = .ok (.ifCond .ne 6, 3) := by decide +kernel
theorem dX6_level_11 : decode cX6_level 11 = .ok (.bipush (-2), 2) := by decide +kernel
theorem dX6_level_13 : decode cX6_level 13 = .ok (.ireturn, 1) := by decide +kernel
theorem dX6_level_14 : decode cX6_level 14 = .ok (.aload_n 0, 1) := by decide +kernel
theorem dX6_level_15 : decode cX6_level 15 = .ok (.getfield 12, 3) := by decide +kernel
theorem dX6_level_18 : decode cX6_level 18 = .ok (.getfield 53, 3) := by decide +kernel
theorem dX6_level_21 : decode cX6_level 21 = .ok (.iload_n 1, 1) := by decide +kernel
theorem dX6_level_22 : decode cX6_level 22 = .ok (.invokevirtual 57, 3) := by decide +kernel
theorem dX6_level_25 : decode cX6_level 25 = .ok (.istore_n 2, 1) := by decide +kernel
theorem dX6_level_26 : decode cX6_level 26 = .ok (.iload_n 2, 1) := by decide +kernel
theorem dX6_level_27 : decode cX6_level 27 = .ok (.ifCond .ge 6, 3) := by decide +kernel
theorem dX6_level_30 : decode cX6_level 30 = .ok (.bipush (-5), 2) := by decide +kernel
theorem dX6_level_32 : decode cX6_level 32 = .ok (.ireturn, 1) := by decide +kernel
theorem dX6_level_33 : decode cX6_level 33 = .ok (.aload_n 0, 1) := by decide +kernel
theorem dX6_level_34 : decode cX6_level 34 = .ok (.getfield 12, 3) := by decide +kernel
theorem dX6_level_37 : decode cX6_level 37 = .ok (.getfield 53, 3) := by decide +kernel
theorem dX6_level_40 : decode cX6_level 40 = .ok (.iload_n 2, 1) := by decide +kernel
theorem dX6_level_41 : decode cX6_level 41 = .ok (.invokevirtual 73, 3) := by decide +kernel
theorem dX6_level_44 : decode cX6_level 44 = .ok (.aload_n 0, 1) := by decide +kernel
theorem dX6_level_45 : decode cX6_level 45 = .ok (.iconst 1, 1) := by decide +kernel
theorem dX6_level_46 : decode cX6_level 46 = .ok (.putfield 41, 3) := by decide +kernel
theorem dX6_level_49 : decode cX6_level 49 = .ok (.aload_n 0, 1) := by decide +kernel
theorem dX6_level_50 : decode cX6_level 50 = .ok (.getfield 12, 3) := by decide +kernel
theorem dX6_level_53 : decode cX6_level 53 = .ok (.getfield 53, 3) := by decide +kernel
theorem dX6_level_56 : decode cX6_level 56 = .ok (.getfield 63, 3) := by decide +kernel
theorem dX6_level_59 : decode cX6_level 59 = .ok (.ireturn, 1) := by decide +kernel
theorem dX6_gone_0 : decode cX6_gone 0 = .ok (.iload_n 1, 1) := by decide +kernel
theorem dX6_gone_1 : decode cX6_gone 1 = .ok (.invokestatic 45, 3) := by decide +kernel
theorem dX6_gone_4 : decode cX6_gone 4 = .ok (.ifCond .eq 18, 3) := by decide +kernel
theorem dX6_gone_7 : decode cX6_gone 7 = .ok (.aload_n 0, 1) := by decide +kernel
theorem dX6_gone_8 : decode cX6_gone 8 = .ok (.getfield 12, 3) := by decide +kernel
theorem dX6_gone_11 : decode cX6_gone 11 = .ok (.getfield 53, 3) := by decide +kernel
theorem dX6_gone_14 : decode cX6_gone 14 = .ok (.getfield 77, 3) := by decide +kernel
theorem dX6_gone_17 : decode cX6_gone 17 = .ok (.iload_n 1, 1) := by decide +kernel
theorem dX6_gone_18 : decode cX6_gone 18 = .ok (.iaload, 1) := by decide +kernel
theorem dX6_gone_19 : decode cX6_gone 19 = .ok (.goto 5, 3) := by decide +kernel
theorem dX6_gone_22 : decode cX6_gone 22 = .ok (.bipush (-2), 2) := by decide +kernel
theorem dX6_gone_24 : decode cX6_gone 24 = .ok (.ireturn, 1) := by decide +kernel
theorem dX6_see_0 : decode cX6_see 0 = .ok (.iload_n 1, 1) := by decide +kernel
theorem dX6_see_1 : decode cX6_see 1 = .ok (.invokestatic 45, 3) := by decide +kernel
theorem dX6_see_4 : decode cX6_see 4 = .ok (.ifCond .eq 32, 3) := by decide +kernel
theorem dX6_see_7 : decode cX6_see 7 = .ok (.iload_n 2, 1) := by decide +kernel
theorem dX6_see_8 : decode cX6_see 8 = .ok (.iconst 0, 1) := by decide +kernel
theorem dX6_see_9 : decode cX6_see 9 = .ok (.iconst 3, 1) := by decide +kernel
theorem dX6_see_10 : decode cX6_see 10 = .ok (.invokestatic 49, 3) := by decide +kernel
theorem dX6_see_13 : decode cX6_see 13 = .ok (.ifCond .eq 23, 3) := by decide +kernel
theorem dX6_see_16 : decode cX6_see 16 = .ok (.iload_n 3, 1) := by decide +kernel
theorem dX6_see_17 : decode cX6_see 17 = .ok (.iconst 0, 1) := by decide +kernel
theorem dX6_see_18 : decode cX6_see 18 = .ok (.bipush 60, 2) := by decide +kernel
theorem dX6_see_20 : decode cX6_see 20 = .ok (.invokestatic 49, 3) := by decide +kernel
theorem dX6_see_23 : decode cX6_see 23 = .ok (.ifCond .eq 13, 3) := by decide +kernel
theorem dX6_see_26 : decode cX6_see 26 = .ok (.iload 4, 2) := by decide +kernel
theorem dX6_see_28 : decode cX6_see 28 = .ok (.iconst 0, 1) := by decide +kernel
theorem dX6_see_29 : decode cX6_see 29 = .ok (.iconst 2, 1) := by decide +kernel
theorem dX6_see_30 : decode cX6_see 30 = .ok (.invokestatic 49, 3) := by decide +kernel
theorem dX6_see_33 : decode cX6_see 33 = .ok (.ifCond .ne 6, 3) := by decide +kernel
theorem dX6_see_36 : decode cX6_see 36 = .ok (.bipush (-2), 2) := by decide +kernel
theorem dX6_see_38 : decode cX6_see 38 = .ok (.ireturn, 1) := by decide +kernel
theorem dX6_see_39 : decode cX6_see 39 = .ok (.aload_n 0, 1) := by decide +kernel
theorem dX6_see_40 : decode cX6_see 40 = .ok (.getfield 12, 3) := by decide +kernel
theorem dX6_see_43 : decode cX6_see 43 = .ok (.getfield 81, 3) := by decide +kernel
theorem dX6_see_46 : decode cX6_see 46 = .ok (.astore 5, 2) := by decide +kernel
theorem dX6_see_48 : decode cX6_see 48 = .ok (.aload_n 0, 1) := by decide +kernel
theorem dX6_see_49 : decode cX6_see 49 = .ok (.getfield 12, 3) := by decide +kernel
theorem dX6_see_52 : decode cX6_see 52 = .ok (.iload_n 1, 1) := by decide +kernel
theorem dX6_see_53 : decode cX6_see 53 = .ok (.iload_n 2, 1) := by decide +kernel
theorem dX6_see_54 : decode cX6_see 54 = .ok (.iload_n 3, 1) := by decide +kernel
theorem dX6_see_55 : decode cX6_see 55 = .ok (.iload 4, 2) := by decide +kernel
theorem dX6_see_57 : decode cX6_see 57 = .ok (.invokevirtual 85, 3) := by decide +kernel
theorem dX6_see_60 : decode cX6_see 60 = .ok (.istore 6, 2) := by decide +kernel
theorem dX6_see_62 : decode cX6_see 62 = .ok (.iload 6, 2) := by decide +kernel
theorem dX6_see_64 : decode cX6_see 64 = .ok (.ifCond .lt 14, 3) := by decide +kernel
theorem dX6_see_67 : decode cX6_see 67 = .ok (.aload 5, 2) := by decide +kernel
theorem dX6_see_69 : decode cX6_see 69 = .ok (.iload 6, 2) := by decide +kernel
theorem dX6_see_71 : decode cX6_see 71 = .ok (.iload_n 1, 1) := by decide +kernel
theorem dX6_see_72 : decode cX6_see 72 = .ok (.invokevirtual 89, 3) := by decide +kernel
theorem dX6_see_75 : decode cX6_see 75 = .ok (.iload 6, 2) := by decide +kernel
theorem dX6_see_77 : decode cX6_see 77 = .ok (.ireturn, 1) := by decide +kernel
theorem dX6_see_78 : decode cX6_see 78 = .ok (.aload 5, 2) := by decide +kernel
theorem dX6_see_80 : decode cX6_see 80 = .ok (.getfield 94, 3) := by decide +kernel
theorem dX6_see_83 : decode cX6_see 83 = .ok (.bipush 20, 2) := by decide +kernel
theorem dX6_see_85 : decode cX6_see 85 = .ok (.if_icmp .lt 6, 3) := by decide +kernel
theorem dX6_see_88 : decode cX6_see 88 = .ok (.bipush (-4), 2) := by decide +kernel
theorem dX6_see_90 : decode cX6_see 90 = .ok (.ireturn, 1) := by decide +kernel
theorem dX6_see_91 : decode cX6_see 91 = .ok (.aload 5, 2) := by decide +kernel
theorem dX6_see_93 : decode cX6_see 93 = .ok (.iload_n 1, 1) := by decide +kernel
theorem dX6_see_94 : decode cX6_see 94 = .ok (.iload_n 2, 1) := by decide +kernel
theorem dX6_see_95 : decode cX6_see 95 = .ok (.iload_n 3, 1) := by decide +kernel
theorem dX6_see_96 : decode cX6_see 96 = .ok (.iload 4, 2) := by decide +kernel
theorem dX6_see_98 : decode cX6_see 98 = .ok (.invokevirtual 97, 3) := by decide +kernel
theorem dX6_see_101 : decode cX6_see 101 = .ok (.aload_n 0, 1) := by decide +kernel
theorem dX6_see_102 : decode cX6_see 102 = .ok (.iconst 1, 1) := by decide +kernel
theorem dX6_see_103 : decode cX6_see 103 = .ok (.putfield 41, 3) := by decide +kernel
theorem dX6_see_106 : decode cX6_see 106 = .ok (.aload 5, 2) := by decide +kernel
theorem dX6_see_108 : decode cX6_see 108 = .ok (.getfield 94, 3) := by decide +kernel
theorem dX6_see_111 : decode cX6_see 111 = .ok (.iconst 1, 1) := by decide +kernel
theorem dX6_see_112 : decode cX6_see 112 = .ok (.isub, 1) := by decide +kernel
theorem dX6_see_113 : decode cX6_see 113 = .ok (.ireturn, 1) := by decide +kernel
theorem dX6_drop_0 : decode cX6_drop 0 = .ok (.aload_n 0, 1) := by decide +kernel
theorem dX6_drop_1 : decode cX6_drop 1 = .ok (.iload_n 1, 1) := by decide +kernel
theorem dX6_drop_2 : decode cX6_drop 2 = .ok (.invokevirtual 101, 3) := by decide +kernel
theorem dX6_drop_5 : decode cX6_drop 5 = .ok (.ifCond .ne 5, 3) := by decide +kernel
theorem dX6_drop_8 : decode cX6_drop 8 = .ok (.iconst (-1), 1) := by decide +kernel
theorem dX6_drop_9 : decode cX6_drop 9 = .ok (.ireturn, 1) := by decide +kernel
theorem dX6_drop_10 : decode cX6_drop 10 = .ok (.aload_n 0, 1) := by decide +kernel
theorem dX6_drop_11 : decode cX6_drop 11 = .ok (.getfield 12, 3) := by decide +kernel
theorem dX6_drop_14 : decode cX6_drop 14 = .ok (.getfield 81, 3) := by decide +kernel
theorem dX6_drop_17 : decode cX6_drop 17 = .ok (.iload_n 1, 1) := by decide +kernel
theorem dX6_drop_18 : decode cX6_drop 18 = .ok (.invokevirtual 104, 3) := by decide +kernel
theorem dX6_drop_21 : decode cX6_drop 21 = .ok (.aload_n 0, 1) := by decide +kernel
theorem dX6_drop_22 : decode cX6_drop 22 = .ok (.iconst 1, 1) := by decide +kernel
theorem dX6_drop_23 : decode cX6_drop 23 = .ok (.putfield 41, 3) := by decide +kernel
theorem dX6_drop_26 : decode cX6_drop 26 = .ok (.aload_n 0, 1) := by decide +kernel
theorem dX6_drop_27 : decode cX6_drop 27 = .ok (.getfield 12, 3) := by decide +kernel
theorem dX6_drop_30 : decode cX6_drop 30 = .ok (.getfield 81, 3) := by decide +kernel
theorem dX6_drop_33 : decode cX6_drop 33 = .ok (.getfield 94, 3) := by decide +kernel
theorem dX6_drop_36 : decode cX6_drop 36 = .ok (.ireturn, 1) := by decide +kernel
theorem dX6_thing_0 : decode cX6_thing 0 = .ok (.aload_n 0, 1) := by decide +kernel
theorem dX6_thing_1 : decode cX6_thing 1 = .ok (.iload_n 1, 1) := by decide +kernel
theorem dX6_thing_2 : decode cX6_thing 2 = .ok (.invokevirtual 101, 3) := by decide +kernel
theorem dX6_thing_5 : decode cX6_thing 5 = .ok (.ifCond .ne 5, 3) := by decide +kernel
theorem dX6_thing_8 : decode cX6_thing 8 = .ok (.iconst (-1), 1) := by decide +kernel
theorem dX6_thing_9 : decode cX6_thing 9 = .ok (.ireturn, 1) := by decide +kernel
theorem dX6_thing_10 : decode cX6_thing 10 = .ok (.aload_n 0, 1) := by decide +kernel
theorem dX6_thing_11 : decode cX6_thing 11 = .ok (.getfield 12, 3) := by decide +kernel
theorem dX6_thing_14 : decode cX6_thing 14 = .ok (.getfield 81, 3) := by decide +kernel
theorem dX6_thing_17 : decode cX6_thing 17 = .ok (.astore_n 3, 1) := by decide +kernel
theorem dX6_thing_18 : decode cX6_thing 18 = .ok (.iload_n 2, 1) := by decide +kernel
theorem dX6_thing_19 : decode cX6_thing 19 = .ok (.tableswitch 151 0 10 #[57, 64, 71, 78, 85, 91, 100, 109, 124, 133, 142], 57) := by decide +kernel
theorem dX6_thing_76 : decode cX6_thing 76 = .ok (.aload_n 3, 1) := by decide +kernel
theorem dX6_thing_77 : decode cX6_thing 77 = .ok (.getfield 107, 3) := by decide +kernel
theorem dX6_thing_80 : decode cX6_thing 80 = .ok (.iload_n 1, 1) := by decide +kernel
theorem dX6_thing_81 : decode cX6_thing 81 = .ok (.iaload, 1) := by decide +kernel
theorem dX6_thing_82 : decode cX6_thing 82 = .ok (.ireturn, 1) := by decide +kernel
theorem dX6_thing_83 : decode cX6_thing 83 = .ok (.aload_n 3, 1) := by decide +kernel
theorem dX6_thing_84 : decode cX6_thing 84 = .ok (.getfield 110, 3) := by decide +kernel
theorem dX6_thing_87 : decode cX6_thing 87 = .ok (.iload_n 1, 1) := by decide +kernel
theorem dX6_thing_88 : decode cX6_thing 88 = .ok (.iaload, 1) := by decide +kernel
theorem dX6_thing_89 : decode cX6_thing 89 = .ok (.ireturn, 1) := by decide +kernel
theorem dX6_thing_90 : decode cX6_thing 90 = .ok (.aload_n 3, 1) := by decide +kernel
theorem dX6_thing_91 : decode cX6_thing 91 = .ok (.getfield 113, 3) := by decide +kernel
theorem dX6_thing_94 : decode cX6_thing 94 = .ok (.iload_n 1, 1) := by decide +kernel
theorem dX6_thing_95 : decode cX6_thing 95 = .ok (.iaload, 1) := by decide +kernel
theorem dX6_thing_96 : decode cX6_thing 96 = .ok (.ireturn, 1) := by decide +kernel
theorem dX6_thing_97 : decode cX6_thing 97 = .ok (.aload_n 3, 1) := by decide +kernel
theorem dX6_thing_98 : decode cX6_thing 98 = .ok (.getfield 116, 3) := by decide +kernel
theorem dX6_thing_101 : decode cX6_thing 101 = .ok (.iload_n 1, 1) := by decide +kernel
theorem dX6_thing_102 : decode cX6_thing 102 = .ok (.iaload, 1) := by decide +kernel
theorem dX6_thing_103 : decode cX6_thing 103 = .ok (.ireturn, 1) := by decide +kernel
theorem dX6_thing_104 : decode cX6_thing 104 = .ok (.aload_n 3, 1) := by decide +kernel
theorem dX6_thing_105 : decode cX6_thing 105 = .ok (.iload_n 1, 1) := by decide +kernel
theorem dX6_thing_106 : decode cX6_thing 106 = .ok (.invokevirtual 119, 3) := by decide +kernel
theorem dX6_thing_109 : decode cX6_thing 109 = .ok (.ireturn, 1) := by decide +kernel
theorem dX6_thing_110 : decode cX6_thing 110 = .ok (.aload_n 0, 1) := by decide +kernel
theorem dX6_thing_111 : decode cX6_thing 111 = .ok (.invokevirtual 122, 3) := by decide +kernel
theorem dX6_thing_114 : decode cX6_thing 114 = .ok (.iload_n 1, 1) := by decide +kernel
theorem dX6_thing_115 : decode cX6_thing 115 = .ok (.invokevirtual 126, 3) := by decide +kernel
theorem dX6_thing_118 : decode cX6_thing 118 = .ok (.ireturn, 1) := by decide +kernel
theorem dX6_thing_119 : decode cX6_thing 119 = .ok (.aload_n 0, 1) := by decide +kernel
theorem dX6_thing_120 : decode cX6_thing 120 = .ok (.invokevirtual 122, 3) := by decide +kernel
theorem dX6_thing_123 : decode cX6_thing 123 = .ok (.iload_n 1, 1) := by decide +kernel
theorem dX6_thing_124 : decode cX6_thing 124 = .ok (.invokevirtual 129, 3) := by decide +kernel
theorem dX6_thing_127 : decode cX6_thing 127 = .ok (.ireturn, 1) := by decide +kernel
theorem dX6_thing_128 : decode cX6_thing 128 = .ok (.aload_n 0, 1) := by decide +kernel
theorem dX6_thing_129 : decode cX6_thing 129 = .ok (.invokevirtual 122, 3) := by decide +kernel
theorem dX6_thing_132 : decode cX6_thing 132 = .ok (.pop, 1) := by decide +kernel
theorem dX6_thing_133 : decode cX6_thing 133 = .ok (.aload_n 0, 1) := by decide +kernel
theorem dX6_thing_134 : decode cX6_thing 134 = .ok (.getfield 37, 3) := by decide +kernel
theorem dX6_thing_137 : decode cX6_thing 137 = .ok (.getfield 132, 3) := by decide +kernel
theorem dX6_thing_140 : decode cX6_thing 140 = .ok (.iload_n 1, 1) := by decide +kernel
theorem dX6_thing_141 : decode cX6_thing 141 = .ok (.iaload, 1) := by decide +kernel
theorem dX6_thing_142 : decode cX6_thing 142 = .ok (.ireturn, 1) := by decide +kernel
theorem dX6_thing_143 : decode cX6_thing 143 = .ok (.aload_n 0, 1) := by decide +kernel
theorem dX6_thing_144 : decode cX6_thing 144 = .ok (.getfield 12, 3) := by decide +kernel
theorem dX6_thing_147 : decode cX6_thing 147 = .ok (.iload_n 1, 1) := by decide +kernel
theorem dX6_thing_148 : decode cX6_thing 148 = .ok (.invokevirtual 135, 3) := by decide +kernel
theorem dX6_thing_151 : decode cX6_thing 151 = .ok (.ireturn, 1) := by decide +kernel
theorem dX6_thing_152 : decode cX6_thing 152 = .ok (.aload_n 0, 1) := by decide +kernel
theorem dX6_thing_153 : decode cX6_thing 153 = .ok (.getfield 12, 3) := by decide +kernel
theorem dX6_thing_156 : decode cX6_thing 156 = .ok (.iload_n 1, 1) := by decide +kernel
theorem dX6_thing_157 : decode cX6_thing 157 = .ok (.invokevirtual 138, 3) := by decide +kernel
theorem dX6_thing_160 : decode cX6_thing 160 = .ok (.ireturn, 1) := by decide +kernel
theorem dX6_thing_161 : decode cX6_thing 161 = .ok (.aload_n 0, 1) := by decide +kernel
theorem dX6_thing_162 : decode cX6_thing 162 = .ok (.getfield 12, 3) := by decide +kernel
theorem dX6_thing_165 : decode cX6_thing 165 = .ok (.iload_n 1, 1) := by decide +kernel
theorem dX6_thing_166 : decode cX6_thing 166 = .ok (.invokevirtual 141, 3) := by decide +kernel
theorem dX6_thing_169 : decode cX6_thing 169 = .ok (.ireturn, 1) := by decide +kernel
theorem dX6_thing_170 : decode cX6_thing 170 = .ok (.bipush (-2), 2) := by decide +kernel
theorem dX6_thing_172 : decode cX6_thing 172 = .ok (.ireturn, 1) := by decide +kernel
theorem dX6_place_0 : decode cX6_place 0 = .ok (.aload_n 0, 1) := by decide +kernel
theorem dX6_place_1 : decode cX6_place 1 = .ok (.iload_n 1, 1) := by decide +kernel
theorem dX6_place_2 : decode cX6_place 2 = .ok (.invokevirtual 101, 3) := by decide +kernel
theorem dX6_place_5 : decode cX6_place 5 = .ok (.ifCond .ne 5, 3) := by decide +kernel
theorem dX6_place_8 : decode cX6_place 8 = .ok (.iconst (-1), 1) := by decide +kernel
theorem dX6_place_9 : decode cX6_place 9 = .ok (.ireturn, 1) := by decide +kernel
theorem dX6_place_10 : decode cX6_place 10 = .ok (.iload_n 2, 1) := by decide +kernel
theorem dX6_place_11 : decode cX6_place 11 = .ok (.invokestatic 45, 3) := by decide +kernel
theorem dX6_place_14 : decode cX6_place 14 = .ok (.ifCond .eq 19, 3) := by decide +kernel
theorem dX6_place_17 : decode cX6_place 17 = .ok (.aload_n 0, 1) := by decide +kernel
theorem dX6_place_18 : decode cX6_place 18 = .ok (.getfield 12, 3) := by decide +kernel
theorem dX6_place_21 : decode cX6_place 21 = .ok (.iload_n 1, 1) := by decide +kernel
theorem dX6_place_22 : decode cX6_place 22 = .ok (.iload_n 2, 1) := by decide +kernel
theorem dX6_place_23 : decode cX6_place 23 = .ok (.invokevirtual 144, 3) := by decide +kernel
theorem dX6_place_26 : decode cX6_place 26 = .ok (.sipush 10000, 3) := by decide +kernel
theorem dX6_place_29 : decode cX6_place 29 = .ok (.iadd, 1) := by decide +kernel
theorem dX6_place_30 : decode cX6_place 30 = .ok (.goto 5, 3) := by decide +kernel
theorem dX6_place_33 : decode cX6_place 33 = .ok (.bipush (-2), 2) := by decide +kernel
theorem dX6_place_35 : decode cX6_place 35 = .ok (.ireturn, 1) := by decide +kernel
theorem dX6_reach_0 : decode cX6_reach 0 = .ok (.iload_n 1, 1) := by decide +kernel
theorem dX6_reach_1 : decode cX6_reach 1 = .ok (.invokestatic 148, 3) := by decide +kernel
theorem dX6_reach_4 : decode cX6_reach 4 = .ok (.ifCond .ne 5, 3) := by decide +kernel
theorem dX6_reach_7 : decode cX6_reach 7 = .ok (.iconst (-1), 1) := by decide +kernel
theorem dX6_reach_8 : decode cX6_reach 8 = .ok (.ireturn, 1) := by decide +kernel
theorem dX6_reach_9 : decode cX6_reach 9 = .ok (.iload_n 2, 1) := by decide +kernel
theorem dX6_reach_10 : decode cX6_reach 10 = .ok (.iconst 0, 1) := by decide +kernel
theorem dX6_reach_11 : decode cX6_reach 11 = .ok (.sipush 999, 3) := by decide +kernel
theorem dX6_reach_14 : decode cX6_reach 14 = .ok (.invokestatic 49, 3) := by decide +kernel
theorem dX6_reach_17 : decode cX6_reach 17 = .ok (.ifCond .eq 14, 3) := by decide +kernel
theorem dX6_reach_20 : decode cX6_reach 20 = .ok (.iload_n 3, 1) := by decide +kernel
theorem dX6_reach_21 : decode cX6_reach 21 = .ok (.iload_n 2, 1) := by decide +kernel
theorem dX6_reach_22 : decode cX6_reach 22 = .ok (.sipush 999, 3) := by decide +kernel
theorem dX6_reach_25 : decode cX6_reach 25 = .ok (.invokestatic 49, 3) := by decide +kernel
theorem dX6_reach_28 : decode cX6_reach 28 = .ok (.ifCond .ne 6, 3) := by decide +kernel
theorem dX6_reach_31 : decode cX6_reach 31 = .ok (.bipush (-2), 2) := by decide +kernel
theorem dX6_reach_33 : decode cX6_reach 33 = .ok (.ireturn, 1) := by decide +kernel
theorem dX6_reach_34 : decode cX6_reach 34 = .ok (.aload_n 0, 1) := by decide +kernel
theorem dX6_reach_35 : decode cX6_reach 35 = .ok (.getfield 12, 3) := by decide +kernel
theorem dX6_reach_38 : decode cX6_reach 38 = .ok (.getfield 151, 3) := by decide +kernel
theorem dX6_reach_41 : decode cX6_reach 41 = .ok (.iload_n 1, 1) := by decide +kernel
theorem dX6_reach_42 : decode cX6_reach 42 = .ok (.iload_n 2, 1) := by decide +kernel
theorem dX6_reach_43 : decode cX6_reach 43 = .ok (.iload_n 3, 1) := by decide +kernel
theorem dX6_reach_44 : decode cX6_reach 44 = .ok (.invokevirtual 155, 3) := by decide +kernel
theorem dX6_reach_47 : decode cX6_reach 47 = .ok (.ifCond .eq 6, 3) := by decide +kernel
theorem dX6_reach_50 : decode cX6_reach 50 = .ok (.bipush (-5), 2) := by decide +kernel
theorem dX6_reach_52 : decode cX6_reach 52 = .ok (.ireturn, 1) := by decide +kernel
theorem dX6_reach_53 : decode cX6_reach 53 = .ok (.aload_n 0, 1) := by decide +kernel
theorem dX6_reach_54 : decode cX6_reach 54 = .ok (.getfield 12, 3) := by decide +kernel
theorem dX6_reach_57 : decode cX6_reach 57 = .ok (.getfield 151, 3) := by decide +kernel
theorem dX6_reach_60 : decode cX6_reach 60 = .ok (.getfield 160, 3) := by decide +kernel
theorem dX6_reach_63 : decode cX6_reach 63 = .ok (.iload_n 1, 1) := by decide +kernel
theorem dX6_reach_64 : decode cX6_reach 64 = .ok (.iload_n 2, 1) := by decide +kernel
theorem dX6_reach_65 : decode cX6_reach 65 = .ok (.iastore, 1) := by decide +kernel
theorem dX6_reach_66 : decode cX6_reach 66 = .ok (.aload_n 0, 1) := by decide +kernel
theorem dX6_reach_67 : decode cX6_reach 67 = .ok (.getfield 12, 3) := by decide +kernel
theorem dX6_reach_70 : decode cX6_reach 70 = .ok (.getfield 151, 3) := by decide +kernel
theorem dX6_reach_73 : decode cX6_reach 73 = .ok (.getfield 163, 3) := by decide +kernel
theorem dX6_reach_76 : decode cX6_reach 76 = .ok (.iload_n 1, 1) := by decide +kernel
theorem dX6_reach_77 : decode cX6_reach 77 = .ok (.iload_n 3, 1) := by decide +kernel
theorem dX6_reach_78 : decode cX6_reach 78 = .ok (.iastore, 1) := by decide +kernel
theorem dX6_reach_79 : decode cX6_reach 79 = .ok (.aload_n 0, 1) := by decide +kernel
theorem dX6_reach_80 : decode cX6_reach 80 = .ok (.iconst 1, 1) := by decide +kernel
theorem dX6_reach_81 : decode cX6_reach 81 = .ok (.putfield 41, 3) := by decide +kernel
theorem dX6_reach_84 : decode cX6_reach 84 = .ok (.iconst 1, 1) := by decide +kernel
theorem dX6_reach_85 : decode cX6_reach 85 = .ok (.ireturn, 1) := by decide +kernel
theorem dX6_beat_0 : decode cX6_beat 0 = .ok (.iload_n 1, 1) := by decide +kernel
theorem dX6_beat_1 : decode cX6_beat 1 = .ok (.invokestatic 148, 3) := by decide +kernel
theorem dX6_beat_4 : decode cX6_beat 4 = .ok (.ifCond .ne 5, 3) := by decide +kernel
theorem dX6_beat_7 : decode cX6_beat 7 = .ok (.iconst (-1), 1) := by decide +kernel
theorem dX6_beat_8 : decode cX6_beat 8 = .ok (.ireturn, 1) := by decide +kernel
theorem dX6_beat_9 : decode cX6_beat 9 = .ok (.iload_n 2, 1) := by decide +kernel
theorem dX6_beat_10 : decode cX6_beat 10 = .ok (.iconst 1, 1) := by decide +kernel
theorem dX6_beat_11 : decode cX6_beat 11 = .ok (.bipush 20, 2) := by decide +kernel
theorem dX6_beat_13 : decode cX6_beat 13 = .ok (.invokestatic 49, 3) := by decide +kernel
theorem dX6_beat_16 : decode cX6_beat 16 = .ok (.ifCond .eq 14, 3) := by decide +kernel
theorem dX6_beat_19 : decode cX6_beat 19 = .ok (.iload_n 3, 1) := by decide +kernel
theorem dX6_beat_20 : decode cX6_beat 20 = .ok (.iconst 0, 1) := by decide +kernel
theorem dX6_beat_21 : decode cX6_beat 21 = .ok (.iload_n 2, 1) := by decide +kernel
theorem dX6_beat_22 : decode cX6_beat 22 = .ok (.iconst 1, 1) := by decide +kernel
theorem dX6_beat_23 : decode cX6_beat 23 = .ok (.isub, 1) := by decide +kernel
theorem dX6_beat_24 : decode cX6_beat 24 = .ok (.invokestatic 49, 3) := by decide +kernel
theorem dX6_beat_27 : decode cX6_beat 27 = .ok (.ifCond .ne 6, 3) := by decide +kernel
theorem dX6_beat_30 : decode cX6_beat 30 = .ok (.bipush (-2), 2) := by decide +kernel
theorem dX6_beat_32 : decode cX6_beat 32 = .ok (.ireturn, 1) := by decide +kernel
theorem dX6_beat_33 : decode cX6_beat 33 = .ok (.aload_n 0, 1) := by decide +kernel
theorem dX6_beat_34 : decode cX6_beat 34 = .ok (.getfield 12, 3) := by decide +kernel
theorem dX6_beat_37 : decode cX6_beat 37 = .ok (.getfield 151, 3) := by decide +kernel
theorem dX6_beat_40 : decode cX6_beat 40 = .ok (.getfield 166, 3) := by decide +kernel
theorem dX6_beat_43 : decode cX6_beat 43 = .ok (.iload_n 1, 1) := by decide +kernel
theorem dX6_beat_44 : decode cX6_beat 44 = .ok (.iload_n 2, 1) := by decide +kernel
theorem dX6_beat_45 : decode cX6_beat 45 = .ok (.iastore, 1) := by decide +kernel
theorem dX6_beat_46 : decode cX6_beat 46 = .ok (.aload_n 0, 1) := by decide +kernel
theorem dX6_beat_47 : decode cX6_beat 47 = .ok (.getfield 12, 3) := by decide +kernel
theorem dX6_beat_50 : decode cX6_beat 50 = .ok (.getfield 151, 3) := by decide +kernel
theorem dX6_beat_53 : decode cX6_beat 53 = .ok (.getfield 169, 3) := by decide +kernel
theorem dX6_beat_56 : decode cX6_beat 56 = .ok (.iload_n 1, 1) := by decide +kernel
theorem dX6_beat_57 : decode cX6_beat 57 = .ok (.iload_n 3, 1) := by decide +kernel
theorem dX6_beat_58 : decode cX6_beat 58 = .ok (.iastore, 1) := by decide +kernel
theorem dX6_beat_59 : decode cX6_beat 59 = .ok (.aload_n 0, 1) := by decide +kernel
theorem dX6_beat_60 : decode cX6_beat 60 = .ok (.iconst 1, 1) := by decide +kernel
theorem dX6_beat_61 : decode cX6_beat 61 = .ok (.putfield 41, 3) := by decide +kernel
theorem dX6_beat_64 : decode cX6_beat 64 = .ok (.iconst 1, 1) := by decide +kernel
theorem dX6_beat_65 : decode cX6_beat 65 = .ok (.ireturn, 1) := by decide +kernel
theorem dX6_lanes_0 : decode cX6_lanes 0 = .ok (.iload_n 1, 1) := by decide +kernel
theorem dX6_lanes_1 : decode cX6_lanes 1 = .ok (.invokestatic 148, 3) := by decide +kernel
theorem dX6_lanes_4 : decode cX6_lanes 4 = .ok (.ifCond .ne 5, 3) := by decide +kernel
theorem dX6_lanes_7 : decode cX6_lanes 7 = .ok (.iconst (-1), 1) := by decide +kernel
theorem dX6_lanes_8 : decode cX6_lanes 8 = .ok (.ireturn, 1) := by decide +kernel
theorem dX6_lanes_9 : decode cX6_lanes 9 = .ok (.iload_n 2, 1) := by decide +kernel
theorem dX6_lanes_10 : decode cX6_lanes 10 = .ok (.iconst 0, 1) := by decide +kernel
theorem dX6_lanes_11 : decode cX6_lanes 11 = .ok (.bipush 15, 2) := by decide +kernel
theorem dX6_lanes_13 : decode cX6_lanes 13 = .ok (.invokestatic 49, 3) := by decide +kernel
theorem dX6_lanes_16 : decode cX6_lanes 16 = .ok (.ifCond .ne 6, 3) := by decide +kernel
theorem dX6_lanes_19 : decode cX6_lanes 19 = .ok (.bipush (-2), 2) := by decide +kernel
theorem dX6_lanes_21 : decode cX6_lanes 21 = .ok (.ireturn, 1) := by decide +kernel
theorem dX6_lanes_22 : decode cX6_lanes 22 = .ok (.aload_n 0, 1) := by decide +kernel
theorem dX6_lanes_23 : decode cX6_lanes 23 = .ok (.getfield 12, 3) := by decide +kernel
theorem dX6_lanes_26 : decode cX6_lanes 26 = .ok (.getfield 151, 3) := by decide +kernel
theorem dX6_lanes_29 : decode cX6_lanes 29 = .ok (.getfield 172, 3) := by decide +kernel
theorem dX6_lanes_32 : decode cX6_lanes 32 = .ok (.iload_n 1, 1) := by decide +kernel
theorem dX6_lanes_33 : decode cX6_lanes 33 = .ok (.iaload, 1) := by decide +kernel
theorem dX6_lanes_34 : decode cX6_lanes 34 = .ok (.istore_n 3, 1) := by decide +kernel
theorem dX6_lanes_35 : decode cX6_lanes 35 = .ok (.aload_n 0, 1) := by decide +kernel
theorem dX6_lanes_36 : decode cX6_lanes 36 = .ok (.getfield 12, 3) := by decide +kernel
theorem dX6_lanes_39 : decode cX6_lanes 39 = .ok (.getfield 151, 3) := by decide +kernel
theorem dX6_lanes_42 : decode cX6_lanes 42 = .ok (.getfield 172, 3) := by decide +kernel
theorem dX6_lanes_45 : decode cX6_lanes 45 = .ok (.iload_n 1, 1) := by decide +kernel
theorem dX6_lanes_46 : decode cX6_lanes 46 = .ok (.iload_n 2, 1) := by decide +kernel
theorem dX6_lanes_47 : decode cX6_lanes 47 = .ok (.iastore, 1) := by decide +kernel
theorem dX6_lanes_48 : decode cX6_lanes 48 = .ok (.aload_n 0, 1) := by decide +kernel
theorem dX6_lanes_49 : decode cX6_lanes 49 = .ok (.iconst 1, 1) := by decide +kernel
theorem dX6_lanes_50 : decode cX6_lanes 50 = .ok (.putfield 41, 3) := by decide +kernel
theorem dX6_lanes_53 : decode cX6_lanes 53 = .ok (.iload_n 3, 1) := by decide +kernel
theorem dX6_lanes_54 : decode cX6_lanes 54 = .ok (.ireturn, 1) := by decide +kernel
theorem dX6_arm_0 : decode cX6_arm 0 = .ok (.iload_n 1, 1) := by decide +kernel
theorem dX6_arm_1 : decode cX6_arm 1 = .ok (.invokestatic 148, 3) := by decide +kernel
theorem dX6_arm_4 : decode cX6_arm 4 = .ok (.ifCond .ne 5, 3) := by decide +kernel
theorem dX6_arm_7 : decode cX6_arm 7 = .ok (.iconst (-1), 1) := by decide +kernel
theorem dX6_arm_8 : decode cX6_arm 8 = .ok (.ireturn, 1) := by decide +kernel
theorem dX6_arm_9 : decode cX6_arm 9 = .ok (.aload_n 0, 1) := by decide +kernel
theorem dX6_arm_10 : decode cX6_arm 10 = .ok (.getfield 12, 3) := by decide +kernel
theorem dX6_arm_13 : decode cX6_arm 13 = .ok (.getfield 151, 3) := by decide +kernel
theorem dX6_arm_16 : decode cX6_arm 16 = .ok (.astore_n 3, 1) := by decide +kernel
theorem dX6_arm_17 : decode cX6_arm 17 = .ok (.iload_n 2, 1) := by decide +kernel
theorem dX6_arm_18 : decode cX6_arm 18 = .ok (.tableswitch 114 0 6 #[42, 49, 56, 63, 70, 77, 86], 42) := by decide +kernel
theorem dX6_arm_60 : decode cX6_arm 60 = .ok (.aload_n 3, 1) := by decide +kernel
theorem dX6_arm_61 : decode cX6_arm 61 = .ok (.getfield 160, 3) := by decide +kernel
theorem dX6_arm_64 : decode cX6_arm 64 = .ok (.iload_n 1, 1) := by decide +kernel
theorem dX6_arm_65 : decode cX6_arm 65 = .ok (.iaload, 1) := by decide +kernel
theorem dX6_arm_66 : decode cX6_arm 66 = .ok (.ireturn, 1) := by decide +kernel
theorem dX6_arm_67 : decode cX6_arm 67 = .ok (.aload_n 3, 1) := by decide +kernel
theorem dX6_arm_68 : decode cX6_arm 68 = .ok (.getfield 163, 3) := by decide +kernel
theorem dX6_arm_71 : decode cX6_arm 71 = .ok (.iload_n 1, 1) := by decide +kernel
theorem dX6_arm_72 : decode cX6_arm 72 = .ok (.iaload, 1) := by decide +kernel
theorem dX6_arm_73 : decode cX6_arm 73 = .ok (.ireturn, 1) := by decide +kernel
theorem dX6_arm_74 : decode cX6_arm 74 = .ok (.aload_n 3, 1) := by decide +kernel
theorem dX6_arm_75 : decode cX6_arm 75 = .ok (.getfield 166, 3) := by decide +kernel
theorem dX6_arm_78 : decode cX6_arm 78 = .ok (.iload_n 1, 1) := by decide +kernel
theorem dX6_arm_79 : decode cX6_arm 79 = .ok (.iaload, 1) := by decide +kernel
theorem dX6_arm_80 : decode cX6_arm 80 = .ok (.ireturn, 1) := by decide +kernel
theorem dX6_arm_81 : decode cX6_arm 81 = .ok (.aload_n 3, 1) := by decide +kernel
theorem dX6_arm_82 : decode cX6_arm 82 = .ok (.getfield 169, 3) := by decide +kernel
theorem dX6_arm_85 : decode cX6_arm 85 = .ok (.iload_n 1, 1) := by decide +kernel
theorem dX6_arm_86 : decode cX6_arm 86 = .ok (.iaload, 1) := by decide +kernel
theorem dX6_arm_87 : decode cX6_arm 87 = .ok (.ireturn, 1) := by decide +kernel
theorem dX6_arm_88 : decode cX6_arm 88 = .ok (.aload_n 3, 1) := by decide +kernel
theorem dX6_arm_89 : decode cX6_arm 89 = .ok (.getfield 172, 3) := by decide +kernel
theorem dX6_arm_92 : decode cX6_arm 92 = .ok (.iload_n 1, 1) := by decide +kernel
theorem dX6_arm_93 : decode cX6_arm 93 = .ok (.iaload, 1) := by decide +kernel
theorem dX6_arm_94 : decode cX6_arm 94 = .ok (.ireturn, 1) := by decide +kernel
theorem dX6_arm_95 : decode cX6_arm 95 = .ok (.aload_n 0, 1) := by decide +kernel
theorem dX6_arm_96 : decode cX6_arm 96 = .ok (.invokevirtual 122, 3) := by decide +kernel
theorem dX6_arm_99 : decode cX6_arm 99 = .ok (.iload_n 1, 1) := by decide +kernel
theorem dX6_arm_100 : decode cX6_arm 100 = .ok (.invokevirtual 175, 3) := by decide +kernel
theorem dX6_arm_103 : decode cX6_arm 103 = .ok (.ireturn, 1) := by decide +kernel
theorem dX6_arm_104 : decode cX6_arm 104 = .ok (.aload_n 0, 1) := by decide +kernel
theorem dX6_arm_105 : decode cX6_arm 105 = .ok (.getfield 31, 3) := by decide +kernel
theorem dX6_arm_108 : decode cX6_arm 108 = .ok (.aload_n 0, 1) := by decide +kernel
theorem dX6_arm_109 : decode cX6_arm 109 = .ok (.getfield 12, 3) := by decide +kernel
theorem dX6_arm_112 : decode cX6_arm 112 = .ok (.iload_n 1, 1) := by decide +kernel
theorem dX6_arm_113 : decode cX6_arm 113 = .ok (.invokevirtual 178, 3) := by decide +kernel
theorem dX6_arm_116 : decode cX6_arm 116 = .ok (.aload_n 0, 1) := by decide +kernel
theorem dX6_arm_117 : decode cX6_arm 117 = .ok (.invokevirtual 122, 3) := by decide +kernel
theorem dX6_arm_120 : decode cX6_arm 120 = .ok (.getfield 182, 3) := by decide +kernel
theorem dX6_arm_123 : decode cX6_arm 123 = .ok (.aload_n 0, 1) := by decide +kernel
theorem dX6_arm_124 : decode cX6_arm 124 = .ok (.getfield 31, 3) := by decide +kernel
theorem dX6_arm_127 : decode cX6_arm 127 = .ok (.getfield 182, 3) := by decide +kernel
theorem dX6_arm_130 : decode cX6_arm 130 = .ok (.isub, 1) := by decide +kernel
theorem dX6_arm_131 : decode cX6_arm 131 = .ok (.ireturn, 1) := by decide +kernel
theorem dX6_arm_132 : decode cX6_arm 132 = .ok (.bipush (-2), 2) := by decide +kernel
theorem dX6_arm_134 : decode cX6_arm 134 = .ok (.ireturn, 1) := by decide +kernel
theorem dX6_can_0 : decode cX6_can 0 = .ok (.iload_n 1, 1) := by decide +kernel
theorem dX6_can_1 : decode cX6_can 1 = .ok (.invokestatic 148, 3) := by decide +kernel
theorem dX6_can_4 : decode cX6_can 4 = .ok (.ifCond .eq 11, 3) := by decide +kernel
theorem dX6_can_7 : decode cX6_can 7 = .ok (.aload_n 0, 1) := by decide +kernel
theorem dX6_can_8 : decode cX6_can 8 = .ok (.iload_n 2, 1) := by decide +kernel
theorem dX6_can_9 : decode cX6_can 9 = .ok (.invokevirtual 101, 3) := by decide +kernel
theorem dX6_can_12 : decode cX6_can 12 = .ok (.ifCond .ne 5, 3) := by decide +kernel
theorem dX6_can_15 : decode cX6_can 15 = .ok (.iconst (-1), 1) := by decide +kernel
theorem dX6_can_16 : decode cX6_can 16 = .ok (.ireturn, 1) := by decide +kernel
theorem dX6_can_17 : decode cX6_can 17 = .ok (.iload_n 3, 1) := by decide +kernel
theorem dX6_can_18 : decode cX6_can 18 = .ok (.invokestatic 45, 3) := by decide +kernel
theorem dX6_can_21 : decode cX6_can 21 = .ok (.ifCond .ne 6, 3) := by decide +kernel
theorem dX6_can_24 : decode cX6_can 24 = .ok (.bipush (-2), 2) := by decide +kernel
theorem dX6_can_26 : decode cX6_can 26 = .ok (.ireturn, 1) := by decide +kernel
theorem dX6_can_27 : decode cX6_can 27 = .ok (.aload_n 0, 1) := by decide +kernel
theorem dX6_can_28 : decode cX6_can 28 = .ok (.getfield 12, 3) := by decide +kernel
theorem dX6_can_31 : decode cX6_can 31 = .ok (.iload_n 1, 1) := by decide +kernel
theorem dX6_can_32 : decode cX6_can 32 = .ok (.iload_n 2, 1) := by decide +kernel
theorem dX6_can_33 : decode cX6_can 33 = .ok (.iload_n 3, 1) := by decide +kernel
theorem dX6_can_34 : decode cX6_can 34 = .ok (.invokevirtual 185, 3) := by decide +kernel
theorem dX6_can_37 : decode cX6_can 37 = .ok (.ifCond .eq 7, 3) := by decide +kernel
theorem dX6_can_40 : decode cX6_can 40 = .ok (.iconst 1, 1) := by decide +kernel
theorem dX6_can_41 : decode cX6_can 41 = .ok (.goto 4, 3) := by decide +kernel
theorem dX6_can_44 : decode cX6_can 44 = .ok (.iconst 0, 1) := by decide +kernel
theorem dX6_can_45 : decode cX6_can 45 = .ok (.ireturn, 1) := by decide +kernel
theorem dX6_takes_0 : decode cX6_takes 0 = .ok (.iload_n 1, 1) := by decide +kernel
theorem dX6_takes_1 : decode cX6_takes 1 = .ok (.invokestatic 148, 3) := by decide +kernel
theorem dX6_takes_4 : decode cX6_takes 4 = .ok (.ifCond .ne 5, 3) := by decide +kernel
theorem dX6_takes_7 : decode cX6_takes 7 = .ok (.iconst (-1), 1) := by decide +kernel
theorem dX6_takes_8 : decode cX6_takes 8 = .ok (.ireturn, 1) := by decide +kernel
theorem dX6_takes_9 : decode cX6_takes 9 = .ok (.iload_n 2, 1) := by decide +kernel
theorem dX6_takes_10 : decode cX6_takes 10 = .ok (.invokestatic 45, 3) := by decide +kernel
theorem dX6_takes_13 : decode cX6_takes 13 = .ok (.ifCond .ne 6, 3) := by decide +kernel
theorem dX6_takes_16 : decode cX6_takes 16 = .ok (.bipush (-2), 2) := by decide +kernel
theorem dX6_takes_18 : decode cX6_takes 18 = .ok (.ireturn, 1) := by decide +kernel
theorem dX6_takes_19 : decode cX6_takes 19 = .ok (.aload_n 0, 1) := by decide +kernel
theorem dX6_takes_20 : decode cX6_takes 20 = .ok (.invokevirtual 122, 3) := by decide +kernel
theorem dX6_takes_23 : decode cX6_takes 23 = .ok (.iload_n 1, 1) := by decide +kernel
theorem dX6_takes_24 : decode cX6_takes 24 = .ok (.iload_n 2, 1) := by decide +kernel
theorem dX6_takes_25 : decode cX6_takes 25 = .ok (.invokevirtual 188, 3) := by decide +kernel
theorem dX6_takes_28 : decode cX6_takes 28 = .ok (.istore_n 3, 1) := by decide +kernel
theorem dX6_takes_29 : decode cX6_takes 29 = .ok (.iload_n 3, 1) := by decide +kernel
theorem dX6_takes_30 : decode cX6_takes 30 = .ok (.ifCond .ge 8, 3) := by decide +kernel
theorem dX6_takes_33 : decode cX6_takes 33 = .ok (.bipush (-6), 2) := by decide +kernel
theorem dX6_takes_35 : decode cX6_takes 35 = .ok (.goto 4, 3) := by decide +kernel
theorem dX6_takes_38 : decode cX6_takes 38 = .ok (.iload_n 3, 1) := by decide +kernel
theorem dX6_takes_39 : decode cX6_takes 39 = .ok (.ireturn, 1) := by decide +kernel
theorem dX6_plan_0 : decode cX6_plan 0 = .ok (.iload_n 1, 1) := by decide +kernel
theorem dX6_plan_1 : decode cX6_plan 1 = .ok (.tableswitch 86 0 4 #[35, 43, 62, 70, 78], 35) := by decide +kernel
theorem dX6_plan_36 : decode cX6_plan 36 = .ok (.aload_n 0, 1) := by decide +kernel
theorem dX6_plan_37 : decode cX6_plan 37 = .ok (.invokevirtual 122, 3) := by decide +kernel
theorem dX6_plan_40 : decode cX6_plan 40 = .ok (.getfield 182, 3) := by decide +kernel
theorem dX6_plan_43 : decode cX6_plan 43 = .ok (.ireturn, 1) := by decide +kernel
theorem dX6_plan_44 : decode cX6_plan 44 = .ok (.aload_n 0, 1) := by decide +kernel
theorem dX6_plan_45 : decode cX6_plan 45 = .ok (.getfield 12, 3) := by decide +kernel
theorem dX6_plan_48 : decode cX6_plan 48 = .ok (.getfield 81, 3) := by decide +kernel
theorem dX6_plan_51 : decode cX6_plan 51 = .ok (.getfield 94, 3) := by decide +kernel
theorem dX6_plan_54 : decode cX6_plan 54 = .ok (.aload_n 0, 1) := by decide +kernel
theorem dX6_plan_55 : decode cX6_plan 55 = .ok (.invokevirtual 122, 3) := by decide +kernel
theorem dX6_plan_58 : decode cX6_plan 58 = .ok (.getfield 182, 3) := by decide +kernel
theorem dX6_plan_61 : decode cX6_plan 61 = .ok (.isub, 1) := by decide +kernel
theorem dX6_plan_62 : decode cX6_plan 62 = .ok (.ireturn, 1) := by decide +kernel
theorem dX6_plan_63 : decode cX6_plan 63 = .ok (.aload_n 0, 1) := by decide +kernel
theorem dX6_plan_64 : decode cX6_plan 64 = .ok (.invokevirtual 122, 3) := by decide +kernel
theorem dX6_plan_67 : decode cX6_plan 67 = .ok (.invokevirtual 191, 3) := by decide +kernel
theorem dX6_plan_70 : decode cX6_plan 70 = .ok (.ireturn, 1) := by decide +kernel
theorem dX6_plan_71 : decode cX6_plan 71 = .ok (.aload_n 0, 1) := by decide +kernel
theorem dX6_plan_72 : decode cX6_plan 72 = .ok (.invokevirtual 122, 3) := by decide +kernel
theorem dX6_plan_75 : decode cX6_plan 75 = .ok (.invokevirtual 195, 3) := by decide +kernel
theorem dX6_plan_78 : decode cX6_plan 78 = .ok (.ireturn, 1) := by decide +kernel
theorem dX6_plan_79 : decode cX6_plan 79 = .ok (.aload_n 0, 1) := by decide +kernel
theorem dX6_plan_80 : decode cX6_plan 80 = .ok (.invokevirtual 122, 3) := by decide +kernel
theorem dX6_plan_83 : decode cX6_plan 83 = .ok (.invokevirtual 198, 3) := by decide +kernel
theorem dX6_plan_86 : decode cX6_plan 86 = .ok (.ireturn, 1) := by decide +kernel
theorem dX6_plan_87 : decode cX6_plan 87 = .ok (.bipush (-2), 2) := by decide +kernel
theorem dX6_plan_89 : decode cX6_plan 89 = .ok (.ireturn, 1) := by decide +kernel
theorem dX6_tray_0 : decode cX6_tray 0 = .ok (.iload_n 1, 1) := by decide +kernel
theorem dX6_tray_1 : decode cX6_tray 1 = .ok (.iconst 0, 1) := by decide +kernel
theorem dX6_tray_2 : decode cX6_tray 2 = .ok (.iconst 2, 1) := by decide +kernel
theorem dX6_tray_3 : decode cX6_tray 3 = .ok (.invokestatic 49, 3) := by decide +kernel
theorem dX6_tray_6 : decode cX6_tray 6 = .ok (.ifCond .eq 20, 3) := by decide +kernel
theorem dX6_tray_9 : decode cX6_tray 9 = .ok (.iload_n 2, 1) := by decide +kernel
theorem dX6_tray_10 : decode cX6_tray 10 = .ok (.iconst 0, 1) := by decide +kernel
theorem dX6_tray_11 : decode cX6_tray 11 = .ok (.aload_n 0, 1) := by decide +kernel
theorem dX6_tray_12 : decode cX6_tray 12 = .ok (.getfield 12, 3) := by decide +kernel
theorem dX6_tray_15 : decode cX6_tray 15 = .ok (.getfield 201, 3) := by decide +kernel
theorem dX6_tray_18 : decode cX6_tray 18 = .ok (.iconst 1, 1) := by decide +kernel
theorem dX6_tray_19 : decode cX6_tray 19 = .ok (.isub, 1) := by decide +kernel
theorem dX6_tray_20 : decode cX6_tray 20 = .ok (.invokestatic 49, 3) := by decide +kernel
theorem dX6_tray_23 : decode cX6_tray 23 = .ok (.ifCond .ne 6, 3) := by decide +kernel
theorem dX6_tray_26 : decode cX6_tray 26 = .ok (.bipush (-2), 2) := by decide +kernel
theorem dX6_tray_28 : decode cX6_tray 28 = .ok (.ireturn, 1) := by decide +kernel
theorem dX6_tray_29 : decode cX6_tray 29 = .ok (.aload_n 0, 1) := by decide +kernel
theorem dX6_tray_30 : decode cX6_tray 30 = .ok (.invokevirtual 122, 3) := by decide +kernel
theorem dX6_tray_33 : decode cX6_tray 33 = .ok (.pop, 1) := by decide +kernel
theorem dX6_tray_34 : decode cX6_tray 34 = .ok (.aload_n 0, 1) := by decide +kernel
theorem dX6_tray_35 : decode cX6_tray 35 = .ok (.getfield 37, 3) := by decide +kernel
theorem dX6_tray_38 : decode cX6_tray 38 = .ok (.getfield 204, 3) := by decide +kernel
theorem dX6_tray_41 : decode cX6_tray 41 = .ok (.iload_n 1, 1) := by decide +kernel
theorem dX6_tray_42 : decode cX6_tray 42 = .ok (.bipush 6, 2) := by decide +kernel
theorem dX6_tray_44 : decode cX6_tray 44 = .ok (.imul, 1) := by decide +kernel
theorem dX6_tray_45 : decode cX6_tray 45 = .ok (.iload_n 2, 1) := by decide +kernel
theorem dX6_tray_46 : decode cX6_tray 46 = .ok (.iadd, 1) := by decide +kernel
theorem dX6_tray_47 : decode cX6_tray 47 = .ok (.iaload, 1) := by decide +kernel
theorem dX6_tray_48 : decode cX6_tray 48 = .ok (.ireturn, 1) := by decide +kernel
theorem dX6_set_0 : decode cX6_set 0 = .ok (.iload_n 1, 1) := by decide +kernel
theorem dX6_set_1 : decode cX6_set 1 = .ok (.ifCond .ne 31, 3) := by decide +kernel
theorem dX6_set_4 : decode cX6_set 4 = .ok (.iload_n 2, 1) := by decide +kernel
theorem dX6_set_5 : decode cX6_set 5 = .ok (.iconst 0, 1) := by decide +kernel
theorem dX6_set_6 : decode cX6_set 6 = .ok (.bipush 20, 2) := by decide +kernel
theorem dX6_set_8 : decode cX6_set 8 = .ok (.invokestatic 49, 3) := by decide +kernel
theorem dX6_set_11 : decode cX6_set 11 = .ok (.ifCond .eq 21, 3) := by decide +kernel
theorem dX6_set_14 : decode cX6_set 14 = .ok (.aload_n 0, 1) := by decide +kernel
theorem dX6_set_15 : decode cX6_set 15 = .ok (.getfield 12, 3) := by decide +kernel
theorem dX6_set_18 : decode cX6_set 18 = .ok (.getfield 207, 3) := by decide +kernel
theorem dX6_set_21 : decode cX6_set 21 = .ok (.istore_n 3, 1) := by decide +kernel
theorem dX6_set_22 : decode cX6_set 22 = .ok (.aload_n 0, 1) := by decide +kernel
theorem dX6_set_23 : decode cX6_set 23 = .ok (.getfield 12, 3) := by decide +kernel
theorem dX6_set_26 : decode cX6_set 26 = .ok (.iload_n 2, 1) := by decide +kernel
theorem dX6_set_27 : decode cX6_set 27 = .ok (.putfield 207, 3) := by decide +kernel
theorem dX6_set_30 : decode cX6_set 30 = .ok (.iload_n 3, 1) := by decide +kernel
theorem dX6_set_31 : decode cX6_set 31 = .ok (.ireturn, 1) := by decide +kernel
theorem dX6_set_32 : decode cX6_set 32 = .ok (.iload_n 1, 1) := by decide +kernel
theorem dX6_set_33 : decode cX6_set 33 = .ok (.iconst 1, 1) := by decide +kernel
theorem dX6_set_34 : decode cX6_set 34 = .ok (.if_icmp .ne 36, 3) := by decide +kernel
theorem dX6_set_37 : decode cX6_set 37 = .ok (.iload_n 2, 1) := by decide +kernel
theorem dX6_set_38 : decode cX6_set 38 = .ok (.iconst 1, 1) := by decide +kernel
theorem dX6_set_39 : decode cX6_set 39 = .ok (.bipush 6, 2) := by decide +kernel
theorem dX6_set_41 : decode cX6_set 41 = .ok (.invokestatic 49, 3) := by decide +kernel
theorem dX6_set_44 : decode cX6_set 44 = .ok (.ifCond .eq 26, 3) := by decide +kernel
theorem dX6_set_47 : decode cX6_set 47 = .ok (.aload_n 0, 1) := by decide +kernel
theorem dX6_set_48 : decode cX6_set 48 = .ok (.getfield 12, 3) := by decide +kernel
theorem dX6_set_51 : decode cX6_set 51 = .ok (.getfield 201, 3) := by decide +kernel
theorem dX6_set_54 : decode cX6_set 54 = .ok (.istore_n 3, 1) := by decide +kernel
theorem dX6_set_55 : decode cX6_set 55 = .ok (.aload_n 0, 1) := by decide +kernel
theorem dX6_set_56 : decode cX6_set 56 = .ok (.getfield 12, 3) := by decide +kernel
theorem dX6_set_59 : decode cX6_set 59 = .ok (.iload_n 2, 1) := by decide +kernel
theorem dX6_set_60 : decode cX6_set 60 = .ok (.putfield 201, 3) := by decide +kernel
theorem dX6_set_63 : decode cX6_set 63 = .ok (.aload_n 0, 1) := by decide +kernel
theorem dX6_set_64 : decode cX6_set 64 = .ok (.iconst 1, 1) := by decide +kernel
theorem dX6_set_65 : decode cX6_set 65 = .ok (.putfield 41, 3) := by decide +kernel
theorem dX6_set_68 : decode cX6_set 68 = .ok (.iload_n 3, 1) := by decide +kernel
theorem dX6_set_69 : decode cX6_set 69 = .ok (.ireturn, 1) := by decide +kernel
theorem dX6_set_70 : decode cX6_set 70 = .ok (.bipush (-2), 2) := by decide +kernel
theorem dX6_set_72 : decode cX6_set 72 = .ok (.ireturn, 1) := by decide +kernel
theorem dX6_image_0 : decode cX6_image 0 = .ok (.iload_n 1, 1) := by decide +kernel
theorem dX6_image_1 : decode cX6_image 1 = .ok (.iconst 0, 1) := by decide +kernel
theorem dX6_image_2 : decode cX6_image 2 = .ok (.iconst 1, 1) := by decide +kernel
theorem dX6_image_3 : decode cX6_image 3 = .ok (.invokestatic 49, 3) := by decide +kernel
theorem dX6_image_6 : decode cX6_image 6 = .ok (.ifCond .ne 6, 3) := by decide +kernel
theorem dX6_image_9 : decode cX6_image 9 = .ok (.bipush (-2), 2) := by decide +kernel
theorem dX6_image_11 : decode cX6_image 11 = .ok (.ireturn, 1) := by decide +kernel
theorem dX6_image_12 : decode cX6_image 12 = .ok (.aload_n 0, 1) := by decide +kernel
theorem dX6_image_13 : decode cX6_image 13 = .ok (.getfield 16, 3) := by decide +kernel
theorem dX6_image_16 : decode cX6_image 16 = .ok (.iload_n 1, 1) := by decide +kernel
theorem dX6_image_17 : decode cX6_image 17 = .ok (.aaload, 1) := by decide +kernel
theorem dX6_image_18 : decode cX6_image 18 = .ok (.aload_n 0, 1) := by decide +kernel
theorem dX6_image_19 : decode cX6_image 19 = .ok (.getfield 12, 3) := by decide +kernel
theorem dX6_image_22 : decode cX6_image 22 = .ok (.invokevirtual 210, 3) := by decide +kernel
theorem dX6_image_25 : decode cX6_image 25 = .ok (.aload_n 0, 1) := by decide +kernel
theorem dX6_image_26 : decode cX6_image 26 = .ok (.dup, 1) := by decide +kernel
theorem dX6_image_27 : decode cX6_image 27 = .ok (.getfield 20, 3) := by decide +kernel
theorem dX6_image_30 : decode cX6_image 30 = .ok (.iconst 1, 1) := by decide +kernel
theorem dX6_image_31 : decode cX6_image 31 = .ok (.iload_n 1, 1) := by decide +kernel
theorem dX6_image_32 : decode cX6_image 32 = .ok (.ishl, 1) := by decide +kernel
theorem dX6_image_33 : decode cX6_image 33 = .ok (.ior, 1) := by decide +kernel
theorem dX6_image_34 : decode cX6_image 34 = .ok (.putfield 20, 3) := by decide +kernel
theorem dX6_image_37 : decode cX6_image 37 = .ok (.iconst 1, 1) := by decide +kernel
theorem dX6_image_38 : decode cX6_image 38 = .ok (.ireturn, 1) := by decide +kernel
theorem dX6_restore_0 : decode cX6_restore 0 = .ok (.iload_n 1, 1) := by decide +kernel
theorem dX6_restore_1 : decode cX6_restore 1 = .ok (.iconst 0, 1) := by decide +kernel
theorem dX6_restore_2 : decode cX6_restore 2 = .ok (.iconst 1, 1) := by decide +kernel
theorem dX6_restore_3 : decode cX6_restore 3 = .ok (.invokestatic 49, 3) := by decide +kernel
theorem dX6_restore_6 : decode cX6_restore 6 = .ok (.ifCond .ne 6, 3) := by decide +kernel
theorem dX6_restore_9 : decode cX6_restore 9 = .ok (.bipush (-2), 2) := by decide +kernel
theorem dX6_restore_11 : decode cX6_restore 11 = .ok (.ireturn, 1) := by decide +kernel
theorem dX6_restore_12 : decode cX6_restore 12 = .ok (.aload_n 0, 1) := by decide +kernel
theorem dX6_restore_13 : decode cX6_restore 13 = .ok (.getfield 20, 3) := by decide +kernel
theorem dX6_restore_16 : decode cX6_restore 16 = .ok (.iload_n 1, 1) := by decide +kernel
theorem dX6_restore_17 : decode cX6_restore 17 = .ok (.ishr, 1) := by decide +kernel
theorem dX6_restore_18 : decode cX6_restore 18 = .ok (.iconst 1, 1) := by decide +kernel
theorem dX6_restore_19 : decode cX6_restore 19 = .ok (.iand, 1) := by decide +kernel
theorem dX6_restore_20 : decode cX6_restore 20 = .ok (.ifCond .ne 6, 3) := by decide +kernel
theorem dX6_restore_23 : decode cX6_restore 23 = .ok (.bipush (-3), 2) := by decide +kernel
theorem dX6_restore_25 : decode cX6_restore 25 = .ok (.ireturn, 1) := by decide +kernel
theorem dX6_restore_26 : decode cX6_restore 26 = .ok (.aload_n 0, 1) := by decide +kernel
theorem dX6_restore_27 : decode cX6_restore 27 = .ok (.getfield 12, 3) := by decide +kernel
theorem dX6_restore_30 : decode cX6_restore 30 = .ok (.aload_n 0, 1) := by decide +kernel
theorem dX6_restore_31 : decode cX6_restore 31 = .ok (.getfield 16, 3) := by decide +kernel
theorem dX6_restore_34 : decode cX6_restore 34 = .ok (.iload_n 1, 1) := by decide +kernel
theorem dX6_restore_35 : decode cX6_restore 35 = .ok (.aaload, 1) := by decide +kernel
theorem dX6_restore_36 : decode cX6_restore 36 = .ok (.invokevirtual 210, 3) := by decide +kernel
theorem dX6_restore_39 : decode cX6_restore 39 = .ok (.aload_n 0, 1) := by decide +kernel
theorem dX6_restore_40 : decode cX6_restore 40 = .ok (.iconst 1, 1) := by decide +kernel
theorem dX6_restore_41 : decode cX6_restore 41 = .ok (.putfield 41, 3) := by decide +kernel
theorem dX6_restore_44 : decode cX6_restore 44 = .ok (.iconst 1, 1) := by decide +kernel
theorem dX6_restore_45 : decode cX6_restore 45 = .ok (.ireturn, 1) := by decide +kernel
theorem dX6_count_0 : decode cX6_count 0 = .ok (.iload_n 1, 1) := by decide +kernel
theorem dX6_count_1 : decode cX6_count 1 = .ok (.tableswitch 136 0 12 #[67, 78, 89, 97, 105, 116, 136, 136, 136, 136, 121, 121, 121], 67) := by decide +kernel
theorem dX6_count_68 : decode cX6_count 68 = .ok (.aload_n 0, 1) := by decide +kernel
theorem dX6_count_69 : decode cX6_count 69 = .ok (.getfield 12, 3) := by decide +kernel
theorem dX6_count_72 : decode cX6_count 72 = .ok (.getfield 81, 3) := by decide +kernel
theorem dX6_count_75 : decode cX6_count 75 = .ok (.getfield 94, 3) := by decide +kernel
theorem dX6_count_78 : decode cX6_count 78 = .ok (.ireturn, 1) := by decide +kernel
theorem dX6_count_79 : decode cX6_count 79 = .ok (.aload_n 0, 1) := by decide +kernel
theorem dX6_count_80 : decode cX6_count 80 = .ok (.getfield 12, 3) := by decide +kernel
theorem dX6_count_83 : decode cX6_count 83 = .ok (.getfield 53, 3) := by decide +kernel
theorem dX6_count_86 : decode cX6_count 86 = .ok (.getfield 63, 3) := by decide +kernel
theorem dX6_count_89 : decode cX6_count 89 = .ok (.ireturn, 1) := by decide +kernel
theorem dX6_count_90 : decode cX6_count 90 = .ok (.aload_n 0, 1) := by decide +kernel
theorem dX6_count_91 : decode cX6_count 91 = .ok (.getfield 12, 3) := by decide +kernel
theorem dX6_count_94 : decode cX6_count 94 = .ok (.getfield 207, 3) := by decide +kernel
theorem dX6_count_97 : decode cX6_count 97 = .ok (.ireturn, 1) := by decide +kernel
theorem dX6_count_98 : decode cX6_count 98 = .ok (.aload_n 0, 1) := by decide +kernel
theorem dX6_count_99 : decode cX6_count 99 = .ok (.getfield 12, 3) := by decide +kernel
theorem dX6_count_102 : decode cX6_count 102 = .ok (.getfield 201, 3) := by decide +kernel
theorem dX6_count_105 : decode cX6_count 105 = .ok (.ireturn, 1) := by decide +kernel
theorem dX6_count_106 : decode cX6_count 106 = .ok (.aload_n 0, 1) := by decide +kernel
theorem dX6_count_107 : decode cX6_count 107 = .ok (.getfield 12, 3) := by decide +kernel
theorem dX6_count_110 : decode cX6_count 110 = .ok (.getfield 81, 3) := by decide +kernel
theorem dX6_count_113 : decode cX6_count 113 = .ok (.invokevirtual 214, 3) := by decide +kernel
theorem dX6_count_116 : decode cX6_count 116 = .ok (.ireturn, 1) := by decide +kernel
theorem dX6_count_117 : decode cX6_count 117 = .ok (.aload_n 0, 1) := by decide +kernel
theorem dX6_count_118 : decode cX6_count 118 = .ok (.getfield 20, 3) := by decide +kernel
theorem dX6_count_121 : decode cX6_count 121 = .ok (.ireturn, 1) := by decide +kernel
theorem dX6_count_122 : decode cX6_count 122 = .ok (.aload_n 0, 1) := by decide +kernel
theorem dX6_count_123 : decode cX6_count 123 = .ok (.getfield 12, 3) := by decide +kernel
theorem dX6_count_126 : decode cX6_count 126 = .ok (.getfield 81, 3) := by decide +kernel
theorem dX6_count_129 : decode cX6_count 129 = .ok (.iload_n 1, 1) := by decide +kernel
theorem dX6_count_130 : decode cX6_count 130 = .ok (.bipush 10, 2) := by decide +kernel
theorem dX6_count_132 : decode cX6_count 132 = .ok (.isub, 1) := by decide +kernel
theorem dX6_count_133 : decode cX6_count 133 = .ok (.invokevirtual 217, 3) := by decide +kernel
theorem dX6_count_136 : decode cX6_count 136 = .ok (.ireturn, 1) := by decide +kernel
theorem dX6_count_137 : decode cX6_count 137 = .ok (.bipush (-2), 2) := by decide +kernel
theorem dX6_count_139 : decode cX6_count 139 = .ok (.ireturn, 1) := by decide +kernel
theorem dX6_isWithin_0 : decode cX6_isWithin 0 = .ok (.iload_n 0, 1) := by decide +kernel
theorem dX6_isWithin_1 : decode cX6_isWithin 1 = .ok (.iload_n 1, 1) := by decide +kernel
theorem dX6_isWithin_2 : decode cX6_isWithin 2 = .ok (.if_icmp .lt 12, 3) := by decide +kernel
theorem dX6_isWithin_5 : decode cX6_isWithin 5 = .ok (.iload_n 0, 1) := by decide +kernel
theorem dX6_isWithin_6 : decode cX6_isWithin 6 = .ok (.iload_n 2, 1) := by decide +kernel
theorem dX6_isWithin_7 : decode cX6_isWithin 7 = .ok (.if_icmp .gt 7, 3) := by decide +kernel
theorem dX6_isWithin_10 : decode cX6_isWithin 10 = .ok (.iconst 1, 1) := by decide +kernel
theorem dX6_isWithin_11 : decode cX6_isWithin 11 = .ok (.goto 4, 3) := by decide +kernel
theorem dX6_isWithin_14 : decode cX6_isWithin 14 = .ok (.iconst 0, 1) := by decide +kernel
theorem dX6_isWithin_15 : decode cX6_isWithin 15 = .ok (.ireturn, 1) := by decide +kernel
theorem dX6_isTick_0 : decode cX6_isTick 0 = .ok (.iload_n 0, 1) := by decide +kernel
theorem dX6_isTick_1 : decode cX6_isTick 1 = .ok (.iconst 0, 1) := by decide +kernel
theorem dX6_isTick_2 : decode cX6_isTick 2 = .ok (.sipush 300, 3) := by decide +kernel
theorem dX6_isTick_5 : decode cX6_isTick 5 = .ok (.invokestatic 49, 3) := by decide +kernel
theorem dX6_isTick_8 : decode cX6_isTick 8 = .ok (.ireturn, 1) := by decide +kernel
theorem dX6_isArm_0 : decode cX6_isArm 0 = .ok (.iload_n 0, 1) := by decide +kernel
theorem dX6_isArm_1 : decode cX6_isArm 1 = .ok (.iconst 0, 1) := by decide +kernel
theorem dX6_isArm_2 : decode cX6_isArm 2 = .ok (.iconst 3, 1) := by decide +kernel
theorem dX6_isArm_3 : decode cX6_isArm 3 = .ok (.invokestatic 49, 3) := by decide +kernel
theorem dX6_isArm_6 : decode cX6_isArm 6 = .ok (.ireturn, 1) := by decide +kernel
theorem dX6_isThing_0 : decode cX6_isThing 0 = .ok (.iload_n 1, 1) := by decide +kernel
theorem dX6_isThing_1 : decode cX6_isThing 1 = .ok (.iconst 0, 1) := by decide +kernel
theorem dX6_isThing_2 : decode cX6_isThing 2 = .ok (.aload_n 0, 1) := by decide +kernel
theorem dX6_isThing_3 : decode cX6_isThing 3 = .ok (.getfield 12, 3) := by decide +kernel
theorem dX6_isThing_6 : decode cX6_isThing 6 = .ok (.getfield 81, 3) := by decide +kernel
theorem dX6_isThing_9 : decode cX6_isThing 9 = .ok (.getfield 94, 3) := by decide +kernel
theorem dX6_isThing_12 : decode cX6_isThing 12 = .ok (.iconst 1, 1) := by decide +kernel
theorem dX6_isThing_13 : decode cX6_isThing 13 = .ok (.isub, 1) := by decide +kernel
theorem dX6_isThing_14 : decode cX6_isThing 14 = .ok (.invokestatic 49, 3) := by decide +kernel
theorem dX6_isThing_17 : decode cX6_isThing 17 = .ok (.ireturn, 1) := by decide +kernel
theorem dX6_freshPlan_0 : decode cX6_freshPlan 0 = .ok (.aload_n 0, 1) := by decide +kernel
theorem dX6_freshPlan_1 : decode cX6_freshPlan 1 = .ok (.getfield 41, 3) := by decide +kernel
theorem dX6_freshPlan_4 : decode cX6_freshPlan 4 = .ok (.ifCond .eq 42, 3) := by decide +kernel
theorem dX6_freshPlan_7 : decode cX6_freshPlan 7 = .ok (.aload_n 0, 1) := by decide +kernel
theorem dX6_freshPlan_8 : decode cX6_freshPlan 8 = .ok (.getfield 27, 3) := by decide +kernel
theorem dX6_freshPlan_11 : decode cX6_freshPlan 11 = .ok (.aload_n 0, 1) := by decide +kernel
theorem dX6_freshPlan_12 : decode cX6_freshPlan 12 = .ok (.getfield 12, 3) := by decide +kernel
theorem dX6_freshPlan_15 : decode cX6_freshPlan 15 = .ok (.iconst (-1), 1) := by decide +kernel
theorem dX6_freshPlan_16 : decode cX6_freshPlan 16 = .ok (.invokevirtual 178, 3) := by decide +kernel
theorem dX6_freshPlan_19 : decode cX6_freshPlan 19 = .ok (.aload_n 0, 1) := by decide +kernel
theorem dX6_freshPlan_20 : decode cX6_freshPlan 20 = .ok (.getfield 27, 3) := by decide +kernel
theorem dX6_freshPlan_23 : decode cX6_freshPlan 23 = .ok (.invokevirtual 220, 3) := by decide +kernel
theorem dX6_freshPlan_26 : decode cX6_freshPlan 26 = .ok (.aload_n 0, 1) := by decide +kernel
theorem dX6_freshPlan_27 : decode cX6_freshPlan 27 = .ok (.getfield 37, 3) := by decide +kernel
theorem dX6_freshPlan_30 : decode cX6_freshPlan 30 = .ok (.aload_n 0, 1) := by decide +kernel
theorem dX6_freshPlan_31 : decode cX6_freshPlan 31 = .ok (.getfield 27, 3) := by decide +kernel
theorem dX6_freshPlan_34 : decode cX6_freshPlan 34 = .ok (.aload_n 0, 1) := by decide +kernel
theorem dX6_freshPlan_35 : decode cX6_freshPlan 35 = .ok (.getfield 12, 3) := by decide +kernel
theorem dX6_freshPlan_38 : decode cX6_freshPlan 38 = .ok (.invokevirtual 223, 3) := by decide +kernel
theorem dX6_freshPlan_41 : decode cX6_freshPlan 41 = .ok (.aload_n 0, 1) := by decide +kernel
theorem dX6_freshPlan_42 : decode cX6_freshPlan 42 = .ok (.iconst 0, 1) := by decide +kernel
theorem dX6_freshPlan_43 : decode cX6_freshPlan 43 = .ok (.putfield 41, 3) := by decide +kernel
theorem dX6_freshPlan_46 : decode cX6_freshPlan 46 = .ok (.aload_n 0, 1) := by decide +kernel
theorem dX6_freshPlan_47 : decode cX6_freshPlan 47 = .ok (.getfield 27, 3) := by decide +kernel
theorem dX6_freshPlan_50 : decode cX6_freshPlan 50 = .ok (.areturn, 1) := by decide +kernel
theorem dX7_init_0 : decode cX7_init 0 = .ok (.aload_n 0, 1) := by decide +kernel
theorem dX7_init_1 : decode cX7_init 1 = .ok (.invokespecial 1, 3) := by decide +kernel
theorem dX7_init_4 : decode cX7_init 4 = .ok (.aload_n 0, 1) := by decide +kernel
theorem dX7_init_5 : decode cX7_init 5 = .ok (.sipush 6424, 3) := by decide +kernel
theorem dX7_init_8 : decode cX7_init 8 = .ok (.newarray .int, 2) := by decide +kernel
theorem dX7_init_10 : decode cX7_init 10 = .ok (.putfield 7, 3) := by decide +kernel
theorem dX7_init_13 : decode cX7_init 13 = .ok (.aload_n 0, 1) := by decide +kernel
theorem dX7_init_14 : decode cX7_init 14 = .ok (.sipush 12848, 3) := by decide +kernel
theorem dX7_init_17 : decode cX7_init 17 = .ok (.newarray .int, 2) := by decide +kernel
theorem dX7_init_19 : decode cX7_init 19 = .ok (.putfield 13, 3) := by decide +kernel
theorem dX7_init_22 : decode cX7_init 22 = .ok (.aload_n 0, 1) := by decide +kernel
theorem dX7_init_23 : decode cX7_init 23 = .ok (.iconst 2, 1) := by decide +kernel
theorem dX7_init_24 : decode cX7_init 24 = .ok (.newarray .boolean, 2) := by decide +kernel
theorem dX7_init_26 : decode cX7_init 26 = .ok (.putfield 16, 3) := by decide +kernel
theorem dX7_init_29 : decode cX7_init 29 = .ok (.aload_n 0, 1) := by decide +kernel
theorem dX7_init_30 : decode cX7_init 30 = .ok (.sipush 301, 3) := by decide +kernel
theorem dX7_init_33 : decode cX7_init 33 = .ok (.newarray .int, 2) := by decide +kernel
theorem dX7_init_35 : decode cX7_init 35 = .ok (.putfield 20, 3) := by decide +kernel
theorem dX7_init_38 : decode cX7_init 38 = .ok (.aload_n 0, 1) := by decide +kernel
theorem dX7_init_39 : decode cX7_init 39 = .ok (.sipush 6020, 3) := by decide +kernel
theorem dX7_init_42 : decode cX7_init 42 = .ok (.newarray .int, 2) := by decide +kernel
theorem dX7_init_44 : decode cX7_init 44 = .ok (.putfield 23, 3) := by decide +kernel
theorem dX7_init_47 : decode cX7_init 47 = .ok (.aload_n 0, 1) := by decide +kernel
theorem dX7_init_48 : decode cX7_init 48 = .ok (.sipush 1204, 3) := by decide +kernel
theorem dX7_init_51 : decode cX7_init 51 = .ok (.newarray .int, 2) := by decide +kernel
theorem dX7_init_53 : decode cX7_init 53 = .ok (.putfield 26, 3) := by decide +kernel
theorem dX7_init_56 : decode cX7_init 56 = .ok (.aload_n 0, 1) := by decide +kernel
theorem dX7_init_57 : decode cX7_init 57 = .ok (.sipush 1204, 3) := by decide +kernel
theorem dX7_init_60 : decode cX7_init 60 = .ok (.newarray .boolean, 2) := by decide +kernel
theorem dX7_init_62 : decode cX7_init 62 = .ok (.putfield 29, 3) := by decide +kernel
theorem dX7_init_65 : decode cX7_init 65 = .ok (.aload_n 0, 1) := by decide +kernel
theorem dX7_init_66 : decode cX7_init 66 = .ok (.bipush 20, 2) := by decide +kernel
theorem dX7_init_68 : decode cX7_init 68 = .ok (.newarray .boolean, 2) := by decide +kernel
theorem dX7_init_70 : decode cX7_init 70 = .ok (.putfield 32, 3) := by decide +kernel
theorem dX7_init_73 : decode cX7_init 73 = .ok (.aload_n 0, 1) := by decide +kernel
theorem dX7_init_74 : decode cX7_init 74 = .ok (.bipush 20, 2) := by decide +kernel
theorem dX7_init_76 : decode cX7_init 76 = .ok (.newarray .int, 2) := by decide +kernel
theorem dX7_init_78 : decode cX7_init 78 = .ok (.putfield 35, 3) := by decide +kernel
theorem dX7_init_81 : decode cX7_init 81 = .ok (.aload_n 0, 1) := by decide +kernel
theorem dX7_init_82 : decode cX7_init 82 = .ok (.sipush 1204, 3) := by decide +kernel
theorem dX7_init_85 : decode cX7_init 85 = .ok (.newarray .int, 2) := by decide +kernel
theorem dX7_init_87 : decode cX7_init 87 = .ok (.putfield 38, 3) := by decide +kernel
theorem dX7_init_90 : decode cX7_init 90 = .ok (.aload_n 0, 1) := by decide +kernel
theorem dX7_init_91 : decode cX7_init 91 = .ok (.bipush 20, 2) := by decide +kernel
theorem dX7_init_93 : decode cX7_init 93 = .ok (.newarray .int, 2) := by decide +kernel
theorem dX7_init_95 : decode cX7_init 95 = .ok (.putfield 41, 3) := by decide +kernel
theorem dX7_init_98 : decode cX7_init 98 = .ok (.aload_n 0, 1) := by decide +kernel
theorem dX7_init_99 : decode cX7_init 99 = .ok (.bipush 20, 2) := by decide +kernel
theorem dX7_init_101 : decode cX7_init 101 = .ok (.newarray .int, 2) := by decide +kernel
theorem dX7_init_103 : decode cX7_init 103 = .ok (.putfield 44, 3) := by decide +kernel
theorem dX7_init_106 : decode cX7_init 106 = .ok (.aload_n 0, 1) := by decide +kernel
theorem dX7_init_107 : decode cX7_init 107 = .ok (.bipush 20, 2) := by decide +kernel
theorem dX7_init_109 : decode cX7_init 109 = .ok (.newarray .int, 2) := by decide +kernel
theorem dX7_init_111 : decode cX7_init 111 = .ok (.putfield 47, 3) := by decide +kernel
theorem dX7_init_114 : decode cX7_init 114 = .ok (.aload_n 0, 1) := by decide +kernel
theorem dX7_init_115 : decode cX7_init 115 = .ok (.bipush 18, 2) := by decide +kernel
theorem dX7_init_117 : decode cX7_init 117 = .ok (.newarray .int, 2) := by decide +kernel
theorem dX7_init_119 : decode cX7_init 119 = .ok (.putfield 50, 3) := by decide +kernel
theorem dX7_init_122 : decode cX7_init 122 = .ok (.aload_n 0, 1) := by decide +kernel
theorem dX7_init_123 : decode cX7_init 123 = .ok (.bipush 20, 2) := by decide +kernel
theorem dX7_init_125 : decode cX7_init 125 = .ok (.newarray .int, 2) := by decide +kernel
theorem dX7_init_127 : decode cX7_init 127 = .ok (.putfield 53, 3) := by decide +kernel
theorem dX7_init_130 : decode cX7_init 130 = .ok (.iconst 0, 1) := by decide +kernel
theorem dX7_init_131 : decode cX7_init 131 = .ok (.istore_n 1, 1) := by decide +kernel
theorem dX7_init_132 : decode cX7_init 132 = .ok (.iload_n 1, 1) := by decide +kernel
theorem dX7_init_133 : decode cX7_init 133 = .ok (.sipush 301, 3) := by decide +kernel
theorem dX7_init_136 : decode cX7_init 136 = .ok (.if_icmp .ge 27, 3) := by decide +kernel
theorem dX7_init_139 : decode cX7_init 139 = .ok (.aload_n 0, 1) := by decide +kernel
theorem dX7_init_140 : decode cX7_init 140 = .ok (.getfield 7, 3) := by decide +kernel
theorem dX7_init_143 : decode cX7_init 143 = .ok (.iconst 0, 1) := by decide +kernel
theorem dX7_init_144 : decode cX7_init 144 = .ok (.iload_n 1, 1) := by decide +kernel
theorem dX7_init_145 : decode cX7_init 145 = .ok (.iadd, 1) := by decide +kernel
theorem dX7_init_146 : decode cX7_init 146 = .ok (.iload_n 1, 1) := by decide +kernel
theorem dX7_init_147 : decode cX7_init 147 = .ok (.ifCond .ne 7, 3) := by decide +kernel
theorem dX7_init_150 : decode cX7_init 150 = .ok (.iconst 2, 1) := by decide +kernel
theorem dX7_init_151 : decode cX7_init 151 = .ok (.goto 5, 3) := by decide +kernel
theorem dX7_init_154 : decode cX7_init 154 = .ok (.bipush (-6), 2) := by decide +kernel
theorem dX7_init_156 : decode cX7_init 156 = .ok (.iastore, 1) := by decide +kernel
theorem dX7_init_157 : decode cX7_init 157 = .ok (.iinc 1 1, 3) := by decide +kernel
theorem dX7_init_160 : decode cX7_init 160 = .ok (.goto (-28), 3) := by decide +kernel
theorem dX7_init_163 : decode cX7_init 163 = .ok (.iconst 0, 1) := by decide +kernel
theorem dX7_init_164 : decode cX7_init 164 = .ok (.istore_n 1, 1) := by decide +kernel
theorem dX7_init_165 : decode cX7_init 165 = .ok (.iload_n 1, 1) := by decide +kernel
theorem dX7_init_166 : decode cX7_init 166 = .ok (.iconst 4, 1) := by decide +kernel
theorem dX7_init_167 : decode cX7_init 167 = .ok (.if_icmp .ge 67, 3) := by decide +kernel
theorem dX7_init_170 : decode cX7_init 170 = .ok (.aload_n 0, 1) := by decide +kernel
theorem dX7_init_171 : decode cX7_init 171 = .ok (.getfield 7, 3) := by decide +kernel
theorem dX7_init_174 : decode cX7_init 174 = .ok (.sipush 6401, 3) := by decide +kernel
theorem dX7_init_177 : decode cX7_init 177 = .ok (.iload_n 1, 1) := by decide +kernel
theorem dX7_init_178 : decode cX7_init 178 = .ok (.iadd, 1) := by decide +kernel
theorem dX7_init_179 : decode cX7_init 179 = .ok (.bipush 100, 2) := by decide +kernel
theorem dX7_init_181 : decode cX7_init 181 = .ok (.iload_n 1, 1) := by decide +kernel
theorem dX7_init_182 : decode cX7_init 182 = .ok (.imul, 1) := by decide +kernel
theorem dX7_init_183 : decode cX7_init 183 = .ok (.bipush 100, 2) := by decide +kernel
theorem dX7_init_185 : decode cX7_init 185 = .ok (.iadd, 1) := by decide +kernel
theorem dX7_init_186 : decode cX7_init 186 = .ok (.iastore, 1) := by decide +kernel
theorem dX7_init_187 : decode cX7_init 187 = .ok (.aload_n 0, 1) := by decide +kernel
theorem dX7_init_188 : decode cX7_init 188 = .ok (.getfield 7, 3) := by decide +kernel
theorem dX7_init_191 : decode cX7_init 191 = .ok (.sipush 6405, 3) := by decide +kernel
theorem dX7_init_194 : decode cX7_init 194 = .ok (.iload_n 1, 1) := by decide +kernel
theorem dX7_init_195 : decode cX7_init 195 = .ok (.iadd, 1) := by decide +kernel
theorem dX7_init_196 : decode cX7_init 196 = .ok (.bipush 100, 2) := by decide +kernel
theorem dX7_init_198 : decode cX7_init 198 = .ok (.iload_n 1, 1) := by decide +kernel
theorem dX7_init_199 : decode cX7_init 199 = .ok (.imul, 1) := by decide +kernel
theorem dX7_init_200 : decode cX7_init 200 = .ok (.sipush 160, 3) := by decide +kernel
theorem dX7_init_203 : decode cX7_init 203 = .ok (.iadd, 1) := by decide +kernel
theorem dX7_init_204 : decode cX7_init 204 = .ok (.iastore, 1) := by decide +kernel
theorem dX7_init_205 : decode cX7_init 205 = .ok (.aload_n 0, 1) := by decide +kernel
theorem dX7_init_206 : decode cX7_init 206 = .ok (.getfield 7, 3) := by decide +kernel
theorem dX7_init_209 : decode cX7_init 209 = .ok (.sipush 6409, 3) := by decide +kernel
theorem dX7_init_212 : decode cX7_init 212 = .ok (.iload_n 1, 1) := by decide +kernel
theorem dX7_init_213 : decode cX7_init 213 = .ok (.iadd, 1) := by decide +kernel
theorem dX7_init_214 : decode cX7_init 214 = .ok (.iconst 5, 1) := by decide +kernel
theorem dX7_init_215 : decode cX7_init 215 = .ok (.iastore, 1) := by decide +kernel
theorem dX7_init_216 : decode cX7_init 216 = .ok (.aload_n 0, 1) := by decide +kernel
theorem dX7_init_217 : decode cX7_init 217 = .ok (.getfield 7, 3) := by decide +kernel
theorem dX7_init_220 : decode cX7_init 220 = .ok (.sipush 6417, 3) := by decide +kernel
theorem dX7_init_223 : decode cX7_init 223 = .ok (.iload_n 1, 1) := by decide +kernel
theorem dX7_init_224 : decode cX7_init 224 = .ok (.iadd, 1) := by decide +kernel
theorem dX7_init_225 : decode cX7_init 225 = .ok (.bipush 15, 2) := by decide +kernel
theorem dX7_init_227 : decode cX7_init 227 = .ok (.iastore, 1) := by decide +kernel
theorem dX7_init_228 : decode cX7_init 228 = .ok (.iinc 1 1, 3) := by decide +kernel
theorem dX7_init_231 : decode cX7_init 231 = .ok (.goto (-66), 3) := by decide +kernel
theorem dX7_init_234 : decode cX7_init 234 = .ok (.aload_n 0, 1) := by decide +kernel
theorem dX7_init_235 : decode cX7_init 235 = .ok (.getfield 7, 3) := by decide +kernel
theorem dX7_init_238 : decode cX7_init 238 = .ok (.sipush 6421, 3) := by decide +kernel
theorem dX7_init_241 : decode cX7_init 241 = .ok (.iconst 3, 1) := by decide +kernel
theorem dX7_init_242 : decode cX7_init 242 = .ok (.iastore, 1) := by decide +kernel
theorem dX7_init_243 : decode cX7_init 243 = .ok (.aload_n 0, 1) := by decide +kernel
theorem dX7_init_244 : decode cX7_init 244 = .ok (.getfield 7, 3) := by decide +kernel
theorem dX7_init_247 : decode cX7_init 247 = .ok (.sipush 6422, 3) := by decide +kernel
theorem dX7_init_250 : decode cX7_init 250 = .ok (.iconst 2, 1) := by decide +kernel
theorem dX7_init_251 : decode cX7_init 251 = .ok (.iastore, 1) := by decide +kernel
theorem dX7_init_252 : decode cX7_init 252 = .ok (.return_, 1) := by decide +kernel
theorem dX7_in_0 : decode cX7_in 0 = .ok (.iload_n 0, 1) := by decide +kernel
theorem dX7_in_1 : decode cX7_in 1 = .ok (.iload_n 1, 1) := by decide +kernel
theorem dX7_in_2 : decode cX7_in 2 = .ok (.if_icmp .lt 12, 3) := by decide +kernel
theorem dX7_in_5 : decode cX7_in 5 = .ok (.iload_n 0, 1) := by decide +kernel
theorem dX7_in_6 : decode cX7_in 6 = .ok (.iload_n 2, 1) := by decide +kernel
theorem dX7_in_7 : decode cX7_in 7 = .ok (.if_icmp .gt 7, 3) := by decide +kernel
theorem dX7_in_10 : decode cX7_in 10 = .ok (.iconst 1, 1) := by decide +kernel
theorem dX7_in_11 : decode cX7_in 11 = .ok (.goto 4, 3) := by decide +kernel
theorem dX7_in_14 : decode cX7_in 14 = .ok (.iconst 0, 1) := by decide +kernel
theorem dX7_in_15 : decode cX7_in 15 = .ok (.ireturn, 1) := by decide +kernel
theorem dX7_isTick_0 : decode cX7_isTick 0 = .ok (.iload_n 0, 1) := by decide +kernel
theorem dX7_isTick_1 : decode cX7_isTick 1 = .ok (.iconst 0, 1) := by decide +kernel
theorem dX7_isTick_2 : decode cX7_isTick 2 = .ok (.sipush 300, 3) := by decide +kernel
theorem dX7_isTick_5 : decode cX7_isTick 5 = .ok (.invokestatic 56, 3) := by decide +kernel
theorem dX7_isTick_8 : decode cX7_isTick 8 = .ok (.ireturn, 1) := by decide +kernel
theorem dX7_isThing_0 : decode cX7_isThing 0 = .ok (.iload_n 1, 1) := by decide +kernel
theorem dX7_isThing_1 : decode cX7_isThing 1 = .ok (.iconst 0, 1) := by decide +kernel
theorem dX7_isThing_2 : decode cX7_isThing 2 = .ok (.aload_n 0, 1) := by decide +kernel
theorem dX7_isThing_3 : decode cX7_isThing 3 = .ok (.getfield 7, 3) := by decide +kernel
theorem dX7_isThing_6 : decode cX7_isThing 6 = .ok (.sipush 6423, 3) := by decide +kernel
theorem dX7_isThing_9 : decode cX7_isThing 9 = .ok (.iaload, 1) := by decide +kernel
theorem dX7_isThing_10 : decode cX7_isThing 10 = .ok (.iconst 1, 1) := by decide +kernel
