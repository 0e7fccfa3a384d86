theorem dX2_settle_41 : decode cX2_settle 41 = .ok (.iinc 2 (-1), 3) := by decide +kernel
theorem dX2_settle_44 : decode cX2_settle 44 = .ok (.goto (-37), 3) := by decide +kernel
theorem dX2_settle_47 : decode cX2_settle 47 = .ok (.return_, 1) := by decide +kernel
theorem dX2_take_0 : decode cX2_take 0 = .ok (.aload_n 1, 1) := by decide +kernel
theorem dX2_take_1 : decode cX2_take 1 = .ok (.getfield 9, 3) := by decide +kernel
theorem dX2_take_4 : decode cX2_take 4 = .ok (.iconst 0, 1) := by decide +kernel
theorem dX2_take_5 : decode cX2_take 5 = .ok (.aload_n 0, 1) := by decide +kernel
theorem dX2_take_6 : decode cX2_take 6 = .ok (.getfield 9, 3) := by decide +kernel
theorem dX2_take_9 : decode cX2_take 9 = .ok (.iconst 0, 1) := by decide +kernel
theorem dX2_take_10 : decode cX2_take 10 = .ok (.aload_n 0, 1) := by decide +kernel
theorem dX2_take_11 : decode cX2_take 11 = .ok (.getfield 9, 3) := by decide +kernel
theorem dX2_take_14 : decode cX2_take 14 = .ok (.arraylength, 1) := by decide +kernel
theorem dX2_take_15 : decode cX2_take 15 = .ok (.invokestatic 50, 3) := by decide +kernel
theorem dX2_take_18 : decode cX2_take 18 = .ok (.aload_n 1, 1) := by decide +kernel
theorem dX2_take_19 : decode cX2_take 19 = .ok (.getfield 15, 3) := by decide +kernel
theorem dX2_take_22 : decode cX2_take 22 = .ok (.iconst 0, 1) := by decide +kernel
theorem dX2_take_23 : decode cX2_take 23 = .ok (.aload_n 0, 1) := by decide +kernel
theorem dX2_take_24 : decode cX2_take 24 = .ok (.getfield 15, 3) := by decide +kernel
theorem dX2_take_27 : decode cX2_take 27 = .ok (.iconst 0, 1) := by decide +kernel
theorem dX2_take_28 : decode cX2_take 28 = .ok (.aload_n 0, 1) := by decide +kernel
theorem dX2_take_29 : decode cX2_take 29 = .ok (.getfield 15, 3) := by decide +kernel
theorem dX2_take_32 : decode cX2_take 32 = .ok (.arraylength, 1) := by decide +kernel
theorem dX2_take_33 : decode cX2_take 33 = .ok (.invokestatic 50, 3) := by decide +kernel
theorem dX2_take_36 : decode cX2_take 36 = .ok (.aload_n 1, 1) := by decide +kernel
theorem dX2_take_37 : decode cX2_take 37 = .ok (.getfield 18, 3) := by decide +kernel
theorem dX2_take_40 : decode cX2_take 40 = .ok (.iconst 0, 1) := by decide +kernel
theorem dX2_take_41 : decode cX2_take 41 = .ok (.aload_n 0, 1) := by decide +kernel
theorem dX2_take_42 : decode cX2_take 42 = .ok (.getfield 18, 3) := by decide +kernel
theorem dX2_take_45 : decode cX2_take 45 = .ok (.iconst 0, 1) := by decide +kernel
theorem dX2_take_46 : decode cX2_take 46 = .ok (.aload_n 0, 1) := by decide +kernel
theorem dX2_take_47 : decode cX2_take 47 = .ok (.getfield 18, 3) := by decide +kernel
theorem dX2_take_50 : decode cX2_take 50 = .ok (.arraylength, 1) := by decide +kernel
theorem dX2_take_51 : decode cX2_take 51 = .ok (.invokestatic 50, 3) := by decide +kernel
theorem dX2_take_54 : decode cX2_take 54 = .ok (.aload_n 1, 1) := by decide +kernel
theorem dX2_take_55 : decode cX2_take 55 = .ok (.getfield 21, 3) := by decide +kernel
theorem dX2_take_58 : decode cX2_take 58 = .ok (.iconst 0, 1) := by decide +kernel
theorem dX2_take_59 : decode cX2_take 59 = .ok (.aload_n 0, 1) := by decide +kernel
theorem dX2_take_60 : decode cX2_take 60 = .ok (.getfield 21, 3) := by decide +kernel
theorem dX2_take_63 : decode cX2_take 63 = .ok (.iconst 0, 1) := by decide +kernel
theorem dX2_take_64 : decode cX2_take 64 = .ok (.aload_n 0, 1) := by decide +kernel
theorem dX2_take_65 : decode cX2_take 65 = .ok (.getfield 21, 3) := by decide +kernel
theorem dX2_take_68 : decode cX2_take 68 = .ok (.arraylength, 1) := by decide +kernel
theorem dX2_take_69 : decode cX2_take 69 = .ok (.invokestatic 50, 3) := by decide +kernel
theorem dX2_take_72 : decode cX2_take 72 = .ok (.aload_n 0, 1) := by decide +kernel
theorem dX2_take_73 : decode cX2_take 73 = .ok (.aload_n 1, 1) := by decide +kernel
theorem dX2_take_74 : decode cX2_take 74 = .ok (.getfield 24, 3) := by decide +kernel
theorem dX2_take_77 : decode cX2_take 77 = .ok (.putfield 24, 3) := by decide +kernel
theorem dX2_take_80 : decode cX2_take 80 = .ok (.return_, 1) := by decide +kernel
theorem dX2_tell_0 : decode cX2_tell 0 = .ok (.aload_n 0, 1) := by decide +kernel
theorem dX2_tell_1 : decode cX2_tell 1 = .ok (.getfield 18, 3) := by decide +kernel
theorem dX2_tell_4 : decode cX2_tell 4 = .ok (.iload_n 1, 1) := by decide +kernel
theorem dX2_tell_5 : decode cX2_tell 5 = .ok (.aload_n 0, 1) := by decide +kernel
theorem dX2_tell_6 : decode cX2_tell 6 = .ok (.getfield 24, 3) := by decide +kernel
theorem dX2_tell_9 : decode cX2_tell 9 = .ok (.iastore, 1) := by decide +kernel
theorem dX2_tell_10 : decode cX2_tell 10 = .ok (.aload_n 0, 1) := by decide +kernel
theorem dX2_tell_11 : decode cX2_tell 11 = .ok (.iconst 0, 1) := by decide +kernel
theorem dX2_tell_12 : decode cX2_tell 12 = .ok (.putfield 31, 3) := by decide +kernel
theorem dX2_tell_15 : decode cX2_tell 15 = .ok (.aload_n 0, 1) := by decide +kernel
theorem dX2_tell_16 : decode cX2_tell 16 = .ok (.iconst 0, 1) := by decide +kernel
theorem dX2_tell_17 : decode cX2_tell 17 = .ok (.putfield 34, 3) := by decide +kernel
theorem dX2_tell_20 : decode cX2_tell 20 = .ok (.aload_n 0, 1) := by decide +kernel
theorem dX2_tell_21 : decode cX2_tell 21 = .ok (.iconst 1, 1) := by decide +kernel
theorem dX2_tell_22 : decode cX2_tell 22 = .ok (.putfield 40, 3) := by decide +kernel
theorem dX2_tell_25 : decode cX2_tell 25 = .ok (.iconst 1, 1) := by decide +kernel
theorem dX2_tell_26 : decode cX2_tell 26 = .ok (.istore_n 3, 1) := by decide +kernel
theorem dX2_tell_27 : decode cX2_tell 27 = .ok (.iconst 0, 1) := by decide +kernel
theorem dX2_tell_28 : decode cX2_tell 28 = .ok (.istore 4, 2) := by decide +kernel
theorem dX2_tell_30 : decode cX2_tell 30 = .ok (.iload 4, 2) := by decide +kernel
theorem dX2_tell_32 : decode cX2_tell 32 = .ok (.sipush 800, 3) := by decide +kernel
theorem dX2_tell_35 : decode cX2_tell 35 = .ok (.if_icmp .gt 42, 3) := by decide +kernel
theorem dX2_tell_38 : decode cX2_tell 38 = .ok (.iload_n 3, 1) := by decide +kernel
theorem dX2_tell_39 : decode cX2_tell 39 = .ok (.ifCond .eq 38, 3) := by decide +kernel
theorem dX2_tell_42 : decode cX2_tell 42 = .ok (.aload_n 0, 1) := by decide +kernel
theorem dX2_tell_43 : decode cX2_tell 43 = .ok (.getfield 40, 3) := by decide +kernel
theorem dX2_tell_46 : decode cX2_tell 46 = .ok (.ifCond .eq 11, 3) := by decide +kernel
theorem dX2_tell_49 : decode cX2_tell 49 = .ok (.aload_n 0, 1) := by decide +kernel
theorem dX2_tell_50 : decode cX2_tell 50 = .ok (.aload_n 2, 1) := by decide +kernel
theorem dX2_tell_51 : decode cX2_tell 51 = .ok (.invokevirtual 56, 3) := by decide +kernel
theorem dX2_tell_54 : decode cX2_tell 54 = .ok (.goto 8, 3) := by decide +kernel
theorem dX2_tell_57 : decode cX2_tell 57 = .ok (.aload_n 0, 1) := by decide +kernel
theorem dX2_tell_58 : decode cX2_tell 58 = .ok (.aload_n 2, 1) := by decide +kernel
theorem dX2_tell_59 : decode cX2_tell 59 = .ok (.invokevirtual 60, 3) := by decide +kernel
theorem dX2_tell_62 : decode cX2_tell 62 = .ok (.istore_n 3, 1) := by decide +kernel
theorem dX2_tell_63 : decode cX2_tell 63 = .ok (.iload_n 3, 1) := by decide +kernel
theorem dX2_tell_64 : decode cX2_tell 64 = .ok (.ifCond .eq 7, 3) := by decide +kernel
theorem dX2_tell_67 : decode cX2_tell 67 = .ok (.aload_n 2, 1) := by decide +kernel
theorem dX2_tell_68 : decode cX2_tell 68 = .ok (.invokevirtual 63, 3) := by decide +kernel
theorem dX2_tell_71 : decode cX2_tell 71 = .ok (.iinc 4 1, 3) := by decide +kernel
theorem dX2_tell_74 : decode cX2_tell 74 = .ok (.goto (-44), 3) := by decide +kernel
theorem dX2_tell_77 : decode cX2_tell 77 = .ok (.aload_n 0, 1) := by decide +kernel
theorem dX2_tell_78 : decode cX2_tell 78 = .ok (.iconst 1, 1) := by decide +kernel
theorem dX2_tell_79 : decode cX2_tell 79 = .ok (.invokevirtual 68, 3) := by decide +kernel
theorem dX2_tell_82 : decode cX2_tell 82 = .ok (.aload_n 0, 1) := by decide +kernel
theorem dX2_tell_83 : decode cX2_tell 83 = .ok (.getfield 21, 3) := by decide +kernel
theorem dX2_tell_86 : decode cX2_tell 86 = .ok (.iload_n 1, 1) := by decide +kernel
theorem dX2_tell_87 : decode cX2_tell 87 = .ok (.aload_n 0, 1) := by decide +kernel
theorem dX2_tell_88 : decode cX2_tell 88 = .ok (.getfield 24, 3) := by decide +kernel
theorem dX2_tell_91 : decode cX2_tell 91 = .ok (.iastore, 1) := by decide +kernel
theorem dX2_tell_92 : decode cX2_tell 92 = .ok (.return_, 1) := by decide +kernel
theorem dX2_topLevel_0 : decode cX2_topLevel 0 = .ok (.aload_n 0, 1) := by decide +kernel
theorem dX2_topLevel_1 : decode cX2_topLevel 1 = .ok (.getfield 31, 3) := by decide +kernel
theorem dX2_topLevel_4 : decode cX2_topLevel 4 = .ok (.ifCond .ne 7, 3) := by decide +kernel
theorem dX2_topLevel_7 : decode cX2_topLevel 7 = .ok (.iconst 0, 1) := by decide +kernel
theorem dX2_topLevel_8 : decode cX2_topLevel 8 = .ok (.goto 17, 3) := by decide +kernel
theorem dX2_topLevel_11 : decode cX2_topLevel 11 = .ok (.aload_n 0, 1) := by decide +kernel
theorem dX2_topLevel_12 : decode cX2_topLevel 12 = .ok (.getfield 28, 3) := by decide +kernel
theorem dX2_topLevel_15 : decode cX2_topLevel 15 = .ok (.aload_n 0, 1) := by decide +kernel
theorem dX2_topLevel_16 : decode cX2_topLevel 16 = .ok (.getfield 31, 3) := by decide +kernel
theorem dX2_topLevel_19 : decode cX2_topLevel 19 = .ok (.iconst 1, 1) := by decide +kernel
theorem dX2_topLevel_20 : decode cX2_topLevel 20 = .ok (.isub, 1) := by decide +kernel
theorem dX2_topLevel_21 : decode cX2_topLevel 21 = .ok (.iaload, 1) := by decide +kernel
theorem dX2_topLevel_22 : decode cX2_topLevel 22 = .ok (.invokestatic 96, 3) := by decide +kernel
theorem dX2_topLevel_25 : decode cX2_topLevel 25 = .ok (.ireturn, 1) := by decide +kernel
theorem dX3_init_0 : decode cX3_init 0 = .ok (.aload_n 0, 1) := by decide +kernel
theorem dX3_init_1 : decode cX3_init 1 = .ok (.invokespecial 3, 3) := by decide +kernel
theorem dX3_init_4 : decode cX3_init 4 = .ok (.aload_n 0, 1) := by decide +kernel
theorem dX3_init_5 : decode cX3_init 5 = .ok (.bipush 24, 2) := by decide +kernel
theorem dX3_init_7 : decode cX3_init 7 = .ok (.newarray .int, 2) := by decide +kernel
theorem dX3_init_9 : decode cX3_init 9 = .ok (.putfield 9, 3) := by decide +kernel
theorem dX3_init_12 : decode cX3_init 12 = .ok (.aload_n 0, 1) := by decide +kernel
theorem dX3_init_13 : decode cX3_init 13 = .ok (.iconst 0, 1) := by decide +kernel
theorem dX3_init_14 : decode cX3_init 14 = .ok (.putfield 15, 3) := by decide +kernel
theorem dX3_init_17 : decode cX3_init 17 = .ok (.return_, 1) := by decide +kernel
theorem dX3_add_0 : decode cX3_add 0 = .ok (.aload_n 0, 1) := by decide +kernel
theorem dX3_add_1 : decode cX3_add 1 = .ok (.getfield 15, 3) := by decide +kernel
theorem dX3_add_4 : decode cX3_add 4 = .ok (.bipush 24, 2) := by decide +kernel
theorem dX3_add_6 : decode cX3_add 6 = .ok (.if_icmp .lt 5, 3) := by decide +kernel
theorem dX3_add_9 : decode cX3_add 9 = .ok (.iconst (-1), 1) := by decide +kernel
theorem dX3_add_10 : decode cX3_add 10 = .ok (.ireturn, 1) := by decide +kernel
theorem dX3_add_11 : decode cX3_add 11 = .ok (.aload_n 0, 1) := by decide +kernel
theorem dX3_add_12 : decode cX3_add 12 = .ok (.getfield 9, 3) := by decide +kernel
theorem dX3_add_15 : decode cX3_add 15 = .ok (.aload_n 0, 1) := by decide +kernel
theorem dX3_add_16 : decode cX3_add 16 = .ok (.getfield 15, 3) := by decide +kernel
theorem dX3_add_19 : decode cX3_add 19 = .ok (.iload_n 1, 1) := by decide +kernel
theorem dX3_add_20 : decode cX3_add 20 = .ok (.iastore, 1) := by decide +kernel
theorem dX3_add_21 : decode cX3_add 21 = .ok (.aload_n 0, 1) := by decide +kernel
theorem dX3_add_22 : decode cX3_add 22 = .ok (.dup, 1) := by decide +kernel
theorem dX3_add_23 : decode cX3_add 23 = .ok (.getfield 15, 3) := by decide +kernel
theorem dX3_add_26 : decode cX3_add 26 = .ok (.iconst 1, 1) := by decide +kernel
theorem dX3_add_27 : decode cX3_add 27 = .ok (.iadd, 1) := by decide +kernel
theorem dX3_add_28 : decode cX3_add 28 = .ok (.putfield 15, 3) := by decide +kernel
theorem dX3_add_31 : decode cX3_add 31 = .ok (.aload_n 0, 1) := by decide +kernel
theorem dX3_add_32 : decode cX3_add 32 = .ok (.getfield 15, 3) := by decide +kernel
theorem dX3_add_35 : decode cX3_add 35 = .ok (.iconst 1, 1) := by decide +kernel
theorem dX3_add_36 : decode cX3_add 36 = .ok (.isub, 1) := by decide +kernel
theorem dX3_add_37 : decode cX3_add 37 = .ok (.ireturn, 1) := by decide +kernel
theorem dX3_pitches_0 : decode cX3_pitches 0 = .ok (.iconst 0, 1) := by decide +kernel
theorem dX3_pitches_1 : decode cX3_pitches 1 = .ok (.istore_n 2, 1) := by decide +kernel
theorem dX3_pitches_2 : decode cX3_pitches 2 = .ok (.lconst 0, 1) := by decide +kernel
theorem dX3_pitches_3 : decode cX3_pitches 3 = .ok (.lstore_n 3, 1) := by decide +kernel
theorem dX3_pitches_4 : decode cX3_pitches 4 = .ok (.iload_n 1, 1) := by decide +kernel
theorem dX3_pitches_5 : decode cX3_pitches 5 = .ok (.aload_n 0, 1) := by decide +kernel
theorem dX3_pitches_6 : decode cX3_pitches 6 = .ok (.getfield 15, 3) := by decide +kernel
theorem dX3_pitches_9 : decode cX3_pitches 9 = .ok (.invokestatic 19, 3) := by decide +kernel
theorem dX3_pitches_12 : decode cX3_pitches 12 = .ok (.iconst 1, 1) := by decide +kernel
theorem dX3_pitches_13 : decode cX3_pitches 13 = .ok (.isub, 1) := by decide +kernel
theorem dX3_pitches_14 : decode cX3_pitches 14 = .ok (.istore 5, 2) := by decide +kernel
theorem dX3_pitches_16 : decode cX3_pitches 16 = .ok (.iload 5, 2) := by decide +kernel
theorem dX3_pitches_18 : decode cX3_pitches 18 = .ok (.ifCond .lt 57, 3) := by decide +kernel
theorem dX3_pitches_21 : decode cX3_pitches 21 = .ok (.iload_n 2, 1) := by decide +kernel
theorem dX3_pitches_22 : decode cX3_pitches 22 = .ok (.iload 5, 2) := by decide +kernel
theorem dX3_pitches_24 : decode cX3_pitches 24 = .ok (.ishr, 1) := by decide +kernel
theorem dX3_pitches_25 : decode cX3_pitches 25 = .ok (.iconst 1, 1) := by decide +kernel
theorem dX3_pitches_26 : decode cX3_pitches 26 = .ok (.iand, 1) := by decide +kernel
theorem dX3_pitches_27 : decode cX3_pitches 27 = .ok (.ifCond .ne 42, 3) := by decide +kernel
theorem dX3_pitches_30 : decode cX3_pitches 30 = .ok (.aload_n 0, 1) := by decide +kernel
theorem dX3_pitches_31 : decode cX3_pitches 31 = .ok (.getfield 9, 3) := by decide +kernel
theorem dX3_pitches_34 : decode cX3_pitches 34 = .ok (.iload 5, 2) := by decide +kernel
theorem dX3_pitches_36 : decode cX3_pitches 36 = .ok (.iaload, 1) := by decide +kernel
theorem dX3_pitches_37 : decode cX3_pitches 37 = .ok (.ifCond .le 18, 3) := by decide +kernel
theorem dX3_pitches_40 : decode cX3_pitches 40 = .ok (.lload_n 3, 1) := by decide +kernel
theorem dX3_pitches_41 : decode cX3_pitches 41 = .ok (.lconst 1, 1) := by decide +kernel
theorem dX3_pitches_42 : decode cX3_pitches 42 = .ok (.aload_n 0, 1) := by decide +kernel
theorem dX3_pitches_43 : decode cX3_pitches 43 = .ok (.getfield 9, 3) := by decide +kernel
theorem dX3_pitches_46 : decode cX3_pitches 46 = .ok (.iload 5, 2) := by decide +kernel
theorem dX3_pitches_48 : decode cX3_pitches 48 = .ok (.iaload, 1) := by decide +kernel
theorem dX3_pitches_49 : decode cX3_pitches 49 = .ok (.lshl, 1) := by decide +kernel
theorem dX3_pitches_50 : decode cX3_pitches 50 = .ok (.lor, 1) := by decide +kernel
theorem dX3_pitches_51 : decode cX3_pitches 51 = .ok (.lstore_n 3, 1) := by decide +kernel
theorem dX3_pitches_52 : decode cX3_pitches 52 = .ok (.goto 17, 3) := by decide +kernel
theorem dX3_pitches_55 : decode cX3_pitches 55 = .ok (.iload_n 2, 1) := by decide +kernel
theorem dX3_pitches_56 : decode cX3_pitches 56 = .ok (.iconst 1, 1) := by decide +kernel
theorem dX3_pitches_57 : decode cX3_pitches 57 = .ok (.iconst (-1), 1) := by decide +kernel
theorem dX3_pitches_58 : decode cX3_pitches 58 = .ok (.aload_n 0, 1) := by decide +kernel
theorem dX3_pitches_59 : decode cX3_pitches 59 = .ok (.getfield 9, 3) := by decide +kernel
theorem dX3_pitches_62 : decode cX3_pitches 62 = .ok (.iload 5, 2) := by decide +kernel
theorem dX3_pitches_64 : decode cX3_pitches 64 = .ok (.iaload, 1) := by decide +kernel
theorem dX3_pitches_65 : decode cX3_pitches 65 = .ok (.isub, 1) := by decide +kernel
theorem dX3_pitches_66 : decode cX3_pitches 66 = .ok (.ishl, 1) := by decide +kernel
theorem dX3_pitches_67 : decode cX3_pitches 67 = .ok (.ior, 1) := by decide +kernel
theorem dX3_pitches_68 : decode cX3_pitches 68 = .ok (.istore_n 2, 1) := by decide +kernel
theorem dX3_pitches_69 : decode cX3_pitches 69 = .ok (.iinc 5 (-1), 3) := by decide +kernel
theorem dX3_pitches_72 : decode cX3_pitches 72 = .ok (.goto (-56), 3) := by decide +kernel
theorem dX3_pitches_75 : decode cX3_pitches 75 = .ok (.lload_n 3, 1) := by decide +kernel
theorem dX3_pitches_76 : decode cX3_pitches 76 = .ok (.lreturn, 1) := by decide +kernel
theorem dX4_init_0 : decode cX4_init 0 = .ok (.aload_n 0, 1) := by decide +kernel
theorem dX4_init_1 : decode cX4_init 1 = .ok (.invokespecial 3, 3) := by decide +kernel
theorem dX4_init_4 : decode cX4_init 4 = .ok (.aload_n 0, 1) := by decide +kernel
theorem dX4_init_5 : decode cX4_init 5 = .ok (.new 9, 3) := by decide +kernel
theorem dX4_init_8 : decode cX4_init 8 = .ok (.dup, 1) := by decide +kernel
theorem dX4_init_9 : decode cX4_init 9 = .ok (.iconst 3, 1) := by decide +kernel
theorem dX4_init_10 : decode cX4_init 10 = .ok (.invokespecial 11, 3) := by decide +kernel
theorem dX4_init_13 : decode cX4_init 13 = .ok (.putfield 14, 3) := by decide +kernel
theorem dX4_init_16 : decode cX4_init 16 = .ok (.aload_n 0, 1) := by decide +kernel
theorem dX4_init_17 : decode cX4_init 17 = .ok (.new 9, 3) := by decide +kernel
theorem dX4_init_20 : decode cX4_init 20 = .ok (.dup, 1) := by decide +kernel
theorem dX4_init_21 : decode cX4_init 21 = .ok (.bipush 6, 2) := by decide +kernel
theorem dX4_init_23 : decode cX4_init 23 = .ok (.invokespecial 11, 3) := by decide +kernel
theorem dX4_init_26 : decode cX4_init 26 = .ok (.putfield 20, 3) := by decide +kernel
theorem dX4_init_29 : decode cX4_init 29 = .ok (.aload_n 0, 1) := by decide +kernel
theorem dX4_init_30 : decode cX4_init 30 = .ok (.new 9, 3) := by decide +kernel
theorem dX4_init_33 : decode cX4_init 33 = .ok (.dup, 1) := by decide +kernel
theorem dX4_init_34 : decode cX4_init 34 = .ok (.iconst 4, 1) := by decide +kernel
theorem dX4_init_35 : decode cX4_init 35 = .ok (.invokespecial 11, 3) := by decide +kernel
theorem dX4_init_38 : decode cX4_init 38 = .ok (.putfield 23, 3) := by decide +kernel
theorem dX4_init_41 : decode cX4_init 41 = .ok (.aload_n 0, 1) := by decide +kernel
theorem dX4_init_42 : decode cX4_init 42 = .ok (.new 9, 3) := by decide +kernel
theorem dX4_init_45 : decode cX4_init 45 = .ok (.dup, 1) := by decide +kernel
theorem dX4_init_46 : decode cX4_init 46 = .ok (.iconst 3, 1) := by decide +kernel
theorem dX4_init_47 : decode cX4_init 47 = .ok (.invokespecial 11, 3) := by decide +kernel
theorem dX4_init_50 : decode cX4_init 50 = .ok (.putfield 26, 3) := by decide +kernel
theorem dX4_init_53 : decode cX4_init 53 = .ok (.aload_n 0, 1) := by decide +kernel
theorem dX4_init_54 : decode cX4_init 54 = .ok (.iconst 3, 1) := by decide +kernel
theorem dX4_init_55 : decode cX4_init 55 = .ok (.newarray .int, 2) := by decide +kernel
theorem dX4_init_57 : decode cX4_init 57 = .ok (.putfield 29, 3) := by decide +kernel
theorem dX4_init_60 : decode cX4_init 60 = .ok (.aload_n 0, 1) := by decide +kernel
theorem dX4_init_61 : decode cX4_init 61 = .ok (.iconst 3, 1) := by decide +kernel
theorem dX4_init_62 : decode cX4_init 62 = .ok (.newarray .int, 2) := by decide +kernel
theorem dX4_init_64 : decode cX4_init 64 = .ok (.putfield 33, 3) := by decide +kernel
theorem dX4_init_67 : decode cX4_init 67 = .ok (.aload_n 0, 1) := by decide +kernel
theorem dX4_init_68 : decode cX4_init 68 = .ok (.bipush 6, 2) := by decide +kernel
theorem dX4_init_70 : decode cX4_init 70 = .ok (.newarray .int, 2) := by decide +kernel
theorem dX4_init_72 : decode cX4_init 72 = .ok (.putfield 36, 3) := by decide +kernel
theorem dX4_init_75 : decode cX4_init 75 = .ok (.aload_n 0, 1) := by decide +kernel
theorem dX4_init_76 : decode cX4_init 76 = .ok (.bipush 6, 2) := by decide +kernel
theorem dX4_init_78 : decode cX4_init 78 = .ok (.newarray .int, 2) := by decide +kernel
theorem dX4_init_80 : decode cX4_init 80 = .ok (.putfield 39, 3) := by decide +kernel
theorem dX4_init_83 : decode cX4_init 83 = .ok (.aload_n 0, 1) := by decide +kernel
theorem dX4_init_84 : decode cX4_init 84 = .ok (.bipush 6, 2) := by decide +kernel
theorem dX4_init_86 : decode cX4_init 86 = .ok (.newarray .int, 2) := by decide +kernel
theorem dX4_init_88 : decode cX4_init 88 = .ok (.putfield 42, 3) := by decide +kernel
theorem dX4_init_91 : decode cX4_init 91 = .ok (.aload_n 0, 1) := by decide +kernel
theorem dX4_init_92 : decode cX4_init 92 = .ok (.bipush 6, 2) := by decide +kernel
theorem dX4_init_94 : decode cX4_init 94 = .ok (.newarray .int, 2) := by decide +kernel
theorem dX4_init_96 : decode cX4_init 96 = .ok (.putfield 45, 3) := by decide +kernel
theorem dX4_init_99 : decode cX4_init 99 = .ok (.aload_n 0, 1) := by decide +kernel
theorem dX4_init_100 : decode cX4_init 100 = .ok (.bipush 6, 2) := by decide +kernel
theorem dX4_init_102 : decode cX4_init 102 = .ok (.newarray .int, 2) := by decide +kernel
theorem dX4_init_104 : decode cX4_init 104 = .ok (.putfield 48, 3) := by decide +kernel
theorem dX4_init_107 : decode cX4_init 107 = .ok (.aload_n 0, 1) := by decide +kernel
theorem dX4_init_108 : decode cX4_init 108 = .ok (.iconst 4, 1) := by decide +kernel
theorem dX4_init_109 : decode cX4_init 109 = .ok (.newarray .int, 2) := by decide +kernel
theorem dX4_init_111 : decode cX4_init 111 = .ok (.putfield 51, 3) := by decide +kernel
theorem dX4_init_114 : decode cX4_init 114 = .ok (.aload_n 0, 1) := by decide +kernel
theorem dX4_init_115 : decode cX4_init 115 = .ok (.bipush 12, 2) := by decide +kernel
theorem dX4_init_117 : decode cX4_init 117 = .ok (.newarray .int, 2) := by decide +kernel
theorem dX4_init_119 : decode cX4_init 119 = .ok (.putfield 54, 3) := by decide +kernel
theorem dX4_init_122 : decode cX4_init 122 = .ok (.aload_n 0, 1) := by decide +kernel
theorem dX4_init_123 : decode cX4_init 123 = .ok (.bipush 96, 2) := by decide +kernel
theorem dX4_init_125 : decode cX4_init 125 = .ok (.newarray .int, 2) := by decide +kernel
theorem dX4_init_127 : decode cX4_init 127 = .ok (.putfield 57, 3) := by decide +kernel
theorem dX4_init_130 : decode cX4_init 130 = .ok (.aload_n 0, 1) := by decide +kernel
theorem dX4_init_131 : decode cX4_init 131 = .ok (.iconst 3, 1) := by decide +kernel
theorem dX4_init_132 : decode cX4_init 132 = .ok (.newarray .int, 2) := by decide +kernel
theorem dX4_init_134 : decode cX4_init 134 = .ok (.putfield 60, 3) := by decide +kernel
theorem dX4_init_137 : decode cX4_init 137 = .ok (.aload_n 0, 1) := by decide +kernel
theorem dX4_init_138 : decode cX4_init 138 = .ok (.new 63, 3) := by decide +kernel
theorem dX4_init_141 : decode cX4_init 141 = .ok (.dup, 1) := by decide +kernel
theorem dX4_init_142 : decode cX4_init 142 = .ok (.invokespecial 65, 3) := by decide +kernel
theorem dX4_init_145 : decode cX4_init 145 = .ok (.putfield 66, 3) := by decide +kernel
theorem dX4_init_148 : decode cX4_init 148 = .ok (.aload_n 0, 1) := by decide +kernel
theorem dX4_init_149 : decode cX4_init 149 = .ok (.iconst 0, 1) := by decide +kernel
theorem dX4_init_150 : decode cX4_init 150 = .ok (.putfield 70, 3) := by decide +kernel
theorem dX4_init_153 : decode cX4_init 153 = .ok (.aload_n 0, 1) := by decide +kernel
theorem dX4_init_154 : decode cX4_init 154 = .ok (.iconst 0, 1) := by decide +kernel
theorem dX4_init_155 : decode cX4_init 155 = .ok (.putfield 74, 3) := by decide +kernel
theorem dX4_init_158 : decode cX4_init 158 = .ok (.aload_n 0, 1) := by decide +kernel
theorem dX4_init_159 : decode cX4_init 159 = .ok (.iconst 0, 1) := by decide +kernel
theorem dX4_init_160 : decode cX4_init 160 = .ok (.putfield 77, 3) := by decide +kernel
theorem dX4_init_163 : decode cX4_init 163 = .ok (.return_, 1) := by decide +kernel
theorem dX4_clear_0 : decode cX4_clear 0 = .ok (.aload_n 0, 1) := by decide +kernel
theorem dX4_clear_1 : decode cX4_clear 1 = .ok (.getfield 14, 3) := by decide +kernel
theorem dX4_clear_4 : decode cX4_clear 4 = .ok (.iconst 0, 1) := by decide +kernel
theorem dX4_clear_5 : decode cX4_clear 5 = .ok (.putfield 80, 3) := by decide +kernel
theorem dX4_clear_8 : decode cX4_clear 8 = .ok (.aload_n 0, 1) := by decide +kernel
theorem dX4_clear_9 : decode cX4_clear 9 = .ok (.getfield 20, 3) := by decide +kernel
theorem dX4_clear_12 : decode cX4_clear 12 = .ok (.iconst 0, 1) := by decide +kernel
theorem dX4_clear_13 : decode cX4_clear 13 = .ok (.putfield 80, 3) := by decide +kernel
theorem dX4_clear_16 : decode cX4_clear 16 = .ok (.aload_n 0, 1) := by decide +kernel
theorem dX4_clear_17 : decode cX4_clear 17 = .ok (.getfield 23, 3) := by decide +kernel
theorem dX4_clear_20 : decode cX4_clear 20 = .ok (.iconst 0, 1) := by decide +kernel
theorem dX4_clear_21 : decode cX4_clear 21 = .ok (.putfield 80, 3) := by decide +kernel
theorem dX4_clear_24 : decode cX4_clear 24 = .ok (.aload_n 0, 1) := by decide +kernel
theorem dX4_clear_25 : decode cX4_clear 25 = .ok (.getfield 26, 3) := by decide +kernel
theorem dX4_clear_28 : decode cX4_clear 28 = .ok (.iconst 0, 1) := by decide +kernel
theorem dX4_clear_29 : decode cX4_clear 29 = .ok (.putfield 80, 3) := by decide +kernel
theorem dX4_clear_32 : decode cX4_clear 32 = .ok (.aload_n 0, 1) := by decide +kernel
theorem dX4_clear_33 : decode cX4_clear 33 = .ok (.getfield 66, 3) := by decide +kernel
theorem dX4_clear_36 : decode cX4_clear 36 = .ok (.invokevirtual 83, 3) := by decide +kernel
theorem dX4_clear_39 : decode cX4_clear 39 = .ok (.aload_n 0, 1) := by decide +kernel
theorem dX4_clear_40 : decode cX4_clear 40 = .ok (.iconst 0, 1) := by decide +kernel
theorem dX4_clear_41 : decode cX4_clear 41 = .ok (.putfield 70, 3) := by decide +kernel
theorem dX4_clear_44 : decode cX4_clear 44 = .ok (.aload_n 0, 1) := by decide +kernel
theorem dX4_clear_45 : decode cX4_clear 45 = .ok (.iconst 0, 1) := by decide +kernel
theorem dX4_clear_46 : decode cX4_clear 46 = .ok (.putfield 74, 3) := by decide +kernel
theorem dX4_clear_49 : decode cX4_clear 49 = .ok (.aload_n 0, 1) := by decide +kernel
theorem dX4_clear_50 : decode cX4_clear 50 = .ok (.iconst 0, 1) := by decide +kernel
theorem dX4_clear_51 : decode cX4_clear 51 = .ok (.putfield 77, 3) := by decide +kernel
theorem dX4_clear_54 : decode cX4_clear 54 = .ok (.return_, 1) := by decide +kernel
theorem dX4_hasPart_0 : decode cX4_hasPart 0 = .ok (.aload_n 0, 1) := by decide +kernel
theorem dX4_hasPart_1 : decode cX4_hasPart 1 = .ok (.getfield 23, 3) := by decide +kernel
theorem dX4_hasPart_4 : decode cX4_hasPart 4 = .ok (.iload_n 1, 1) := by decide +kernel
theorem dX4_hasPart_5 : decode cX4_hasPart 5 = .ok (.invokevirtual 99, 3) := by decide +kernel
theorem dX4_hasPart_8 : decode cX4_hasPart 8 = .ok (.ifCond .eq 21, 3) := by decide +kernel
theorem dX4_hasPart_11 : decode cX4_hasPart 11 = .ok (.iload_n 2, 1) := by decide +kernel
theorem dX4_hasPart_12 : decode cX4_hasPart 12 = .ok (.ifCond .lt 17, 3) := by decide +kernel
theorem dX4_hasPart_15 : decode cX4_hasPart 15 = .ok (.iload_n 2, 1) := by decide +kernel
theorem dX4_hasPart_16 : decode cX4_hasPart 16 = .ok (.aload_n 0, 1) := by decide +kernel
theorem dX4_hasPart_17 : decode cX4_hasPart 17 = .ok (.getfield 51, 3) := by decide +kernel
theorem dX4_hasPart_20 : decode cX4_hasPart 20 = .ok (.iload_n 1, 1) := by decide +kernel
theorem dX4_hasPart_21 : decode cX4_hasPart 21 = .ok (.iaload, 1) := by decide +kernel
theorem dX4_hasPart_22 : decode cX4_hasPart 22 = .ok (.if_icmp .ge 7, 3) := by decide +kernel
theorem dX4_hasPart_25 : decode cX4_hasPart 25 = .ok (.iconst 1, 1) := by decide +kernel
theorem dX4_hasPart_26 : decode cX4_hasPart 26 = .ok (.goto 4, 3) := by decide +kernel
theorem dX4_hasPart_29 : decode cX4_hasPart 29 = .ok (.iconst 0, 1) := by decide +kernel
theorem dX4_hasPart_30 : decode cX4_hasPart 30 = .ok (.ireturn, 1) := by decide +kernel
theorem dX4_hasVerses_0 : decode cX4_hasVerses 0 = .ok (.iload_n 1, 1) := by decide +kernel
theorem dX4_hasVerses_1 : decode cX4_hasVerses 1 = .ok (.ifCond .lt 20, 3) := by decide +kernel
theorem dX4_hasVerses_4 : decode cX4_hasVerses 4 = .ok (.iload_n 1, 1) := by decide +kernel
theorem dX4_hasVerses_5 : decode cX4_hasVerses 5 = .ok (.iconst 1, 1) := by decide +kernel
theorem dX4_hasVerses_6 : decode cX4_hasVerses 6 = .ok (.aload_n 0, 1) := by decide +kernel
theorem dX4_hasVerses_7 : decode cX4_hasVerses 7 = .ok (.getfield 23, 3) := by decide +kernel
theorem dX4_hasVerses_10 : decode cX4_hasVerses 10 = .ok (.getfield 80, 3) := by decide +kernel
theorem dX4_hasVerses_13 : decode cX4_hasVerses 13 = .ok (.ishl, 1) := by decide +kernel
theorem dX4_hasVerses_14 : decode cX4_hasVerses 14 = .ok (.if_icmp .ge 7, 3) := by decide +kernel
theorem dX4_hasVerses_17 : decode cX4_hasVerses 17 = .ok (.iconst 1, 1) := by decide +kernel
theorem dX4_hasVerses_18 : decode cX4_hasVerses 18 = .ok (.goto 4, 3) := by decide +kernel
theorem dX4_hasVerses_21 : decode cX4_hasVerses 21 = .ok (.iconst 0, 1) := by decide +kernel
theorem dX4_hasVerses_22 : decode cX4_hasVerses 22 = .ok (.ireturn, 1) := by decide +kernel
theorem dX4_highestIn_0 : decode cX4_highestIn 0 = .ok (.iconst 0, 1) := by decide +kernel
theorem dX4_highestIn_1 : decode cX4_highestIn 1 = .ok (.istore_n 2, 1) := by decide +kernel
theorem dX4_highestIn_2 : decode cX4_highestIn 2 = .ok (.iconst 0, 1) := by decide +kernel
theorem dX4_highestIn_3 : decode cX4_highestIn 3 = .ok (.istore_n 3, 1) := by decide +kernel
theorem dX4_highestIn_4 : decode cX4_highestIn 4 = .ok (.iload_n 3, 1) := by decide +kernel
theorem dX4_highestIn_5 : decode cX4_highestIn 5 = .ok (.aload_n 0, 1) := by decide +kernel
theorem dX4_highestIn_6 : decode cX4_highestIn 6 = .ok (.getfield 54, 3) := by decide +kernel
theorem dX4_highestIn_9 : decode cX4_highestIn 9 = .ok (.iload_n 1, 1) := by decide +kernel
theorem dX4_highestIn_10 : decode cX4_highestIn 10 = .ok (.iaload, 1) := by decide +kernel
theorem dX4_highestIn_11 : decode cX4_highestIn 11 = .ok (.if_icmp .ge 20, 3) := by decide +kernel
theorem dX4_highestIn_14 : decode cX4_highestIn 14 = .ok (.iload_n 2, 1) := by decide +kernel
theorem dX4_highestIn_15 : decode cX4_highestIn 15 = .ok (.aload_n 0, 1) := by decide +kernel
theorem dX4_highestIn_16 : decode cX4_highestIn 16 = .ok (.iload_n 1, 1) := by decide +kernel
theorem dX4_highestIn_17 : decode cX4_highestIn 17 = .ok (.iload_n 3, 1) := by decide +kernel
theorem dX4_highestIn_18 : decode cX4_highestIn 18 = .ok (.invokevirtual 103, 3) := by decide +kernel
theorem dX4_highestIn_21 : decode cX4_highestIn 21 = .ok (.invokestatic 107, 3) := by decide +kernel
theorem dX4_highestIn_24 : decode cX4_highestIn 24 = .ok (.istore_n 2, 1) := by decide +kernel
theorem dX4_highestIn_25 : decode cX4_highestIn 25 = .ok (.iinc 3 1, 3) := by decide +kernel
theorem dX4_highestIn_28 : decode cX4_highestIn 28 = .ok (.goto (-24), 3) := by decide +kernel
theorem dX4_highestIn_31 : decode cX4_highestIn 31 = .ok (.iload_n 2, 1) := by decide +kernel
theorem dX4_highestIn_32 : decode cX4_highestIn 32 = .ok (.ireturn, 1) := by decide +kernel
theorem dX4_isBoy_0 : decode cX4_isBoy 0 = .ok (.aload_n 0, 1) := by decide +kernel
theorem dX4_isBoy_1 : decode cX4_isBoy 1 = .ok (.getfield 70, 3) := by decide +kernel
theorem dX4_isBoy_4 : decode cX4_isBoy 4 = .ok (.iload_n 1, 1) := by decide +kernel
theorem dX4_isBoy_5 : decode cX4_isBoy 5 = .ok (.ishr, 1) := by decide +kernel
theorem dX4_isBoy_6 : decode cX4_isBoy 6 = .ok (.iconst 1, 1) := by decide +kernel
theorem dX4_isBoy_7 : decode cX4_isBoy 7 = .ok (.iand, 1) := by decide +kernel
theorem dX4_isBoy_8 : decode cX4_isBoy 8 = .ok (.ifCond .eq 7, 3) := by decide +kernel
theorem dX4_isBoy_11 : decode cX4_isBoy 11 = .ok (.iconst 1, 1) := by decide +kernel
theorem dX4_isBoy_12 : decode cX4_isBoy 12 = .ok (.goto 4, 3) := by decide +kernel
theorem dX4_isBoy_15 : decode cX4_isBoy 15 = .ok (.iconst 0, 1) := by decide +kernel
theorem dX4_isBoy_16 : decode cX4_isBoy 16 = .ok (.ireturn, 1) := by decide +kernel
theorem dX4_pitchAt_0 : decode cX4_pitchAt 0 = .ok (.aload_n 0, 1) := by decide +kernel
theorem dX4_pitchAt_1 : decode cX4_pitchAt 1 = .ok (.getfield 57, 3) := by decide +kernel
theorem dX4_pitchAt_4 : decode cX4_pitchAt 4 = .ok (.iload_n 1, 1) := by decide +kernel
theorem dX4_pitchAt_5 : decode cX4_pitchAt 5 = .ok (.bipush 8, 2) := by decide +kernel
theorem dX4_pitchAt_7 : decode cX4_pitchAt 7 = .ok (.imul, 1) := by decide +kernel
theorem dX4_pitchAt_8 : decode cX4_pitchAt 8 = .ok (.iload_n 2, 1) := by decide +kernel
theorem dX4_pitchAt_9 : decode cX4_pitchAt 9 = .ok (.iadd, 1) := by decide +kernel
theorem dX4_pitchAt_10 : decode cX4_pitchAt 10 = .ok (.iaload, 1) := by decide +kernel
theorem dX4_pitchAt_11 : decode cX4_pitchAt 11 = .ok (.ireturn, 1) := by decide +kernel
theorem dX4_reach_0 : decode cX4_reach 0 = .ok (.ldc2_w 112, 3) := by decide +kernel
theorem dX4_reach_3 : decode cX4_reach 3 = .ok (.aload_n 0, 1) := by decide +kernel
theorem dX4_reach_4 : decode cX4_reach 4 = .ok (.getfield 39, 3) := by decide +kernel
theorem dX4_reach_7 : decode cX4_reach 7 = .ok (.iload_n 1, 1) := by decide +kernel
theorem dX4_reach_8 : decode cX4_reach 8 = .ok (.iaload, 1) := by decide +kernel
theorem dX4_reach_9 : decode cX4_reach 9 = .ok (.lshl, 1) := by decide +kernel
theorem dX4_reach_10 : decode cX4_reach 10 = .ok (.lconst 1, 1) := by decide +kernel
theorem dX4_reach_11 : decode cX4_reach 11 = .ok (.aload_n 0, 1) := by decide +kernel
theorem dX4_reach_12 : decode cX4_reach 12 = .ok (.getfield 36, 3) := by decide +kernel
theorem dX4_reach_15 : decode cX4_reach 15 = .ok (.iload_n 1, 1) := by decide +kernel
theorem dX4_reach_16 : decode cX4_reach 16 = .ok (.iaload, 1) := by decide +kernel
theorem dX4_reach_17 : decode cX4_reach 17 = .ok (.lshl, 1) := by decide +kernel
theorem dX4_reach_18 : decode cX4_reach 18 = .ok (.lsub, 1) := by decide +kernel
theorem dX4_reach_19 : decode cX4_reach 19 = .ok (.lreturn, 1) := by decide +kernel
theorem dX4_reachedBars_0 : decode cX4_reachedBars 0 = .ok (.iconst 0, 1) := by decide +kernel
theorem dX4_reachedBars_1 : decode cX4_reachedBars 1 = .ok (.istore_n 3, 1) := by decide +kernel
theorem dX4_reachedBars_2 : decode cX4_reachedBars 2 = .ok (.iconst 0, 1) := by decide +kernel
theorem dX4_reachedBars_3 : decode cX4_reachedBars 3 = .ok (.istore 4, 2) := by decide +kernel
theorem dX4_reachedBars_5 : decode cX4_reachedBars 5 = .ok (.iload 4, 2) := by decide +kernel
theorem dX4_reachedBars_7 : decode cX4_reachedBars 7 = .ok (.aload_n 0, 1) := by decide +kernel
theorem dX4_reachedBars_8 : decode cX4_reachedBars 8 = .ok (.getfield 54, 3) := by decide +kernel
theorem dX4_reachedBars_11 : decode cX4_reachedBars 11 = .ok (.iload_n 1, 1) := by decide +kernel
theorem dX4_reachedBars_12 : decode cX4_reachedBars 12 = .ok (.iaload, 1) := by decide +kernel
theorem dX4_reachedBars_13 : decode cX4_reachedBars 13 = .ok (.if_icmp .ge 47, 3) := by decide +kernel
theorem dX4_reachedBars_16 : decode cX4_reachedBars 16 = .ok (.aload_n 0, 1) := by decide +kernel
theorem dX4_reachedBars_17 : decode cX4_reachedBars 17 = .ok (.iload_n 1, 1) := by decide +kernel
theorem dX4_reachedBars_18 : decode cX4_reachedBars 18 = .ok (.iload 4, 2) := by decide +kernel
theorem dX4_reachedBars_20 : decode cX4_reachedBars 20 = .ok (.invokevirtual 103, 3) := by decide +kernel
theorem dX4_reachedBars_23 : decode cX4_reachedBars 23 = .ok (.istore 5, 2) := by decide +kernel
theorem dX4_reachedBars_25 : decode cX4_reachedBars 25 = .ok (.iload 5, 2) := by decide +kernel
theorem dX4_reachedBars_27 : decode cX4_reachedBars 27 = .ok (.aload_n 0, 1) := by decide +kernel
theorem dX4_reachedBars_28 : decode cX4_reachedBars 28 = .ok (.getfield 36, 3) := by decide +kernel
theorem dX4_reachedBars_31 : decode cX4_reachedBars 31 = .ok (.iload_n 2, 1) := by decide +kernel
theorem dX4_reachedBars_32 : decode cX4_reachedBars 32 = .ok (.iaload, 1) := by decide +kernel
theorem dX4_reachedBars_33 : decode cX4_reachedBars 33 = .ok (.if_icmp .lt 21, 3) := by decide +kernel
theorem dX4_reachedBars_36 : decode cX4_reachedBars 36 = .ok (.iload 5, 2) := by decide +kernel
theorem dX4_reachedBars_38 : decode cX4_reachedBars 38 = .ok (.aload_n 0, 1) := by decide +kernel
theorem dX4_reachedBars_39 : decode cX4_reachedBars 39 = .ok (.getfield 39, 3) := by decide +kernel
theorem dX4_reachedBars_42 : decode cX4_reachedBars 42 = .ok (.iload_n 2, 1) := by decide +kernel
theorem dX4_reachedBars_43 : decode cX4_reachedBars 43 = .ok (.iaload, 1) := by decide +kernel
theorem dX4_reachedBars_44 : decode cX4_reachedBars 44 = .ok (.if_icmp .gt 10, 3) := by decide +kernel
theorem dX4_reachedBars_47 : decode cX4_reachedBars 47 = .ok (.iload_n 3, 1) := by decide +kernel
theorem dX4_reachedBars_48 : decode cX4_reachedBars 48 = .ok (.iconst 1, 1) := by decide +kernel
theorem dX4_reachedBars_49 : decode cX4_reachedBars 49 = .ok (.iload 4, 2) := by decide +kernel
theorem dX4_reachedBars_51 : decode cX4_reachedBars 51 = .ok (.ishl, 1) := by decide +kernel
theorem dX4_reachedBars_52 : decode cX4_reachedBars 52 = .ok (.ior, 1) := by decide +kernel
theorem dX4_reachedBars_53 : decode cX4_reachedBars 53 = .ok (.istore_n 3, 1) := by decide +kernel
theorem dX4_reachedBars_54 : decode cX4_reachedBars 54 = .ok (.iinc 4 1, 3) := by decide +kernel
theorem dX4_reachedBars_57 : decode cX4_reachedBars 57 = .ok (.goto (-52), 3) := by decide +kernel
theorem dX4_reachedBars_60 : decode cX4_reachedBars 60 = .ok (.iload_n 3, 1) := by decide +kernel
theorem dX4_reachedBars_61 : decode cX4_reachedBars 61 = .ok (.ireturn, 1) := by decide +kernel
theorem dX4_restsIn_0 : decode cX4_restsIn 0 = .ok (.iconst 0, 1) := by decide +kernel
theorem dX4_restsIn_1 : decode cX4_restsIn 1 = .ok (.istore_n 2, 1) := by decide +kernel
theorem dX4_restsIn_2 : decode cX4_restsIn 2 = .ok (.iconst 0, 1) := by decide +kernel
theorem dX4_restsIn_3 : decode cX4_restsIn 3 = .ok (.istore_n 3, 1) := by decide +kernel
theorem dX4_restsIn_4 : decode cX4_restsIn 4 = .ok (.iload_n 3, 1) := by decide +kernel
theorem dX4_restsIn_5 : decode cX4_restsIn 5 = .ok (.aload_n 0, 1) := by decide +kernel
theorem dX4_restsIn_6 : decode cX4_restsIn 6 = .ok (.getfield 54, 3) := by decide +kernel
theorem dX4_restsIn_9 : decode cX4_restsIn 9 = .ok (.iload_n 1, 1) := by decide +kernel
theorem dX4_restsIn_10 : decode cX4_restsIn 10 = .ok (.iaload, 1) := by decide +kernel
theorem dX4_restsIn_11 : decode cX4_restsIn 11 = .ok (.if_icmp .ge 21, 3) := by decide +kernel
theorem dX4_restsIn_14 : decode cX4_restsIn 14 = .ok (.aload_n 0, 1) := by decide +kernel
theorem dX4_restsIn_15 : decode cX4_restsIn 15 = .ok (.iload_n 1, 1) := by decide +kernel
theorem dX4_restsIn_16 : decode cX4_restsIn 16 = .ok (.iload_n 3, 1) := by decide +kernel
theorem dX4_restsIn_17 : decode cX4_restsIn 17 = .ok (.invokevirtual 103, 3) := by decide +kernel
theorem dX4_restsIn_20 : decode cX4_restsIn 20 = .ok (.ifCond .ne 6, 3) := by decide +kernel
theorem dX4_restsIn_23 : decode cX4_restsIn 23 = .ok (.iinc 2 1, 3) := by decide +kernel
theorem dX4_restsIn_26 : decode cX4_restsIn 26 = .ok (.iinc 3 1, 3) := by decide +kernel
theorem dX4_restsIn_29 : decode cX4_restsIn 29 = .ok (.goto (-25), 3) := by decide +kernel
theorem dX4_restsIn_32 : decode cX4_restsIn 32 = .ok (.iload_n 2, 1) := by decide +kernel
theorem dX4_restsIn_33 : decode cX4_restsIn 33 = .ok (.ireturn, 1) := by decide +kernel
theorem dX4_take_0 : decode cX4_take 0 = .ok (.aload_n 0, 1) := by decide +kernel
theorem dX4_take_1 : decode cX4_take 1 = .ok (.getfield 14, 3) := by decide +kernel
theorem dX4_take_4 : decode cX4_take 4 = .ok (.aload_n 1, 1) := by decide +kernel
theorem dX4_take_5 : decode cX4_take 5 = .ok (.getfield 14, 3) := by decide +kernel
theorem dX4_take_8 : decode cX4_take 8 = .ok (.invokevirtual 86, 3) := by decide +kernel
theorem dX4_take_11 : decode cX4_take 11 = .ok (.aload_n 0, 1) := by decide +kernel
theorem dX4_take_12 : decode cX4_take 12 = .ok (.getfield 20, 3) := by decide +kernel
theorem dX4_take_15 : decode cX4_take 15 = .ok (.aload_n 1, 1) := by decide +kernel
theorem dX4_take_16 : decode cX4_take 16 = .ok (.getfield 20, 3) := by decide +kernel
theorem dX4_take_19 : decode cX4_take 19 = .ok (.invokevirtual 86, 3) := by decide +kernel
theorem dX4_take_22 : decode cX4_take 22 = .ok (.aload_n 0, 1) := by decide +kernel
theorem dX4_take_23 : decode cX4_take 23 = .ok (.getfield 23, 3) := by decide +kernel
theorem dX4_take_26 : decode cX4_take 26 = .ok (.aload_n 1, 1) := by decide +kernel
theorem dX4_take_27 : decode cX4_take 27 = .ok (.getfield 23, 3) := by decide +kernel
theorem dX4_take_30 : decode cX4_take 30 = .ok (.invokevirtual 86, 3) := by decide +kernel
theorem dX4_take_33 : decode cX4_take 33 = .ok (.aload_n 0, 1) := by decide +kernel
theorem dX4_take_34 : decode cX4_take 34 = .ok (.getfield 26, 3) := by decide +kernel
theorem dX4_take_37 : decode cX4_take 37 = .ok (.aload_n 1, 1) := by decide +kernel
theorem dX4_take_38 : decode cX4_take 38 = .ok (.getfield 26, 3) := by decide +kernel
theorem dX4_take_41 : decode cX4_take 41 = .ok (.invokevirtual 86, 3) := by decide +kernel
theorem dX4_take_44 : decode cX4_take 44 = .ok (.aload_n 1, 1) := by decide +kernel
theorem dX4_take_45 : decode cX4_take 45 = .ok (.getfield 29, 3) := by decide +kernel
theorem dX4_take_48 : decode cX4_take 48 = .ok (.iconst 0, 1) := by decide +kernel
theorem dX4_take_49 : decode cX4_take 49 = .ok (.aload_n 0, 1) := by decide +kernel
theorem dX4_take_50 : decode cX4_take 50 = .ok (.getfield 29, 3) := by decide +kernel
theorem dX4_take_53 : decode cX4_take 53 = .ok (.iconst 0, 1) := by decide +kernel
theorem dX4_take_54 : decode cX4_take 54 = .ok (.aload_n 0, 1) := by decide +kernel
theorem dX4_take_55 : decode cX4_take 55 = .ok (.getfield 29, 3) := by decide +kernel
theorem dX4_take_58 : decode cX4_take 58 = .ok (.arraylength, 1) := by decide +kernel
theorem dX4_take_59 : decode cX4_take 59 = .ok (.invokestatic 90, 3) := by decide +kernel
theorem dX4_take_62 : decode cX4_take 62 = .ok (.aload_n 1, 1) := by decide +kernel
theorem dX4_take_63 : decode cX4_take 63 = .ok (.getfield 33, 3) := by decide +kernel
theorem dX4_take_66 : decode cX4_take 66 = .ok (.iconst 0, 1) := by decide +kernel
theorem dX4_take_67 : decode cX4_take 67 = .ok (.aload_n 0, 1) := by decide +kernel
theorem dX4_take_68 : decode cX4_take 68 = .ok (.getfield 33, 3) := by decide +kernel
theorem dX4_take_71 : decode cX4_take 71 = .ok (.iconst 0, 1) := by decide +kernel
theorem dX4_take_72 : decode cX4_take 72 = .ok (.aload_n 0, 1) := by decide +kernel
theorem dX4_take_73 : decode cX4_take 73 = .ok (.getfield 33, 3) := by decide +kernel
theorem dX4_take_76 : decode cX4_take 76 = .ok (.arraylength, 1) := by decide +kernel
theorem dX4_take_77 : decode cX4_take 77 = .ok (.invokestatic 90, 3) := by decide +kernel
theorem dX4_take_80 : decode cX4_take 80 = .ok (.aload_n 1, 1) := by decide +kernel
theorem dX4_take_81 : decode cX4_take 81 = .ok (.getfield 36, 3) := by decide +kernel
theorem dX4_take_84 : decode cX4_take 84 = .ok (.iconst 0, 1) := by decide +kernel
theorem dX4_take_85 : decode cX4_take 85 = .ok (.aload_n 0, 1) := by decide +kernel
theorem dX4_take_86 : decode cX4_take 86 = .ok (.getfield 36, 3) := by decide +kernel
theorem dX4_take_89 : decode cX4_take 89 = .ok (.iconst 0, 1) := by decide +kernel
theorem dX4_take_90 : decode cX4_take 90 = .ok (.aload_n 0, 1) := by decide +kernel
theorem dX4_take_91 : decode cX4_take 91 = .ok (.getfield 36, 3) := by decide +kernel
theorem dX4_take_94 : decode cX4_take 94 = .ok (.arraylength, 1) := by decide +kernel
theorem dX4_take_95 : decode cX4_take 95 = .ok (.invokestatic 90, 3) := by decide +kernel
theorem dX4_take_98 : decode cX4_take 98 = .ok (.aload_n 1, 1) := by decide +kernel
theorem dX4_take_99 : decode cX4_take 99 = .ok (.getfield 39, 3) := by decide +kernel
theorem dX4_take_102 : decode cX4_take 102 = .ok (.iconst 0, 1) := by decide +kernel
theorem dX4_take_103 : decode cX4_take 103 = .ok (.aload_n 0, 1) := by decide +kernel
theorem dX4_take_104 : decode cX4_take 104 = .ok (.getfield 39, 3) := by decide +kernel
theorem dX4_take_107 : decode cX4_take 107 = .ok (.iconst 0, 1) := by decide +kernel
theorem dX4_take_108 : decode cX4_take 108 = .ok (.aload_n 0, 1) := by decide +kernel
theorem dX4_take_109 : decode cX4_take 109 = .ok (.getfield 39, 3) := by decide +kernel
theorem dX4_take_112 : decode cX4_take 112 = .ok (.arraylength, 1) := by decide +kernel
theorem dX4_take_113 : decode cX4_take 113 = .ok (.invokestatic 90, 3) := by decide +kernel
theorem dX4_take_116 : decode cX4_take 116 = .ok (.aload_n 1, 1) := by decide +kernel
theorem dX4_take_117 : decode cX4_take 117 = .ok (.getfield 42, 3) := by decide +kernel
theorem dX4_take_120 : decode cX4_take 120 = .ok (.iconst 0, 1) := by decide +kernel
theorem dX4_take_121 : decode cX4_take 121 = .ok (.aload_n 0, 1) := by decide +kernel
theorem dX4_take_122 : decode cX4_take 122 = .ok (.getfield 42, 3) := by decide +kernel
theorem dX4_take_125 : decode cX4_take 125 = .ok (.iconst 0, 1) := by decide +kernel
theorem dX4_take_126 : decode cX4_take 126 = .ok (.aload_n 0, 1) := by decide +kernel
theorem dX4_take_127 : decode cX4_take 127 = .ok (.getfield 42, 3) := by decide +kernel
theorem dX4_take_130 : decode cX4_take 130 = .ok (.arraylength, 1) := by decide +kernel
theorem dX4_take_131 : decode cX4_take 131 = .ok (.invokestatic 90, 3) := by decide +kernel
theorem dX4_take_134 : decode cX4_take 134 = .ok (.aload_n 1, 1) := by decide +kernel
theorem dX4_take_135 : decode cX4_take 135 = .ok (.getfield 45, 3) := by decide +kernel
theorem dX4_take_138 : decode cX4_take 138 = .ok (.iconst 0, 1) := by decide +kernel
theorem dX4_take_139 : decode cX4_take 139 = .ok (.aload_n 0, 1) := by decide +kernel
theorem dX4_take_140 : decode cX4_take 140 = .ok (.getfield 45, 3) := by decide +kernel
theorem dX4_take_143 : decode cX4_take 143 = .ok (.iconst 0, 1) := by decide +kernel
theorem dX4_take_144 : decode cX4_take 144 = .ok (.aload_n 0, 1) := by decide +kernel
theorem dX4_take_145 : decode cX4_take 145 = .ok (.getfield 45, 3) := by decide +kernel
theorem dX4_take_148 : decode cX4_take 148 = .ok (.arraylength, 1) := by decide +kernel
theorem dX4_take_149 : decode cX4_take 149 = .ok (.invokestatic 90, 3) := by decide +kernel
theorem dX4_take_152 : decode cX4_take 152 = .ok (.aload_n 1, 1) := by decide +kernel
theorem dX4_take_153 : decode cX4_take 153 = .ok (.getfield 48, 3) := by decide +kernel
theorem dX4_take_156 : decode cX4_take 156 = .ok (.iconst 0, 1) := by decide +kernel
theorem dX4_take_157 : decode cX4_take 157 = .ok (.aload_n 0, 1) := by decide +kernel
theorem dX4_take_158 : decode cX4_take 158 = .ok (.getfield 48, 3) := by decide +kernel
theorem dX4_take_161 : decode cX4_take 161 = .ok (.iconst 0, 1) := by decide +kernel
theorem dX4_take_162 : decode cX4_take 162 = .ok (.aload_n 0, 1) := by decide +kernel
theorem dX4_take_163 : decode cX4_take 163 = .ok (.getfield 48, 3) := by decide +kernel
theorem dX4_take_166 : decode cX4_take 166 = .ok (.arraylength, 1) := by decide +kernel
theorem dX4_take_167 : decode cX4_take 167 = .ok (.invokestatic 90, 3) := by decide +kernel
theorem dX4_take_170 : decode cX4_take 170 = .ok (.aload_n 1, 1) := by decide +kernel
theorem dX4_take_171 : decode cX4_take 171 = .ok (.getfield 51, 3) := by decide +kernel
theorem dX4_take_174 : decode cX4_take 174 = .ok (.iconst 0, 1) := by decide +kernel
theorem dX4_take_175 : decode cX4_take 175 = .ok (.aload_n 0, 1) := by decide +kernel
theorem dX4_take_176 : decode cX4_take 176 = .ok (.getfield 51, 3) := by decide +kernel
theorem dX4_take_179 : decode cX4_take 179 = .ok (.iconst 0, 1) := by decide +kernel
theorem dX4_take_180 : decode cX4_take 180 = .ok (.aload_n 0, 1) := by decide +kernel
theorem dX4_take_181 : decode cX4_take 181 = .ok (.getfield 51, 3) := by decide +kernel
theorem dX4_take_184 : decode cX4_take 184 = .ok (.arraylength, 1) := by decide +kernel
theorem dX4_take_185 : decode cX4_take 185 = .ok (.invokestatic 90, 3) := by decide +kernel
theorem dX4_take_188 : decode cX4_take 188 = .ok (.aload_n 1, 1) := by decide +kernel
theorem dX4_take_189 : decode cX4_take 189 = .ok (.getfield 54, 3) := by decide +kernel
theorem dX4_take_192 : decode cX4_take 192 = .ok (.iconst 0, 1) := by decide +kernel
theorem dX4_take_193 : decode cX4_take 193 = .ok (.aload_n 0, 1) := by decide +kernel
theorem dX4_take_194 : decode cX4_take 194 = .ok (.getfield 54, 3) := by decide +kernel
theorem dX4_take_197 : decode cX4_take 197 = .ok (.iconst 0, 1) := by decide +kernel
theorem dX4_take_198 : decode cX4_take 198 = .ok (.aload_n 0, 1) := by decide +kernel
theorem dX4_take_199 : decode cX4_take 199 = .ok (.getfield 54, 3) := by decide +kernel
theorem dX4_take_202 : decode cX4_take 202 = .ok (.arraylength, 1) := by decide +kernel
theorem dX4_take_203 : decode cX4_take 203 = .ok (.invokestatic 90, 3) := by decide +kernel
theorem dX4_take_206 : decode cX4_take 206 = .ok (.aload_n 1, 1) := by decide +kernel
theorem dX4_take_207 : decode cX4_take 207 = .ok (.getfield 57, 3) := by decide +kernel
theorem dX4_take_210 : decode cX4_take 210 = .ok (.iconst 0, 1) := by decide +kernel
theorem dX4_take_211 : decode cX4_take 211 = .ok (.aload_n 0, 1) := by decide +kernel
theorem dX4_take_212 : decode cX4_take 212 = .ok (.getfield 57, 3) := by decide +kernel
theorem dX4_take_215 : decode cX4_take 215 = .ok (.iconst 0, 1) := by decide +kernel
theorem dX4_take_216 : decode cX4_take 216 = .ok (.aload_n 0, 1) := by decide +kernel
theorem dX4_take_217 : decode cX4_take 217 = .ok (.getfield 57, 3) := by decide +kernel
theorem dX4_take_220 : decode cX4_take 220 = .ok (.arraylength, 1) := by decide +kernel
theorem dX4_take_221 : decode cX4_take 221 = .ok (.invokestatic 90, 3) := by decide +kernel
theorem dX4_take_224 : decode cX4_take 224 = .ok (.aload_n 1, 1) := by decide +kernel
theorem dX4_take_225 : decode cX4_take 225 = .ok (.getfield 60, 3) := by decide +kernel
theorem dX4_take_228 : decode cX4_take 228 = .ok (.iconst 0, 1) := by decide +kernel
theorem dX4_take_229 : decode cX4_take 229 = .ok (.aload_n 0, 1) := by decide +kernel
theorem dX4_take_230 : decode cX4_take 230 = .ok (.getfield 60, 3) := by decide +kernel
theorem dX4_take_233 : decode cX4_take 233 = .ok (.iconst 0, 1) := by decide +kernel
theorem dX4_take_234 : decode cX4_take 234 = .ok (.aload_n 0, 1) := by decide +kernel
theorem dX4_take_235 : decode cX4_take 235 = .ok (.getfield 60, 3) := by decide +kernel
theorem dX4_take_238 : decode cX4_take 238 = .ok (.arraylength, 1) := by decide +kernel
theorem dX4_take_239 : decode cX4_take 239 = .ok (.invokestatic 90, 3) := by decide +kernel
theorem dX4_take_242 : decode cX4_take 242 = .ok (.aload_n 0, 1) := by decide +kernel
theorem dX4_take_243 : decode cX4_take 243 = .ok (.getfield 66, 3) := by decide +kernel
theorem dX4_take_246 : decode cX4_take 246 = .ok (.aload_n 1, 1) := by decide +kernel
theorem dX4_take_247 : decode cX4_take 247 = .ok (.getfield 66, 3) := by decide +kernel
theorem dX4_take_250 : decode cX4_take 250 = .ok (.invokevirtual 96, 3) := by decide +kernel
theorem dX4_take_253 : decode cX4_take 253 = .ok (.aload_n 0, 1) := by decide +kernel
theorem dX4_take_254 : decode cX4_take 254 = .ok (.aload_n 1, 1) := by decide +kernel
theorem dX4_take_255 : decode cX4_take 255 = .ok (.getfield 70, 3) := by decide +kernel
theorem dX4_take_258 : decode cX4_take 258 = .ok (.putfield 70, 3) := by decide +kernel
theorem dX4_take_261 : decode cX4_take 261 = .ok (.aload_n 0, 1) := by decide +kernel
theorem dX4_take_262 : decode cX4_take 262 = .ok (.aload_n 1, 1) := by decide +kernel
theorem dX4_take_263 : decode cX4_take 263 = .ok (.getfield 74, 3) := by decide +kernel
theorem dX4_take_266 : decode cX4_take 266 = .ok (.putfield 74, 3) := by decide +kernel
theorem dX4_take_269 : decode cX4_take 269 = .ok (.aload_n 0, 1) := by decide +kernel
theorem dX4_take_270 : decode cX4_take 270 = .ok (.aload_n 1, 1) := by decide +kernel
theorem dX4_take_271 : decode cX4_take 271 = .ok (.getfield 77, 3) := by decide +kernel
theorem dX4_take_274 : decode cX4_take 274 = .ok (.putfield 77, 3) := by decide +kernel
theorem dX4_take_277 : decode cX4_take 277 = .ok (.return_, 1) := by decide +kernel
theorem dX5_init_0 : decode cX5_init 0 = .ok (.aload_n 0, 1) := by decide +kernel
theorem dX5_init_1 : decode cX5_init 1 = .ok (.invokespecial 3, 3) := by decide +kernel
theorem dX5_init_4 : decode cX5_init 4 = .ok (.aload_n 0, 1) := by decide +kernel
theorem dX5_init_5 : decode cX5_init 5 = .ok (.bipush 7, 2) := by decide +kernel
theorem dX5_init_7 : decode cX5_init 7 = .ok (.newarray .long, 2) := by decide +kernel
theorem dX5_init_9 : decode cX5_init 9 = .ok (.putfield 9, 3) := by decide +kernel
theorem dX5_init_12 : decode cX5_init 12 = .ok (.aload_n 0, 1) := by decide +kernel
theorem dX5_init_13 : decode cX5_init 13 = .ok (.bipush 64, 2) := by decide +kernel
theorem dX5_init_15 : decode cX5_init 15 = .ok (.newarray .long, 2) := by decide +kernel
theorem dX5_init_17 : decode cX5_init 17 = .ok (.putfield 15, 3) := by decide +kernel
theorem dX5_init_20 : decode cX5_init 20 = .ok (.aload_n 0, 1) := by decide +kernel
theorem dX5_init_21 : decode cX5_init 21 = .ok (.iconst 0, 1) := by decide +kernel
theorem dX5_init_22 : decode cX5_init 22 = .ok (.putfield 18, 3) := by decide +kernel
theorem dX5_init_25 : decode cX5_init 25 = .ok (.aload_n 0, 1) := by decide +kernel
theorem dX5_init_26 : decode cX5_init 26 = .ok (.iconst 0, 1) := by decide +kernel
theorem dX5_init_27 : decode cX5_init 27 = .ok (.putfield 22, 3) := by decide +kernel
theorem dX5_init_30 : decode cX5_init 30 = .ok (.aload_n 0, 1) := by decide +kernel
theorem dX5_init_31 : decode cX5_init 31 = .ok (.aload_n 1, 1) := by decide +kernel
theorem dX5_init_32 : decode cX5_init 32 = .ok (.putfield 26, 3) := by decide +kernel
theorem dX5_init_35 : decode cX5_init 35 = .ok (.aload_n 0, 1) := by decide +kernel
theorem dX5_init_36 : decode cX5_init 36 = .ok (.aload_n 2, 1) := by decide +kernel
theorem dX5_init_37 : decode cX5_init 37 = .ok (.putfield 30, 3) := by decide +kernel
theorem dX5_init_40 : decode cX5_init 40 = .ok (.return_, 1) := by decide +kernel
theorem dX5_apply_0 : decode cX5_apply 0 = .ok (.iload_n 1, 1) := by decide +kernel
theorem dX5_apply_1 : decode cX5_apply 1 = .ok (.iconst 2, 1) := by decide +kernel
theorem dX5_apply_2 : decode cX5_apply 2 = .ok (.if_icmp .ne 12, 3) := by decide +kernel
theorem dX5_apply_5 : decode cX5_apply 5 = .ok (.aload_n 0, 1) := by decide +kernel
theorem dX5_apply_6 : decode cX5_apply 6 = .ok (.iload_n 2, 1) := by decide +kernel
theorem dX5_apply_7 : decode cX5_apply 7 = .ok (.i2l, 1) := by decide +kernel
theorem dX5_apply_8 : decode cX5_apply 8 = .ok (.invokevirtual 140, 3) := by decide +kernel
theorem dX5_apply_11 : decode cX5_apply 11 = .ok (.goto 103, 3) := by decide +kernel
theorem dX5_apply_14 : decode cX5_apply 14 = .ok (.iload_n 1, 1) := by decide +kernel
theorem dX5_apply_15 : decode cX5_apply 15 = .ok (.bipush 33, 2) := by decide +kernel
theorem dX5_apply_17 : decode cX5_apply 17 = .ok (.if_icmp .lt 25, 3) := by decide +kernel
theorem dX5_apply_20 : decode cX5_apply 20 = .ok (.iload_n 1, 1) := by decide +kernel
theorem dX5_apply_21 : decode cX5_apply 21 = .ok (.bipush 39, 2) := by decide +kernel
theorem dX5_apply_23 : decode cX5_apply 23 = .ok (.if_icmp .gt 19, 3) := by decide +kernel
theorem dX5_apply_26 : decode cX5_apply 26 = .ok (.aload_n 0, 1) := by decide +kernel
theorem dX5_apply_27 : decode cX5_apply 27 = .ok (.aload_n 0, 1) := by decide +kernel
theorem dX5_apply_28 : decode cX5_apply 28 = .ok (.getfield 9, 3) := by decide +kernel
theorem dX5_apply_31 : decode cX5_apply 31 = .ok (.iload_n 1, 1) := by decide +kernel
theorem dX5_apply_32 : decode cX5_apply 32 = .ok (.bipush 33, 2) := by decide +kernel
theorem dX5_apply_34 : decode cX5_apply 34 = .ok (.isub, 1) := by decide +kernel
theorem dX5_apply_35 : decode cX5_apply 35 = .ok (.laload, 1) := by decide +kernel
theorem dX5_apply_36 : decode cX5_apply 36 = .ok (.invokevirtual 140, 3) := by decide +kernel
theorem dX5_apply_39 : decode cX5_apply 39 = .ok (.goto 75, 3) := by decide +kernel
theorem dX5_apply_42 : decode cX5_apply 42 = .ok (.iload_n 1, 1) := by decide +kernel
theorem dX5_apply_43 : decode cX5_apply 43 = .ok (.bipush 32, 2) := by decide +kernel
theorem dX5_apply_45 : decode cX5_apply 45 = .ok (.if_icmp .ne 24, 3) := by decide +kernel
theorem dX5_apply_48 : decode cX5_apply 48 = .ok (.aload_n 0, 1) := by decide +kernel
theorem dX5_apply_49 : decode cX5_apply 49 = .ok (.aload_n 0, 1) := by decide +kernel
theorem dX5_apply_50 : decode cX5_apply 50 = .ok (.invokevirtual 131, 3) := by decide +kernel
theorem dX5_apply_53 : decode cX5_apply 53 = .ok (.lconst 0, 1) := by decide +kernel
theorem dX5_apply_54 : decode cX5_apply 54 = .ok (.lcmp, 1) := by decide +kernel
theorem dX5_apply_55 : decode cX5_apply 55 = .ok (.ifCond .ne 7, 3) := by decide +kernel
theorem dX5_apply_58 : decode cX5_apply 58 = .ok (.lconst 1, 1) := by decide +kernel
theorem dX5_apply_59 : decode cX5_apply 59 = .ok (.goto 4, 3) := by decide +kernel
theorem dX5_apply_62 : decode cX5_apply 62 = .ok (.lconst 0, 1) := by decide +kernel
theorem dX5_apply_63 : decode cX5_apply 63 = .ok (.invokevirtual 140, 3) := by decide +kernel
theorem dX5_apply_66 : decode cX5_apply 66 = .ok (.goto 48, 3) := by decide +kernel
theorem dX5_apply_69 : decode cX5_apply 69 = .ok (.aload_n 0, 1) := by decide +kernel
theorem dX5_apply_70 : decode cX5_apply 70 = .ok (.invokevirtual 131, 3) := by decide +kernel
theorem dX5_apply_73 : decode cX5_apply 73 = .ok (.lstore_n 3, 1) := by decide +kernel
theorem dX5_apply_74 : decode cX5_apply 74 = .ok (.aload_n 0, 1) := by decide +kernel
theorem dX5_apply_75 : decode cX5_apply 75 = .ok (.invokevirtual 131, 3) := by decide +kernel
theorem dX5_apply_78 : decode cX5_apply 78 = .ok (.lstore 5, 2) := by decide +kernel
theorem dX5_apply_80 : decode cX5_apply 80 = .ok (.aload_n 0, 1) := by decide +kernel
theorem dX5_apply_81 : decode cX5_apply 81 = .ok (.iload_n 1, 1) := by decide +kernel
theorem dX5_apply_82 : decode cX5_apply 82 = .ok (.bipush 15, 2) := by decide +kernel
theorem dX5_apply_84 : decode cX5_apply 84 = .ok (.if_icmp .eq 9, 3) := by decide +kernel
theorem dX5_apply_87 : decode cX5_apply 87 = .ok (.iload_n 1, 1) := by decide +kernel
theorem dX5_apply_88 : decode cX5_apply 88 = .ok (.bipush 16, 2) := by decide +kernel
theorem dX5_apply_90 : decode cX5_apply 90 = .ok (.if_icmp .ne 14, 3) := by decide +kernel
theorem dX5_apply_93 : decode cX5_apply 93 = .ok (.aload_n 0, 1) := by decide +kernel
theorem dX5_apply_94 : decode cX5_apply 94 = .ok (.iload_n 1, 1) := by decide +kernel
theorem dX5_apply_95 : decode cX5_apply 95 = .ok (.lload 5, 2) := by decide +kernel
theorem dX5_apply_97 : decode cX5_apply 97 = .ok (.lload_n 3, 1) := by decide +kernel
theorem dX5_apply_98 : decode cX5_apply 98 = .ok (.invokevirtual 144, 3) := by decide +kernel
theorem dX5_apply_101 : decode cX5_apply 101 = .ok (.goto 10, 3) := by decide +kernel
theorem dX5_apply_104 : decode cX5_apply 104 = .ok (.iload_n 1, 1) := by decide +kernel
theorem dX5_apply_105 : decode cX5_apply 105 = .ok (.lload 5, 2) := by decide +kernel
theorem dX5_apply_107 : decode cX5_apply 107 = .ok (.lload_n 3, 1) := by decide +kernel
theorem dX5_apply_108 : decode cX5_apply 108 = .ok (.invokestatic 148, 3) := by decide +kernel
theorem dX5_apply_111 : decode cX5_apply 111 = .ok (.invokevirtual 140, 3) := by decide +kernel
theorem dX5_apply_114 : decode cX5_apply 114 = .ok (.return_, 1) := by decide +kernel
theorem dX5_bidFor_0 : decode cX5_bidFor 0 = .ok (.iconst 0, 1) := by decide +kernel
theorem dX5_bidFor_1 : decode cX5_bidFor 1 = .ok (.istore 4, 2) := by decide +kernel
theorem dX5_bidFor_3 : decode cX5_bidFor 3 = .ok (.iconst 0, 1) := by decide +kernel
theorem dX5_bidFor_4 : decode cX5_bidFor 4 = .ok (.istore 5, 2) := by decide +kernel
theorem dX5_bidFor_6 : decode cX5_bidFor 6 = .ok (.iconst 0, 1) := by decide +kernel
theorem dX5_bidFor_7 : decode cX5_bidFor 7 = .ok (.istore 6, 2) := by decide +kernel
theorem dX5_bidFor_9 : decode cX5_bidFor 9 = .ok (.iconst 0, 1) := by decide +kernel
theorem dX5_bidFor_10 : decode cX5_bidFor 10 = .ok (.istore 7, 2) := by decide +kernel
theorem dX5_bidFor_12 : decode cX5_bidFor 12 = .ok (.iload 7, 2) := by decide +kernel
theorem dX5_bidFor_14 : decode cX5_bidFor 14 = .ok (.aload_n 0, 1) := by decide +kernel
theorem dX5_bidFor_15 : decode cX5_bidFor 15 = .ok (.getfield 26, 3) := by decide +kernel
theorem dX5_bidFor_18 : decode cX5_bidFor 18 = .ok (.getfield 81, 3) := by decide +kernel
theorem dX5_bidFor_21 : decode cX5_bidFor 21 = .ok (.iload_n 2, 1) := by decide +kernel
theorem dX5_bidFor_22 : decode cX5_bidFor 22 = .ok (.iaload, 1) := by decide +kernel
theorem dX5_bidFor_23 : decode cX5_bidFor 23 = .ok (.if_icmp .ge 62, 3) := by decide +kernel
theorem dX5_bidFor_26 : decode cX5_bidFor 26 = .ok (.iload_n 2, 1) := by decide +kernel
theorem dX5_bidFor_27 : decode cX5_bidFor 27 = .ok (.iload 7, 2) := by decide +kernel
theorem dX5_bidFor_29 : decode cX5_bidFor 29 = .ok (.invokestatic 50, 3) := by decide +kernel
theorem dX5_bidFor_32 : decode cX5_bidFor 32 = .ok (.istore 8, 2) := by decide +kernel
theorem dX5_bidFor_34 : decode cX5_bidFor 34 = .ok (.iload 4, 2) := by decide +kernel
theorem dX5_bidFor_36 : decode cX5_bidFor 36 = .ok (.aload_n 0, 1) := by decide +kernel
theorem dX5_bidFor_37 : decode cX5_bidFor 37 = .ok (.getfield 26, 3) := by decide +kernel
theorem dX5_bidFor_40 : decode cX5_bidFor 40 = .ok (.getfield 95, 3) := by decide +kernel
theorem dX5_bidFor_43 : decode cX5_bidFor 43 = .ok (.iload 8, 2) := by decide +kernel
theorem dX5_bidFor_45 : decode cX5_bidFor 45 = .ok (.iaload, 1) := by decide +kernel
theorem dX5_bidFor_46 : decode cX5_bidFor 46 = .ok (.iadd, 1) := by decide +kernel
theorem dX5_bidFor_47 : decode cX5_bidFor 47 = .ok (.istore 4, 2) := by decide +kernel
theorem dX5_bidFor_49 : decode cX5_bidFor 49 = .ok (.iload 5, 2) := by decide +kernel
theorem dX5_bidFor_51 : decode cX5_bidFor 51 = .ok (.aload_n 0, 1) := by decide +kernel
theorem dX5_bidFor_52 : decode cX5_bidFor 52 = .ok (.getfield 26, 3) := by decide +kernel
theorem dX5_bidFor_55 : decode cX5_bidFor 55 = .ok (.iload 8, 2) := by decide +kernel
theorem dX5_bidFor_57 : decode cX5_bidFor 57 = .ok (.invokevirtual 75, 3) := by decide +kernel
theorem dX5_bidFor_60 : decode cX5_bidFor 60 = .ok (.iadd, 1) := by decide +kernel
theorem dX5_bidFor_61 : decode cX5_bidFor 61 = .ok (.istore 5, 2) := by decide +kernel
theorem dX5_bidFor_63 : decode cX5_bidFor 63 = .ok (.iload 6, 2) := by decide +kernel
theorem dX5_bidFor_65 : decode cX5_bidFor 65 = .ok (.aload_n 0, 1) := by decide +kernel
theorem dX5_bidFor_66 : decode cX5_bidFor 66 = .ok (.getfield 26, 3) := by decide +kernel
theorem dX5_bidFor_69 : decode cX5_bidFor 69 = .ok (.iload 8, 2) := by decide +kernel
theorem dX5_bidFor_71 : decode cX5_bidFor 71 = .ok (.invokevirtual 78, 3) := by decide +kernel
theorem dX5_bidFor_74 : decode cX5_bidFor 74 = .ok (.invokestatic 98, 3) := by decide +kernel
theorem dX5_bidFor_77 : decode cX5_bidFor 77 = .ok (.istore 6, 2) := by decide +kernel
theorem dX5_bidFor_79 : decode cX5_bidFor 79 = .ok (.iinc 7 1, 3) := by decide +kernel
theorem dX5_bidFor_82 : decode cX5_bidFor 82 = .ok (.goto (-70), 3) := by decide +kernel
theorem dX5_bidFor_85 : decode cX5_bidFor 85 = .ok (.aload_n 0, 1) := by decide +kernel
theorem dX5_bidFor_86 : decode cX5_bidFor 86 = .ok (.iconst 0, 1) := by decide +kernel
theorem dX5_bidFor_87 : decode cX5_bidFor 87 = .ok (.iconst 0, 1) := by decide +kernel
theorem dX5_bidFor_88 : decode cX5_bidFor 88 = .ok (.aload_n 0, 1) := by decide +kernel
theorem dX5_bidFor_89 : decode cX5_bidFor 89 = .ok (.getfield 30, 3) := by decide +kernel
theorem dX5_bidFor_92 : decode cX5_bidFor 92 = .ok (.getfield 68, 3) := by decide +kernel
theorem dX5_bidFor_95 : decode cX5_bidFor 95 = .ok (.invokevirtual 71, 3) := by decide +kernel
theorem dX5_bidFor_98 : decode cX5_bidFor 98 = .ok (.aload_n 0, 1) := by decide +kernel
theorem dX5_bidFor_99 : decode cX5_bidFor 99 = .ok (.iload 4, 2) := by decide +kernel
theorem dX5_bidFor_101 : decode cX5_bidFor 101 = .ok (.iload 5, 2) := by decide +kernel
theorem dX5_bidFor_103 : decode cX5_bidFor 103 = .ok (.isub, 1) := by decide +kernel
theorem dX5_bidFor_104 : decode cX5_bidFor 104 = .ok (.iload 5, 2) := by decide +kernel
theorem dX5_bidFor_106 : decode cX5_bidFor 106 = .ok (.iload 6, 2) := by decide +kernel
theorem dX5_bidFor_108 : decode cX5_bidFor 108 = .ok (.aload_n 0, 1) := by decide +kernel
theorem dX5_bidFor_109 : decode cX5_bidFor 109 = .ok (.getfield 26, 3) := by decide +kernel
theorem dX5_bidFor_112 : decode cX5_bidFor 112 = .ok (.getfield 81, 3) := by decide +kernel
theorem dX5_bidFor_115 : decode cX5_bidFor 115 = .ok (.iload_n 2, 1) := by decide +kernel
theorem dX5_bidFor_116 : decode cX5_bidFor 116 = .ok (.iaload, 1) := by decide +kernel
theorem dX5_bidFor_117 : decode cX5_bidFor 117 = .ok (.invokevirtual 84, 3) := by decide +kernel
theorem dX5_bidFor_120 : decode cX5_bidFor 120 = .ok (.iload_n 3, 1) := by decide +kernel
theorem dX5_bidFor_121 : decode cX5_bidFor 121 = .ok (.aload_n 0, 1) := by decide +kernel
theorem dX5_bidFor_122 : decode cX5_bidFor 122 = .ok (.iconst 2, 1) := by decide +kernel
theorem dX5_bidFor_123 : decode cX5_bidFor 123 = .ok (.iload_n 1, 1) := by decide +kernel
theorem dX5_bidFor_124 : decode cX5_bidFor 124 = .ok (.iadd, 1) := by decide +kernel
theorem dX5_bidFor_125 : decode cX5_bidFor 125 = .ok (.sipush 999, 3) := by decide +kernel
theorem dX5_bidFor_128 : decode cX5_bidFor 128 = .ok (.iconst 0, 1) := by decide +kernel
theorem dX5_bidFor_129 : decode cX5_bidFor 129 = .ok (.invokevirtual 88, 3) := by decide +kernel
theorem dX5_bidFor_132 : decode cX5_bidFor 132 = .ok (.invokestatic 103, 3) := by decide +kernel
theorem dX5_bidFor_135 : decode cX5_bidFor 135 = .ok (.ireturn, 1) := by decide +kernel
theorem dX5_crackFor_0 : decode cX5_crackFor 0 = .ok (.aload_n 0, 1) := by decide +kernel
theorem dX5_crackFor_1 : decode cX5_crackFor 1 = .ok (.getfield 26, 3) := by decide +kernel
theorem dX5_crackFor_4 : decode cX5_crackFor 4 = .ok (.getfield 46, 3) := by decide +kernel
theorem dX5_crackFor_7 : decode cX5_crackFor 7 = .ok (.iload_n 1, 1) := by decide +kernel
theorem dX5_crackFor_8 : decode cX5_crackFor 8 = .ok (.iaload, 1) := by decide +kernel
theorem dX5_crackFor_9 : decode cX5_crackFor 9 = .ok (.istore_n 3, 1) := by decide +kernel
theorem dX5_crackFor_10 : decode cX5_crackFor 10 = .ok (.aload_n 0, 1) := by decide +kernel
theorem dX5_crackFor_11 : decode cX5_crackFor 11 = .ok (.aload_n 0, 1) := by decide +kernel
theorem dX5_crackFor_12 : decode cX5_crackFor 12 = .ok (.getfield 26, 3) := by decide +kernel
theorem dX5_crackFor_15 : decode cX5_crackFor 15 = .ok (.getfield 53, 3) := by decide +kernel
theorem dX5_crackFor_18 : decode cX5_crackFor 18 = .ok (.iload_n 1, 1) := by decide +kernel
theorem dX5_crackFor_19 : decode cX5_crackFor 19 = .ok (.iaload, 1) := by decide +kernel
theorem dX5_crackFor_20 : decode cX5_crackFor 20 = .ok (.iload_n 3, 1) := by decide +kernel
theorem dX5_crackFor_21 : decode cX5_crackFor 21 = .ok (.iconst (-1), 1) := by decide +kernel
theorem dX5_crackFor_22 : decode cX5_crackFor 22 = .ok (.if_icmp .ne 7, 3) := by decide +kernel
theorem dX5_crackFor_25 : decode cX5_crackFor 25 = .ok (.iconst 0, 1) := by decide +kernel
theorem dX5_crackFor_26 : decode cX5_crackFor 26 = .ok (.goto 12, 3) := by decide +kernel
theorem dX5_crackFor_29 : decode cX5_crackFor 29 = .ok (.aload_n 0, 1) := by decide +kernel
theorem dX5_crackFor_30 : decode cX5_crackFor 30 = .ok (.getfield 26, 3) := by decide +kernel
theorem dX5_crackFor_33 : decode cX5_crackFor 33 = .ok (.getfield 65, 3) := by decide +kernel
theorem dX5_crackFor_36 : decode cX5_crackFor 36 = .ok (.iload_n 3, 1) := by decide +kernel
theorem dX5_crackFor_37 : decode cX5_crackFor 37 = .ok (.iaload, 1) := by decide +kernel
theorem dX5_crackFor_38 : decode cX5_crackFor 38 = .ok (.iload_n 2, 1) := by decide +kernel
theorem dX5_crackFor_39 : decode cX5_crackFor 39 = .ok (.invokevirtual 71, 3) := by decide +kernel
theorem dX5_crackFor_42 : decode cX5_crackFor 42 = .ok (.aload_n 0, 1) := by decide +kernel
theorem dX5_crackFor_43 : decode cX5_crackFor 43 = .ok (.iconst 0, 1) := by decide +kernel
theorem dX5_crackFor_44 : decode cX5_crackFor 44 = .ok (.iconst 0, 1) := by decide +kernel
theorem dX5_crackFor_45 : decode cX5_crackFor 45 = .ok (.aload_n 0, 1) := by decide +kernel
theorem dX5_crackFor_46 : decode cX5_crackFor 46 = .ok (.getfield 26, 3) := by decide +kernel
theorem dX5_crackFor_49 : decode cX5_crackFor 49 = .ok (.getfield 92, 3) := by decide +kernel
theorem dX5_crackFor_52 : decode cX5_crackFor 52 = .ok (.iload_n 1, 1) := by decide +kernel
theorem dX5_crackFor_53 : decode cX5_crackFor 53 = .ok (.iaload, 1) := by decide +kernel
theorem dX5_crackFor_54 : decode cX5_crackFor 54 = .ok (.iconst 0, 1) := by decide +kernel
theorem dX5_crackFor_55 : decode cX5_crackFor 55 = .ok (.invokevirtual 84, 3) := by decide +kernel
theorem dX5_crackFor_58 : decode cX5_crackFor 58 = .ok (.aload_n 0, 1) := by decide +kernel
theorem dX5_crackFor_59 : decode cX5_crackFor 59 = .ok (.iconst 1, 1) := by decide +kernel
theorem dX5_crackFor_60 : decode cX5_crackFor 60 = .ok (.bipush 100, 2) := by decide +kernel
theorem dX5_crackFor_62 : decode cX5_crackFor 62 = .ok (.iconst 0, 1) := by decide +kernel
theorem dX5_crackFor_63 : decode cX5_crackFor 63 = .ok (.invokevirtual 88, 3) := by decide +kernel
theorem dX5_crackFor_66 : decode cX5_crackFor 66 = .ok (.ireturn, 1) := by decide +kernel
theorem dX5_dueFor_0 : decode cX5_dueFor 0 = .ok (.aload_n 0, 1) := by decide +kernel
theorem dX5_dueFor_1 : decode cX5_dueFor 1 = .ok (.getfield 26, 3) := by decide +kernel
theorem dX5_dueFor_4 : decode cX5_dueFor 4 = .ok (.getfield 46, 3) := by decide +kernel
theorem dX5_dueFor_7 : decode cX5_dueFor 7 = .ok (.iload_n 3, 1) := by decide +kernel
theorem dX5_dueFor_8 : decode cX5_dueFor 8 = .ok (.iaload, 1) := by decide +kernel
theorem dX5_dueFor_9 : decode cX5_dueFor 9 = .ok (.istore 4, 2) := by decide +kernel
theorem dX5_dueFor_11 : decode cX5_dueFor 11 = .ok (.iload 4, 2) := by decide +kernel
theorem dX5_dueFor_13 : decode cX5_dueFor 13 = .ok (.iconst (-1), 1) := by decide +kernel
theorem dX5_dueFor_14 : decode cX5_dueFor 14 = .ok (.if_icmp .ne 5, 3) := by decide +kernel
theorem dX5_dueFor_17 : decode cX5_dueFor 17 = .ok (.iconst 0, 1) := by decide +kernel
theorem dX5_dueFor_18 : decode cX5_dueFor 18 = .ok (.ireturn, 1) := by decide +kernel
theorem dX5_dueFor_19 : decode cX5_dueFor 19 = .ok (.iload_n 1, 1) := by decide +kernel
theorem dX5_dueFor_20 : decode cX5_dueFor 20 = .ok (.iload_n 2, 1) := by decide +kernel
theorem dX5_dueFor_21 : decode cX5_dueFor 21 = .ok (.invokestatic 50, 3) := by decide +kernel
theorem dX5_dueFor_24 : decode cX5_dueFor 24 = .ok (.istore 5, 2) := by decide +kernel
theorem dX5_dueFor_26 : decode cX5_dueFor 26 = .ok (.aload_n 0, 1) := by decide +kernel
theorem dX5_dueFor_27 : decode cX5_dueFor 27 = .ok (.getfield 26, 3) := by decide +kernel
theorem dX5_dueFor_30 : decode cX5_dueFor 30 = .ok (.getfield 53, 3) := by decide +kernel
theorem dX5_dueFor_33 : decode cX5_dueFor 33 = .ok (.iload_n 3, 1) := by decide +kernel
theorem dX5_dueFor_34 : decode cX5_dueFor 34 = .ok (.iaload, 1) := by decide +kernel
theorem dX5_dueFor_35 : decode cX5_dueFor 35 = .ok (.istore 6, 2) := by decide +kernel
theorem dX5_dueFor_37 : decode cX5_dueFor 37 = .ok (.aload_n 0, 1) := by decide +kernel
theorem dX5_dueFor_38 : decode cX5_dueFor 38 = .ok (.iload 5, 2) := by decide +kernel
theorem dX5_dueFor_40 : decode cX5_dueFor 40 = .ok (.iload_n 3, 1) := by decide +kernel
theorem dX5_dueFor_41 : decode cX5_dueFor 41 = .ok (.invokevirtual 56, 3) := by decide +kernel
theorem dX5_dueFor_44 : decode cX5_dueFor 44 = .ok (.invokestatic 59, 3) := by decide +kernel
theorem dX5_dueFor_47 : decode cX5_dueFor 47 = .ok (.istore 7, 2) := by decide +kernel
theorem dX5_dueFor_49 : decode cX5_dueFor 49 = .ok (.aload_n 0, 1) := by decide +kernel
theorem dX5_dueFor_50 : decode cX5_dueFor 50 = .ok (.iload 6, 2) := by decide +kernel
theorem dX5_dueFor_52 : decode cX5_dueFor 52 = .ok (.aload_n 0, 1) := by decide +kernel
theorem dX5_dueFor_53 : decode cX5_dueFor 53 = .ok (.getfield 26, 3) := by decide +kernel
theorem dX5_dueFor_56 : decode cX5_dueFor 56 = .ok (.getfield 65, 3) := by decide +kernel
theorem dX5_dueFor_59 : decode cX5_dueFor 59 = .ok (.iload 4, 2) := by decide +kernel
theorem dX5_dueFor_61 : decode cX5_dueFor 61 = .ok (.iaload, 1) := by decide +kernel
theorem dX5_dueFor_62 : decode cX5_dueFor 62 = .ok (.aload_n 0, 1) := by decide +kernel
theorem dX5_dueFor_63 : decode cX5_dueFor 63 = .ok (.getfield 30, 3) := by decide +kernel
theorem dX5_dueFor_66 : decode cX5_dueFor 66 = .ok (.getfield 68, 3) := by decide +kernel
theorem dX5_dueFor_69 : decode cX5_dueFor 69 = .ok (.invokevirtual 71, 3) := by decide +kernel
theorem dX5_dueFor_72 : decode cX5_dueFor 72 = .ok (.aload_n 0, 1) := by decide +kernel
theorem dX5_dueFor_73 : decode cX5_dueFor 73 = .ok (.iload 7, 2) := by decide +kernel
theorem dX5_dueFor_75 : decode cX5_dueFor 75 = .ok (.aload_n 0, 1) := by decide +kernel
theorem dX5_dueFor_76 : decode cX5_dueFor 76 = .ok (.getfield 26, 3) := by decide +kernel
theorem dX5_dueFor_79 : decode cX5_dueFor 79 = .ok (.iload 5, 2) := by decide +kernel
theorem dX5_dueFor_81 : decode cX5_dueFor 81 = .ok (.invokevirtual 75, 3) := by decide +kernel
theorem dX5_dueFor_84 : decode cX5_dueFor 84 = .ok (.aload_n 0, 1) := by decide +kernel
theorem dX5_dueFor_85 : decode cX5_dueFor 85 = .ok (.getfield 26, 3) := by decide +kernel
theorem dX5_dueFor_88 : decode cX5_dueFor 88 = .ok (.iload 5, 2) := by decide +kernel
theorem dX5_dueFor_90 : decode cX5_dueFor 90 = .ok (.invokevirtual 78, 3) := by decide +kernel
theorem dX5_dueFor_93 : decode cX5_dueFor 93 = .ok (.aload_n 0, 1) := by decide +kernel
theorem dX5_dueFor_94 : decode cX5_dueFor 94 = .ok (.getfield 26, 3) := by decide +kernel
theorem dX5_dueFor_97 : decode cX5_dueFor 97 = .ok (.getfield 81, 3) := by decide +kernel
theorem dX5_dueFor_100 : decode cX5_dueFor 100 = .ok (.iload_n 1, 1) := by decide +kernel
theorem dX5_dueFor_101 : decode cX5_dueFor 101 = .ok (.iaload, 1) := by decide +kernel
theorem dX5_dueFor_102 : decode cX5_dueFor 102 = .ok (.invokevirtual 84, 3) := by decide +kernel
theorem dX5_dueFor_105 : decode cX5_dueFor 105 = .ok (.aload_n 0, 1) := by decide +kernel
theorem dX5_dueFor_106 : decode cX5_dueFor 106 = .ok (.iconst 0, 1) := by decide +kernel
theorem dX5_dueFor_107 : decode cX5_dueFor 107 = .ok (.sipush 999, 3) := by decide +kernel
theorem dX5_dueFor_110 : decode cX5_dueFor 110 = .ok (.iload 6, 2) := by decide +kernel
theorem dX5_dueFor_112 : decode cX5_dueFor 112 = .ok (.invokevirtual 88, 3) := by decide +kernel
theorem dX5_dueFor_115 : decode cX5_dueFor 115 = .ok (.ireturn, 1) := by decide +kernel
theorem dX5_join_0 : decode cX5_join 0 = .ok (.iload_n 0, 1) := by decide +kernel
theorem dX5_join_1 : decode cX5_join 1 = .ok (.tableswitch 219 7 31 #[159, 171, 183, 195, 207, 219, 115, 119, 219, 219, 219, 219, 219, 219, 219, 219, 219, 219, 219, 219, 219, 219, 219, 141, 123], 115) := by decide +kernel
theorem dX5_join_116 : decode cX5_join 116 = .ok (.lload_n 1, 1) := by decide +kernel
theorem dX5_join_117 : decode cX5_join 117 = .ok (.lload_n 3, 1) := by decide +kernel
theorem dX5_join_118 : decode cX5_join 118 = .ok (.ladd, 1) := by decide +kernel
theorem dX5_join_119 : decode cX5_join 119 = .ok (.lreturn, 1) := by decide +kernel
theorem dX5_join_120 : decode cX5_join 120 = .ok (.lload_n 1, 1) := by decide +kernel
theorem dX5_join_121 : decode cX5_join 121 = .ok (.lload_n 3, 1) := by decide +kernel
theorem dX5_join_122 : decode cX5_join 122 = .ok (.lsub, 1) := by decide +kernel
theorem dX5_join_123 : decode cX5_join 123 = .ok (.lreturn, 1) := by decide +kernel
theorem dX5_join_124 : decode cX5_join 124 = .ok (.lload_n 1, 1) := by decide +kernel
theorem dX5_join_125 : decode cX5_join 125 = .ok (.lconst 0, 1) := by decide +kernel
theorem dX5_join_126 : decode cX5_join 126 = .ok (.lcmp, 1) := by decide +kernel
theorem dX5_join_127 : decode cX5_join 127 = .ok (.ifCond .eq 13, 3) := by decide +kernel
theorem dX5_join_130 : decode cX5_join 130 = .ok (.lload_n 3, 1) := by decide +kernel
theorem dX5_join_131 : decode cX5_join 131 = .ok (.lconst 0, 1) := by decide +kernel
theorem dX5_join_132 : decode cX5_join 132 = .ok (.lcmp, 1) := by decide +kernel
theorem dX5_join_133 : decode cX5_join 133 = .ok (.ifCond .eq 7, 3) := by decide +kernel
theorem dX5_join_136 : decode cX5_join 136 = .ok (.lconst 1, 1) := by decide +kernel
theorem dX5_join_137 : decode cX5_join 137 = .ok (.goto 4, 3) := by decide +kernel
theorem dX5_join_140 : decode cX5_join 140 = .ok (.lconst 0, 1) := by decide +kernel
theorem dX5_join_141 : decode cX5_join 141 = .ok (.lreturn, 1) := by decide +kernel
theorem dX5_join_142 : decode cX5_join 142 = .ok (.lload_n 1, 1) := by decide +kernel
theorem dX5_join_143 : decode cX5_join 143 = .ok (.lconst 0, 1) := by decide +kernel
theorem dX5_join_144 : decode cX5_join 144 = .ok (.lcmp, 1) := by decide +kernel
theorem dX5_join_145 : decode cX5_join 145 = .ok (.ifCond .ne 9, 3) := by decide +kernel
theorem dX5_join_148 : decode cX5_join 148 = .ok (.lload_n 3, 1) := by decide +kernel
theorem dX5_join_149 : decode cX5_join 149 = .ok (.lconst 0, 1) := by decide +kernel
theorem dX5_join_150 : decode cX5_join 150 = .ok (.lcmp, 1) := by decide +kernel
theorem dX5_join_151 : decode cX5_join 151 = .ok (.ifCond .eq 7, 3) := by decide +kernel
theorem dX5_join_154 : decode cX5_join 154 = .ok (.lconst 1, 1) := by decide +kernel
theorem dX5_join_155 : decode cX5_join 155 = .ok (.goto 4, 3) := by decide +kernel
theorem dX5_join_158 : decode cX5_join 158 = .ok (.lconst 0, 1) := by decide +kernel
theorem dX5_join_159 : decode cX5_join 159 = .ok (.lreturn, 1) := by decide +kernel
theorem dX5_join_160 : decode cX5_join 160 = .ok (.lload_n 1, 1) := by decide +kernel
theorem dX5_join_161 : decode cX5_join 161 = .ok (.lload_n 3, 1) := by decide +kernel
theorem dX5_join_162 : decode cX5_join 162 = .ok (.lcmp, 1) := by decide +kernel
theorem dX5_join_163 : decode cX5_join 163 = .ok (.ifCond .ge 7, 3) := by decide +kernel
theorem dX5_join_166 : decode cX5_join 166 = .ok (.lconst 1, 1) := by decide +kernel
theorem dX5_join_167 : decode cX5_join 167 = .ok (.goto 4, 3) := by decide +kernel
theorem dX5_join_170 : decode cX5_join 170 = .ok (.lconst 0, 1) := by decide +kernel
theorem dX5_join_171 : decode cX5_join 171 = .ok (.lreturn, 1) := by decide +kernel
theorem dX5_join_172 : decode cX5_join 172 = .ok (.lload_n 1, 1) := by decide +kernel
theorem dX5_join_173 : decode cX5_join 173 = .ok (.lload_n 3, 1) := by decide +kernel
theorem dX5_join_174 : decode cX5_join 174 = .ok (.lcmp, 1) := by decide +kernel
theorem dX5_join_175 : decode cX5_join 175 = .ok (.ifCond .gt 7, 3) := by decide +kernel
theorem dX5_join_178 : decode cX5_join 178 = .ok (.lconst 1, 1) := by decide +kernel
theorem dX5_join_179 : decode cX5_join 179 = .ok (.goto 4, 3) := by decide +kernel
theorem dX5_join_182 : decode cX5_join 182 = .ok (.lconst 0, 1) := by decide +kernel
theorem dX5_join_183 : decode cX5_join 183 = .ok (.lreturn, 1) := by decide +kernel
theorem dX5_join_184 : decode cX5_join 184 = .ok (.lload_n 1, 1) := by decide +kernel
theorem dX5_join_185 : decode cX5_join 185 = .ok (.lload_n 3, 1) := by decide +kernel
theorem dX5_join_186 : decode cX5_join 186 = .ok (.lcmp, 1) := by decide +kernel
theorem dX5_join_187 : decode cX5_join 187 = .ok (.ifCond .ne 7, 3) := by decide +kernel
theorem dX5_join_190 : decode cX5_join 190 = .ok (.lconst 1, 1) := by decide +kernel
theorem dX5_join_191 : decode cX5_join 191 = .ok (.goto 4, 3) := by decide +kernel
theorem dX5_join_194 : decode cX5_join 194 = .ok (.lconst 0, 1) := by decide +kernel
theorem dX5_join_195 : decode cX5_join 195 = .ok (.lreturn, 1) := by decide +kernel
theorem dX5_join_196 : decode cX5_join 196 = .ok (.lload_n 1, 1) := by decide +kernel
theorem dX5_join_197 : decode cX5_join 197 = .ok (.lload_n 3, 1) := by decide +kernel
theorem dX5_join_198 : decode cX5_join 198 = .ok (.lcmp, 1) := by decide +kernel
theorem dX5_join_199 : decode cX5_join 199 = .ok (.ifCond .eq 7, 3) := by decide +kernel
theorem dX5_join_202 : decode cX5_join 202 = .ok (.lconst 1, 1) := by decide +kernel
theorem dX5_join_203 : decode cX5_join 203 = .ok (.goto 4, 3) := by decide +kernel
theorem dX5_join_206 : decode cX5_join 206 = .ok (.lconst 0, 1) := by decide +kernel
theorem dX5_join_207 : decode cX5_join 207 = .ok (.lreturn, 1) := by decide +kernel
theorem dX5_join_208 : decode cX5_join 208 = .ok (.lload_n 1, 1) := by decide +kernel
theorem dX5_join_209 : decode cX5_join 209 = .ok (.lload_n 3, 1) := by decide +kernel
theorem dX5_join_210 : decode cX5_join 210 = .ok (.lcmp, 1) := by decide +kernel
theorem dX5_join_211 : decode cX5_join 211 = .ok (.ifCond .lt 7, 3) := by decide +kernel
theorem dX5_join_214 : decode cX5_join 214 = .ok (.lconst 1, 1) := by decide +kernel
theorem dX5_join_215 : decode cX5_join 215 = .ok (.goto 4, 3) := by decide +kernel
theorem dX5_join_218 : decode cX5_join 218 = .ok (.lconst 0, 1) := by decide +kernel
theorem dX5_join_219 : decode cX5_join 219 = .ok (.lreturn, 1) := by decide +kernel
theorem dX5_join_220 : decode cX5_join 220 = .ok (.lload_n 1, 1) := by decide +kernel
theorem dX5_join_221 : decode cX5_join 221 = .ok (.lload_n 3, 1) := by decide +kernel
theorem dX5_join_222 : decode cX5_join 222 = .ok (.lcmp, 1) := by decide +kernel
theorem dX5_join_223 : decode cX5_join 223 = .ok (.ifCond .le 7, 3) := by decide +kernel
theorem dX5_join_226 : decode cX5_join 226 = .ok (.lconst 1, 1) := by decide +kernel
theorem dX5_join_227 : decode cX5_join 227 = .ok (.goto 4, 3) := by decide +kernel
theorem dX5_join_230 : decode cX5_join 230 = .ok (.lconst 0, 1) := by decide +kernel
theorem dX5_join_231 : decode cX5_join 231 = .ok (.lreturn, 1) := by decide +kernel
theorem dX5_pop_0 : decode cX5_pop 0 = .ok (.aload_n 0, 1) := by decide +kernel
theorem dX5_pop_1 : decode cX5_pop 1 = .ok (.getfield 18, 3) := by decide +kernel
theorem dX5_pop_4 : decode cX5_pop 4 = .ok (.ifCond .ne 5, 3) := by decide +kernel
theorem dX5_pop_7 : decode cX5_pop 7 = .ok (.lconst 0, 1) := by decide +kernel
theorem dX5_pop_8 : decode cX5_pop 8 = .ok (.lreturn, 1) := by decide +kernel
theorem dX5_pop_9 : decode cX5_pop 9 = .ok (.aload_n 0, 1) := by decide +kernel
theorem dX5_pop_10 : decode cX5_pop 10 = .ok (.dup, 1) := by decide +kernel
theorem dX5_pop_11 : decode cX5_pop 11 = .ok (.getfield 18, 3) := by decide +kernel
theorem dX5_pop_14 : decode cX5_pop 14 = .ok (.iconst 1, 1) := by decide +kernel
theorem dX5_pop_15 : decode cX5_pop 15 = .ok (.isub, 1) := by decide +kernel
theorem dX5_pop_16 : decode cX5_pop 16 = .ok (.putfield 18, 3) := by decide +kernel
theorem dX5_pop_19 : decode cX5_pop 19 = .ok (.aload_n 0, 1) := by decide +kernel
theorem dX5_pop_20 : decode cX5_pop 20 = .ok (.getfield 15, 3) := by decide +kernel
theorem dX5_pop_23 : decode cX5_pop 23 = .ok (.aload_n 0, 1) := by decide +kernel
theorem dX5_pop_24 : decode cX5_pop 24 = .ok (.getfield 18, 3) := by decide +kernel
theorem dX5_pop_27 : decode cX5_pop 27 = .ok (.laload, 1) := by decide +kernel
theorem dX5_pop_28 : decode cX5_pop 28 = .ok (.lreturn, 1) := by decide +kernel
theorem dX5_push_0 : decode cX5_push 0 = .ok (.aload_n 0, 1) := by decide +kernel
theorem dX5_push_1 : decode cX5_push 1 = .ok (.dup, 1) := by decide +kernel
theorem dX5_push_2 : decode cX5_push 2 = .ok (.getfield 22, 3) := by decide +kernel
theorem dX5_push_5 : decode cX5_push 5 = .ok (.lload_n 1, 1) := by decide +kernel
theorem dX5_push_6 : decode cX5_push 6 = .ok (.ldc2_w 155, 3) := by decide +kernel
theorem dX5_push_9 : decode cX5_push 9 = .ok (.lcmp, 1) := by decide +kernel
theorem dX5_push_10 : decode cX5_push 10 = .ok (.ifCond .gt 11, 3) := by decide +kernel
theorem dX5_push_13 : decode cX5_push 13 = .ok (.lload_n 1, 1) := by decide +kernel
theorem dX5_push_14 : decode cX5_push 14 = .ok (.ldc2_w 157, 3) := by decide +kernel
theorem dX5_push_17 : decode cX5_push 17 = .ok (.lcmp, 1) := by decide +kernel
theorem dX5_push_18 : decode cX5_push 18 = .ok (.ifCond .ge 7, 3) := by decide +kernel
theorem dX5_push_21 : decode cX5_push 21 = .ok (.iconst 1, 1) := by decide +kernel
theorem dX5_push_22 : decode cX5_push 22 = .ok (.goto 4, 3) := by decide +kernel
theorem dX5_push_25 : decode cX5_push 25 = .ok (.iconst 0, 1) := by decide +kernel
theorem dX5_push_26 : decode cX5_push 26 = .ok (.ior, 1) := by decide +kernel
theorem dX5_push_27 : decode cX5_push 27 = .ok (.putfield 22, 3) := by decide +kernel
theorem dX5_push_30 : decode cX5_push 30 = .ok (.aload_n 0, 1) := by decide +kernel
theorem dX5_push_31 : decode cX5_push 31 = .ok (.getfield 18, 3) := by decide +kernel
theorem dX5_push_34 : decode cX5_push 34 = .ok (.aload_n 0, 1) := by decide +kernel
theorem dX5_push_35 : decode cX5_push 35 = .ok (.getfield 15, 3) := by decide +kernel
theorem dX5_push_38 : decode cX5_push 38 = .ok (.arraylength, 1) := by decide +kernel
theorem dX5_push_39 : decode cX5_push 39 = .ok (.if_icmp .ge 23, 3) := by decide +kernel
theorem dX5_push_42 : decode cX5_push 42 = .ok (.aload_n 0, 1) := by decide +kernel
theorem dX5_push_43 : decode cX5_push 43 = .ok (.getfield 15, 3) := by decide +kernel
theorem dX5_push_46 : decode cX5_push 46 = .ok (.aload_n 0, 1) := by decide +kernel
theorem dX5_push_47 : decode cX5_push 47 = .ok (.getfield 18, 3) := by decide +kernel
theorem dX5_push_50 : decode cX5_push 50 = .ok (.lload_n 1, 1) := by decide +kernel
theorem dX5_push_51 : decode cX5_push 51 = .ok (.lastore, 1) := by decide +kernel
theorem dX5_push_52 : decode cX5_push 52 = .ok (.aload_n 0, 1) := by decide +kernel
theorem dX5_push_53 : decode cX5_push 53 = .ok (.dup, 1) := by decide +kernel
theorem dX5_push_54 : decode cX5_push 54 = .ok (.getfield 18, 3) := by decide +kernel
theorem dX5_push_57 : decode cX5_push 57 = .ok (.iconst 1, 1) := by decide +kernel
theorem dX5_push_58 : decode cX5_push 58 = .ok (.iadd, 1) := by decide +kernel
theorem dX5_push_59 : decode cX5_push 59 = .ok (.putfield 18, 3) := by decide +kernel
theorem dX5_push_62 : decode cX5_push 62 = .ok (.return_, 1) := by decide +kernel
theorem dX5_reckon_0 : decode cX5_reckon 0 = .ok (.aload_n 0, 1) := by decide +kernel
theorem dX5_reckon_1 : decode cX5_reckon 1 = .ok (.getfield 26, 3) := by decide +kernel
theorem dX5_reckon_4 : decode cX5_reckon 4 = .ok (.getfield 106, 3) := by decide +kernel
theorem dX5_reckon_7 : decode cX5_reckon 7 = .ok (.astore 4, 2) := by decide +kernel
theorem dX5_reckon_9 : decode cX5_reckon 9 = .ok (.aload 4, 2) := by decide +kernel
theorem dX5_reckon_11 : decode cX5_reckon 11 = .ok (.iload_n 1, 1) := by decide +kernel
theorem dX5_reckon_12 : decode cX5_reckon 12 = .ok (.invokevirtual 110, 3) := by decide +kernel
theorem dX5_reckon_15 : decode cX5_reckon 15 = .ok (.ifCond .ne 5, 3) := by decide +kernel
theorem dX5_reckon_18 : decode cX5_reckon 18 = .ok (.iload_n 3, 1) := by decide +kernel
theorem dX5_reckon_19 : decode cX5_reckon 19 = .ok (.ireturn, 1) := by decide +kernel
theorem dX5_reckon_20 : decode cX5_reckon 20 = .ok (.aload_n 0, 1) := by decide +kernel
theorem dX5_reckon_21 : decode cX5_reckon 21 = .ok (.iconst 0, 1) := by decide +kernel
theorem dX5_reckon_22 : decode cX5_reckon 22 = .ok (.putfield 18, 3) := by decide +kernel
theorem dX5_reckon_25 : decode cX5_reckon 25 = .ok (.aload_n 0, 1) := by decide +kernel
theorem dX5_reckon_26 : decode cX5_reckon 26 = .ok (.iconst 0, 1) := by decide +kernel
theorem dX5_reckon_27 : decode cX5_reckon 27 = .ok (.putfield 22, 3) := by decide +kernel
theorem dX5_reckon_30 : decode cX5_reckon 30 = .ok (.aload 4, 2) := by decide +kernel
theorem dX5_reckon_32 : decode cX5_reckon 32 = .ok (.getfield 115, 3) := by decide +kernel
theorem dX5_reckon_35 : decode cX5_reckon 35 = .ok (.iload_n 1, 1) := by decide +kernel
theorem dX5_reckon_36 : decode cX5_reckon 36 = .ok (.iaload, 1) := by decide +kernel
theorem dX5_reckon_37 : decode cX5_reckon 37 = .ok (.istore 5, 2) := by decide +kernel
theorem dX5_reckon_39 : decode cX5_reckon 39 = .ok (.iload 5, 2) := by decide +kernel
theorem dX5_reckon_41 : decode cX5_reckon 41 = .ok (.aload 4, 2) := by decide +kernel
theorem dX5_reckon_43 : decode cX5_reckon 43 = .ok (.getfield 118, 3) := by decide +kernel
theorem dX5_reckon_46 : decode cX5_reckon 46 = .ok (.iload_n 1, 1) := by decide +kernel
theorem dX5_reckon_47 : decode cX5_reckon 47 = .ok (.iaload, 1) := by decide +kernel
theorem dX5_reckon_48 : decode cX5_reckon 48 = .ok (.if_icmp .ge 36, 3) := by decide +kernel
theorem dX5_reckon_51 : decode cX5_reckon 51 = .ok (.aload_n 0, 1) := by decide +kernel
theorem dX5_reckon_52 : decode cX5_reckon 52 = .ok (.getfield 22, 3) := by decide +kernel
theorem dX5_reckon_55 : decode cX5_reckon 55 = .ok (.ifCond .ne 29, 3) := by decide +kernel
theorem dX5_reckon_58 : decode cX5_reckon 58 = .ok (.aload_n 0, 1) := by decide +kernel
theorem dX5_reckon_59 : decode cX5_reckon 59 = .ok (.aload 4, 2) := by decide +kernel
theorem dX5_reckon_61 : decode cX5_reckon 61 = .ok (.getfield 121, 3) := by decide +kernel
theorem dX5_reckon_64 : decode cX5_reckon 64 = .ok (.iload 5, 2) := by decide +kernel
theorem dX5_reckon_66 : decode cX5_reckon 66 = .ok (.iaload, 1) := by decide +kernel
theorem dX5_reckon_67 : decode cX5_reckon 67 = .ok (.aload 4, 2) := by decide +kernel
theorem dX5_reckon_69 : decode cX5_reckon 69 = .ok (.getfield 124, 3) := by decide +kernel
theorem dX5_reckon_72 : decode cX5_reckon 72 = .ok (.iload 5, 2) := by decide +kernel
theorem dX5_reckon_74 : decode cX5_reckon 74 = .ok (.iaload, 1) := by decide +kernel
theorem dX5_reckon_75 : decode cX5_reckon 75 = .ok (.invokevirtual 127, 3) := by decide +kernel
theorem dX5_reckon_78 : decode cX5_reckon 78 = .ok (.iinc 5 1, 3) := by decide +kernel
theorem dX5_reckon_81 : decode cX5_reckon 81 = .ok (.goto (-42), 3) := by decide +kernel
theorem dX5_reckon_84 : decode cX5_reckon 84 = .ok (.aload_n 0, 1) := by decide +kernel
theorem dX5_reckon_85 : decode cX5_reckon 85 = .ok (.getfield 22, 3) := by decide +kernel
theorem dX5_reckon_88 : decode cX5_reckon 88 = .ok (.ifCond .eq 5, 3) := by decide +kernel
theorem dX5_reckon_91 : decode cX5_reckon 91 = .ok (.iload_n 3, 1) := by decide +kernel
theorem dX5_reckon_92 : decode cX5_reckon 92 = .ok (.ireturn, 1) := by decide +kernel
theorem dX5_reckon_93 : decode cX5_reckon 93 = .ok (.lconst 0, 1) := by decide +kernel
theorem dX5_reckon_94 : decode cX5_reckon 94 = .ok (.iload_n 2, 1) := by decide +kernel
theorem dX5_reckon_95 : decode cX5_reckon 95 = .ok (.i2l, 1) := by decide +kernel
theorem dX5_reckon_96 : decode cX5_reckon 96 = .ok (.aload_n 0, 1) := by decide +kernel
theorem dX5_reckon_97 : decode cX5_reckon 97 = .ok (.invokevirtual 131, 3) := by decide +kernel
theorem dX5_reckon_100 : decode cX5_reckon 100 = .ok (.invokestatic 135, 3) := by decide +kernel
theorem dX5_reckon_103 : decode cX5_reckon 103 = .ok (.invokestatic 138, 3) := by decide +kernel
theorem dX5_reckon_106 : decode cX5_reckon 106 = .ok (.l2i, 1) := by decide +kernel
theorem dX5_reckon_107 : decode cX5_reckon 107 = .ok (.ireturn, 1) := by decide +kernel
theorem dX5_scale_0 : decode cX5_scale 0 = .ok (.iload_n 1, 1) := by decide +kernel
theorem dX5_scale_1 : decode cX5_scale 1 = .ok (.bipush 16, 2) := by decide +kernel
theorem dX5_scale_3 : decode cX5_scale 3 = .ok (.if_icmp .ne 40, 3) := by decide +kernel
theorem dX5_scale_6 : decode cX5_scale 6 = .ok (.aload_n 0, 1) := by decide +kernel
theorem dX5_scale_7 : decode cX5_scale 7 = .ok (.dup, 1) := by decide +kernel
theorem dX5_scale_8 : decode cX5_scale 8 = .ok (.getfield 22, 3) := by decide +kernel
theorem dX5_scale_11 : decode cX5_scale 11 = .ok (.lload 4, 2) := by decide +kernel
theorem dX5_scale_13 : decode cX5_scale 13 = .ok (.lconst 0, 1) := by decide +kernel
theorem dX5_scale_14 : decode cX5_scale 14 = .ok (.lcmp, 1) := by decide +kernel
theorem dX5_scale_15 : decode cX5_scale 15 = .ok (.ifCond .ne 7, 3) := by decide +kernel
theorem dX5_scale_18 : decode cX5_scale 18 = .ok (.iconst 1, 1) := by decide +kernel
theorem dX5_scale_19 : decode cX5_scale 19 = .ok (.goto 4, 3) := by decide +kernel
theorem dX5_scale_22 : decode cX5_scale 22 = .ok (.iconst 0, 1) := by decide +kernel
theorem dX5_scale_23 : decode cX5_scale 23 = .ok (.ior, 1) := by decide +kernel
theorem dX5_scale_24 : decode cX5_scale 24 = .ok (.putfield 22, 3) := by decide +kernel
theorem dX5_scale_27 : decode cX5_scale 27 = .ok (.lload 4, 2) := by decide +kernel
theorem dX5_scale_29 : decode cX5_scale 29 = .ok (.lconst 0, 1) := by decide +kernel
theorem dX5_scale_30 : decode cX5_scale 30 = .ok (.lcmp, 1) := by decide +kernel
theorem dX5_scale_31 : decode cX5_scale 31 = .ok (.ifCond .ne 7, 3) := by decide +kernel
theorem dX5_scale_34 : decode cX5_scale 34 = .ok (.lconst 0, 1) := by decide +kernel
theorem dX5_scale_35 : decode cX5_scale 35 = .ok (.goto 7, 3) := by decide +kernel
theorem dX5_scale_38 : decode cX5_scale 38 = .ok (.lload_n 2, 1) := by decide +kernel
theorem dX5_scale_39 : decode cX5_scale 39 = .ok (.lload 4, 2) := by decide +kernel
theorem dX5_scale_41 : decode cX5_scale 41 = .ok (.ldiv, 1) := by decide +kernel
theorem dX5_scale_42 : decode cX5_scale 42 = .ok (.lreturn, 1) := by decide +kernel
theorem dX5_scale_43 : decode cX5_scale 43 = .ok (.lload_n 2, 1) := by decide +kernel
theorem dX5_scale_44 : decode cX5_scale 44 = .ok (.lconst 0, 1) := by decide +kernel
theorem dX5_scale_45 : decode cX5_scale 45 = .ok (.lcmp, 1) := by decide +kernel
theorem dX5_scale_46 : decode cX5_scale 46 = .ok (.ifCond .eq 27, 3) := by decide +kernel
theorem dX5_scale_49 : decode cX5_scale 49 = .ok (.lload 4, 2) := by decide +kernel
theorem dX5_scale_51 : decode cX5_scale 51 = .ok (.invokestatic 151, 3) := by decide +kernel
theorem dX5_scale_54 : decode cX5_scale 54 = .ok (.ldc2_w 155, 3) := by decide +kernel
theorem dX5_scale_57 : decode cX5_scale 57 = .ok (.lload_n 2, 1) := by decide +kernel
theorem dX5_scale_58 : decode cX5_scale 58 = .ok (.invokestatic 151, 3) := by decide +kernel
theorem dX5_scale_61 : decode cX5_scale 61 = .ok (.ldiv, 1) := by decide +kernel
theorem dX5_scale_62 : decode cX5_scale 62 = .ok (.lcmp, 1) := by decide +kernel
theorem dX5_scale_63 : decode cX5_scale 63 = .ok (.ifCond .le 10, 3) := by decide +kernel
theorem dX5_scale_66 : decode cX5_scale 66 = .ok (.aload_n 0, 1) := by decide +kernel
theorem dX5_scale_67 : decode cX5_scale 67 = .ok (.iconst 1, 1) := by decide +kernel
theorem dX5_scale_68 : decode cX5_scale 68 = .ok (.putfield 22, 3) := by decide +kernel
theorem dX5_scale_71 : decode cX5_scale 71 = .ok (.lconst 0, 1) := by decide +kernel
theorem dX5_scale_72 : decode cX5_scale 72 = .ok (.lreturn, 1) := by decide +kernel
theorem dX5_scale_73 : decode cX5_scale 73 = .ok (.lload_n 2, 1) := by decide +kernel
theorem dX5_scale_74 : decode cX5_scale 74 = .ok (.lload 4, 2) := by decide +kernel
theorem dX5_scale_76 : decode cX5_scale 76 = .ok (.lmul, 1) := by decide +kernel
theorem dX5_scale_77 : decode cX5_scale 77 = .ok (.lreturn, 1) := by decide +kernel
theorem dX5_setMusic_0 : decode cX5_setMusic 0 = .ok (.aload_n 0, 1) := by decide +kernel
theorem dX5_setMusic_1 : decode cX5_setMusic 1 = .ok (.getfield 9, 3) := by decide +kernel
theorem dX5_setMusic_4 : decode cX5_setMusic 4 = .ok (.iconst 2, 1) := by decide +kernel
theorem dX5_setMusic_5 : decode cX5_setMusic 5 = .ok (.iload_n 1, 1) := by decide +kernel
theorem dX5_setMusic_6 : decode cX5_setMusic 6 = .ok (.i2l, 1) := by decide +kernel
theorem dX5_setMusic_7 : decode cX5_setMusic 7 = .ok (.lastore, 1) := by decide +kernel
theorem dX5_setMusic_8 : decode cX5_setMusic 8 = .ok (.aload_n 0, 1) := by decide +kernel
theorem dX5_setMusic_9 : decode cX5_setMusic 9 = .ok (.getfield 9, 3) := by decide +kernel
theorem dX5_setMusic_12 : decode cX5_setMusic 12 = .ok (.iconst 3, 1) := by decide +kernel
theorem dX5_setMusic_13 : decode cX5_setMusic 13 = .ok (.iload_n 2, 1) := by decide +kernel
theorem dX5_setMusic_14 : decode cX5_setMusic 14 = .ok (.i2l, 1) := by decide +kernel
theorem dX5_setMusic_15 : decode cX5_setMusic 15 = .ok (.lastore, 1) := by decide +kernel
theorem dX5_setMusic_16 : decode cX5_setMusic 16 = .ok (.aload_n 0, 1) := by decide +kernel
theorem dX5_setMusic_17 : decode cX5_setMusic 17 = .ok (.getfield 9, 3) := by decide +kernel
theorem dX5_setMusic_20 : decode cX5_setMusic 20 = .ok (.iconst 4, 1) := by decide +kernel
theorem dX5_setMusic_21 : decode cX5_setMusic 21 = .ok (.iload_n 3, 1) := by decide +kernel
theorem dX5_setMusic_22 : decode cX5_setMusic 22 = .ok (.i2l, 1) := by decide +kernel
theorem dX5_setMusic_23 : decode cX5_setMusic 23 = .ok (.lastore, 1) := by decide +kernel
theorem dX5_setMusic_24 : decode cX5_setMusic 24 = .ok (.aload_n 0, 1) := by decide +kernel
theorem dX5_setMusic_25 : decode cX5_setMusic 25 = .ok (.getfield 9, 3) := by decide +kernel
theorem dX5_setMusic_28 : decode cX5_setMusic 28 = .ok (.bipush 6, 2) := by decide +kernel
theorem dX5_setMusic_30 : decode cX5_setMusic 30 = .ok (.iload 4, 2) := by decide +kernel
theorem dX5_setMusic_32 : decode cX5_setMusic 32 = .ok (.i2l, 1) := by decide +kernel
theorem dX5_setMusic_33 : decode cX5_setMusic 33 = .ok (.lastore, 1) := by decide +kernel
theorem dX5_setMusic_34 : decode cX5_setMusic 34 = .ok (.return_, 1) := by decide +kernel
theorem dX5_setOwner_0 : decode cX5_setOwner 0 = .ok (.aload_n 0, 1) := by decide +kernel
theorem dX5_setOwner_1 : decode cX5_setOwner 1 = .ok (.getfield 9, 3) := by decide +kernel
theorem dX5_setOwner_4 : decode cX5_setOwner 4 = .ok (.iconst 0, 1) := by decide +kernel
theorem dX5_setOwner_5 : decode cX5_setOwner 5 = .ok (.iload_n 1, 1) := by decide +kernel
theorem dX5_setOwner_6 : decode cX5_setOwner 6 = .ok (.i2l, 1) := by decide +kernel
theorem dX5_setOwner_7 : decode cX5_setOwner 7 = .ok (.lastore, 1) := by decide +kernel
theorem dX5_setOwner_8 : decode cX5_setOwner 8 = .ok (.aload_n 0, 1) := by decide +kernel
theorem dX5_setOwner_9 : decode cX5_setOwner 9 = .ok (.getfield 9, 3) := by decide +kernel
theorem dX5_setOwner_12 : decode cX5_setOwner 12 = .ok (.iconst 1, 1) := by decide +kernel
theorem dX5_setOwner_13 : decode cX5_setOwner 13 = .ok (.iload_n 2, 1) := by decide +kernel
theorem dX5_setOwner_14 : decode cX5_setOwner 14 = .ok (.i2l, 1) := by decide +kernel
theorem dX5_setOwner_15 : decode cX5_setOwner 15 = .ok (.lastore, 1) := by decide +kernel
theorem dX5_setOwner_16 : decode cX5_setOwner 16 = .ok (.aload_n 0, 1) := by decide +kernel
theorem dX5_setOwner_17 : decode cX5_setOwner 17 = .ok (.getfield 9, 3) := by decide +kernel
theorem dX5_setOwner_20 : decode cX5_setOwner 20 = .ok (.iconst 5, 1) := by decide +kernel
theorem dX5_setOwner_21 : decode cX5_setOwner 21 = .ok (.iload_n 3, 1) := by decide +kernel
theorem dX5_setOwner_22 : decode cX5_setOwner 22 = .ok (.i2l, 1) := by decide +kernel
theorem dX5_setOwner_23 : decode cX5_setOwner 23 = .ok (.lastore, 1) := by decide +kernel
theorem dX5_setOwner_24 : decode cX5_setOwner 24 = .ok (.return_, 1) := by decide +kernel
theorem dX5_soundBits_0 : decode cX5_soundBits 0 = .ok (.aload_n 0, 1) := by decide +kernel
theorem dX5_soundBits_1 : decode cX5_soundBits 1 = .ok (.getfield 30, 3) := by decide +kernel
theorem dX5_soundBits_4 : decode cX5_soundBits 4 = .ok (.iload_n 2, 1) := by decide +kernel
theorem dX5_soundBits_5 : decode cX5_soundBits 5 = .ok (.invokevirtual 34, 3) := by decide +kernel
theorem dX5_soundBits_8 : decode cX5_soundBits 8 = .ok (.ifCond .eq 7, 3) := by decide +kernel
theorem dX5_soundBits_11 : decode cX5_soundBits 11 = .ok (.iconst 0, 1) := by decide +kernel
theorem dX5_soundBits_12 : decode cX5_soundBits 12 = .ok (.goto 12, 3) := by decide +kernel
theorem dX5_soundBits_15 : decode cX5_soundBits 15 = .ok (.aload_n 0, 1) := by decide +kernel
theorem dX5_soundBits_16 : decode cX5_soundBits 16 = .ok (.getfield 26, 3) := by decide +kernel
theorem dX5_soundBits_19 : decode cX5_soundBits 19 = .ok (.iload_n 1, 1) := by decide +kernel
theorem dX5_soundBits_20 : decode cX5_soundBits 20 = .ok (.iload_n 2, 1) := by decide +kernel
theorem dX5_soundBits_21 : decode cX5_soundBits 21 = .ok (.invokevirtual 40, 3) := by decide +kernel
theorem dX5_soundBits_24 : decode cX5_soundBits 24 = .ok (.ireturn, 1) := by decide +kernel
theorem dX6_init_0 : decode cX6_init 0 = .ok (.aload_n 0, 1) := by decide +kernel
theorem dX6_init_1 : decode cX6_init 1 = .ok (.invokespecial 3, 3) := by decide +kernel
theorem dX6_init_4 : decode cX6_init 4 = .ok (.aload_n 0, 1) := by decide +kernel
theorem dX6_init_5 : decode cX6_init 5 = .ok (.iconst 0, 1) := by decide +kernel
theorem dX6_init_6 : decode cX6_init 6 = .ok (.putfield 9, 3) := by decide +kernel
theorem dX6_init_9 : decode cX6_init 9 = .ok (.aload_n 0, 1) := by decide +kernel
theorem dX6_init_10 : decode cX6_init 10 = .ok (.iload_n 1, 1) := by decide +kernel
theorem dX6_init_11 : decode cX6_init 11 = .ok (.newarray .int, 2) := by decide +kernel
theorem dX6_init_13 : decode cX6_init 13 = .ok (.putfield 15, 3) := by decide +kernel
theorem dX6_init_16 : decode cX6_init 16 = .ok (.return_, 1) := by decide +kernel
theorem dX6_add_0 : decode cX6_add 0 = .ok (.aload_n 0, 1) := by decide +kernel
theorem dX6_add_1 : decode cX6_add 1 = .ok (.invokevirtual 19, 3) := by decide +kernel
theorem dX6_add_4 : decode cX6_add 4 = .ok (.ifCond .eq 5, 3) := by decide +kernel
theorem dX6_add_7 : decode cX6_add 7 = .ok (.iconst (-1), 1) := by decide +kernel
theorem dX6_add_8 : decode cX6_add 8 = .ok (.ireturn, 1) := by decide +kernel
theorem dX6_add_9 : decode cX6_add 9 = .ok (.aload_n 0, 1) := by decide +kernel
theorem dX6_add_10 : decode cX6_add 10 = .ok (.getfield 15, 3) := by decide +kernel
theorem dX6_add_13 : decode cX6_add 13 = .ok (.aload_n 0, 1) := by decide +kernel
theorem dX6_add_14 : decode cX6_add 14 = .ok (.getfield 9, 3) := by decide +kernel
theorem dX6_add_17 : decode cX6_add 17 = .ok (.iload_n 1, 1) := by decide +kernel
theorem dX6_add_18 : decode cX6_add 18 = .ok (.iastore, 1) := by decide +kernel
theorem dX6_add_19 : decode cX6_add 19 = .ok (.aload_n 0, 1) := by decide +kernel
theorem dX6_add_20 : decode cX6_add 20 = .ok (.dup, 1) := by decide +kernel
theorem dX6_add_21 : decode cX6_add 21 = .ok (.getfield 9, 3) := by decide +kernel
theorem dX6_add_24 : decode cX6_add 24 = .ok (.iconst 1, 1) := by decide +kernel
theorem dX6_add_25 : decode cX6_add 25 = .ok (.iadd, 1) := by decide +kernel
theorem dX6_add_26 : decode cX6_add 26 = .ok (.putfield 9, 3) := by decide +kernel
theorem dX6_add_29 : decode cX6_add 29 = .ok (.aload_n 0, 1) := by decide +kernel
theorem dX6_add_30 : decode cX6_add 30 = .ok (.getfield 9, 3) := by decide +kernel
theorem dX6_add_33 : decode cX6_add 33 = .ok (.iconst 1, 1) := by decide +kernel
theorem dX6_add_34 : decode cX6_add 34 = .ok (.isub, 1) := by decide +kernel
theorem dX6_add_35 : decode cX6_add 35 = .ok (.ireturn, 1) := by decide +kernel
theorem dX6_find_0 : decode cX6_find 0 = .ok (.iconst 0, 1) := by decide +kernel
theorem dX6_find_1 : decode cX6_find 1 = .ok (.istore_n 2, 1) := by decide +kernel
theorem dX6_find_2 : decode cX6_find 2 = .ok (.iload_n 2, 1) := by decide +kernel
theorem dX6_find_3 : decode cX6_find 3 = .ok (.aload_n 0, 1) := by decide +kernel
theorem dX6_find_4 : decode cX6_find 4 = .ok (.getfield 9, 3) := by decide +kernel
theorem dX6_find_7 : decode cX6_find 7 = .ok (.if_icmp .ge 21, 3) := by decide +kernel
theorem dX6_find_10 : decode cX6_find 10 = .ok (.aload_n 0, 1) := by decide +kernel
theorem dX6_find_11 : decode cX6_find 11 = .ok (.getfield 15, 3) := by decide +kernel
theorem dX6_find_14 : decode cX6_find 14 = .ok (.iload_n 2, 1) := by decide +kernel
theorem dX6_find_15 : decode cX6_find 15 = .ok (.iaload, 1) := by decide +kernel
theorem dX6_find_16 : decode cX6_find 16 = .ok (.iload_n 1, 1) := by decide +kernel
theorem dX6_find_17 : decode cX6_find 17 = .ok (.if_icmp .ne 5, 3) := by decide +kernel
theorem dX6_find_20 : decode cX6_find 20 = .ok (.iload_n 2, 1) := by decide +kernel
theorem dX6_find_21 : decode cX6_find 21 = .ok (.ireturn, 1) := by decide +kernel
theorem dX6_find_22 : decode cX6_find 22 = .ok (.iinc 2 1, 3) := by decide +kernel
theorem dX6_find_25 : decode cX6_find 25 = .ok (.goto (-23), 3) := by decide +kernel
theorem dX6_find_28 : decode cX6_find 28 = .ok (.iconst (-1), 1) := by decide +kernel
theorem dX6_find_29 : decode cX6_find 29 = .ok (.ireturn, 1) := by decide +kernel
theorem dX6_holds_0 : decode cX6_holds 0 = .ok (.iload_n 1, 1) := by decide +kernel
theorem dX6_holds_1 : decode cX6_holds 1 = .ok (.ifCond .lt 15, 3) := by decide +kernel
theorem dX6_holds_4 : decode cX6_holds 4 = .ok (.iload_n 1, 1) := by decide +kernel
theorem dX6_holds_5 : decode cX6_holds 5 = .ok (.aload_n 0, 1) := by decide +kernel
theorem dX6_holds_6 : decode cX6_holds 6 = .ok (.getfield 9, 3) := by decide +kernel
theorem dX6_holds_9 : decode cX6_holds 9 = .ok (.if_icmp .ge 7, 3) := by decide +kernel
theorem dX6_holds_12 : decode cX6_holds 12 = .ok (.iconst 1, 1) := by decide +kernel
theorem dX6_holds_13 : decode cX6_holds 13 = .ok (.goto 4, 3) := by decide +kernel
theorem dX6_holds_16 : decode cX6_holds 16 = .ok (.iconst 0, 1) := by decide +kernel
theorem dX6_holds_17 : decode cX6_holds 17 = .ok (.ireturn, 1) := by decide +kernel
theorem dX6_isFull_0 : decode cX6_isFull 0 = .ok (.aload_n 0, 1) := by decide +kernel
theorem dX6_isFull_1 : decode cX6_isFull 1 = .ok (.getfield 9, 3) := by decide +kernel
theorem dX6_isFull_4 : decode cX6_isFull 4 = .ok (.aload_n 0, 1) := by decide +kernel
theorem dX6_isFull_5 : decode cX6_isFull 5 = .ok (.getfield 15, 3) := by decide +kernel
theorem dX6_isFull_8 : decode cX6_isFull 8 = .ok (.arraylength, 1) := by decide +kernel
theorem dX6_isFull_9 : decode cX6_isFull 9 = .ok (.if_icmp .lt 7, 3) := by decide +kernel
theorem dX6_isFull_12 : decode cX6_isFull 12 = .ok (.iconst 1, 1) := by decide +kernel
theorem dX6_isFull_13 : decode cX6_isFull 13 = .ok (.goto 4, 3) := by decide +kernel
theorem dX6_isFull_16 : decode cX6_isFull 16 = .ok (.iconst 0, 1) := by decide +kernel
theorem dX6_isFull_17 : decode cX6_isFull 17 = .ok (.ireturn, 1) := by decide +kernel
theorem dX6_take_0 : decode cX6_take 0 = .ok (.aload_n 1, 1) := by decide +kernel
theorem dX6_take_1 : decode cX6_take 1 = .ok (.getfield 15, 3) := by decide +kernel
theorem dX6_take_4 : decode cX6_take 4 = .ok (.iconst 0, 1) := by decide +kernel
theorem dX6_take_5 : decode cX6_take 5 = .ok (.aload_n 0, 1) := by decide +kernel
theorem dX6_take_6 : decode cX6_take 6 = .ok (.getfield 15, 3) := by decide +kernel
theorem dX6_take_9 : decode cX6_take 9 = .ok (.iconst 0, 1) := by decide +kernel
theorem dX6_take_10 : decode cX6_take 10 = .ok (.aload_n 0, 1) := by decide +kernel
theorem dX6_take_11 : decode cX6_take 11 = .ok (.getfield 15, 3) := by decide +kernel
theorem dX6_take_14 : decode cX6_take 14 = .ok (.arraylength, 1) := by decide +kernel
theorem dX6_take_15 : decode cX6_take 15 = .ok (.invokestatic 23, 3) := by decide +kernel
theorem dX6_take_18 : decode cX6_take 18 = .ok (.aload_n 0, 1) := by decide +kernel
theorem dX6_take_19 : decode cX6_take 19 = .ok (.aload_n 1, 1) := by decide +kernel
theorem dX6_take_20 : decode cX6_take 20 = .ok (.getfield 9, 3) := by decide +kernel
theorem dX6_take_23 : decode cX6_take 23 = .ok (.putfield 9, 3) := by decide +kernel
theorem dX6_take_26 : decode cX6_take 26 = .ok (.return_, 1) := by decide +kernel
theorem dX7_init_0 : decode cX7_init 0 = .ok (.aload_n 0, 1) := by decide +kernel
theorem dX7_init_1 : decode cX7_init 1 = .ok (.invokespecial 3, 3) := by decide +kernel
theorem dX7_init_4 : decode cX7_init 4 = .ok (.aload_n 0, 1) := by decide +kernel
theorem dX7_init_5 : decode cX7_init 5 = .ok (.iconst 4, 1) := by decide +kernel
theorem dX7_init_6 : decode cX7_init 6 = .ok (.newarray .int, 2) := by decide +kernel
theorem dX7_init_8 : decode cX7_init 8 = .ok (.putfield 9, 3) := by decide +kernel
theorem dX7_init_11 : decode cX7_init 11 = .ok (.aload_n 0, 1) := by decide +kernel
theorem dX7_init_12 : decode cX7_init 12 = .ok (.iconst 4, 1) := by decide +kernel
theorem dX7_init_13 : decode cX7_init 13 = .ok (.newarray .int, 2) := by decide +kernel
theorem dX7_init_15 : decode cX7_init 15 = .ok (.putfield 15, 3) := by decide +kernel
theorem dX7_init_18 : decode cX7_init 18 = .ok (.aload_n 0, 1) := by decide +kernel
theorem dX7_init_19 : decode cX7_init 19 = .ok (.iconst 3, 1) := by decide +kernel
theorem dX7_init_20 : decode cX7_init 20 = .ok (.newarray .int, 2) := by decide +kernel
theorem dX7_init_22 : decode cX7_init 22 = .ok (.putfield 18, 3) := by decide +kernel
theorem dX7_init_25 : decode cX7_init 25 = .ok (.aload_n 0, 1) := by decide +kernel
theorem dX7_init_26 : decode cX7_init 26 = .ok (.aload_n 1, 1) := by decide +kernel
theorem dX7_init_27 : decode cX7_init 27 = .ok (.putfield 21, 3) := by decide +kernel
theorem dX7_init_30 : decode cX7_init 30 = .ok (.aload_n 0, 1) := by decide +kernel
theorem dX7_init_31 : decode cX7_init 31 = .ok (.aload_n 2, 1) := by decide +kernel
theorem dX7_init_32 : decode cX7_init 32 = .ok (.putfield 25, 3) := by decide +kernel
theorem dX7_init_35 : decode cX7_init 35 = .ok (.aload_n 0, 1) := by decide +kernel
theorem dX7_init_36 : decode cX7_init 36 = .ok (.aload_n 3, 1) := by decide +kernel
theorem dX7_init_37 : decode cX7_init 37 = .ok (.putfield 29, 3) := by decide +kernel
theorem dX7_init_40 : decode cX7_init 40 = .ok (.return_, 1) := by decide +kernel
theorem dX7_hold_0 : decode cX7_hold 0 = .ok (.aload_n 0, 1) := by decide +kernel
theorem dX7_hold_1 : decode cX7_hold 1 = .ok (.getfield 25, 3) := by decide +kernel
theorem dX7_hold_4 : decode cX7_hold 4 = .ok (.getfield 33, 3) := by decide +kernel
theorem dX7_hold_7 : decode cX7_hold 7 = .ok (.iconst 0, 1) := by decide +kernel
theorem dX7_hold_8 : decode cX7_hold 8 = .ok (.aload_n 0, 1) := by decide +kernel
theorem dX7_hold_9 : decode cX7_hold 9 = .ok (.getfield 18, 3) := by decide +kernel
theorem dX7_hold_12 : decode cX7_hold 12 = .ok (.iconst 0, 1) := by decide +kernel
theorem dX7_hold_13 : decode cX7_hold 13 = .ok (.aload_n 0, 1) := by decide +kernel
theorem dX7_hold_14 : decode cX7_hold 14 = .ok (.getfield 18, 3) := by decide +kernel
theorem dX7_hold_17 : decode cX7_hold 17 = .ok (.arraylength, 1) := by decide +kernel
theorem dX7_hold_18 : decode cX7_hold 18 = .ok (.invokestatic 38, 3) := by decide +kernel
theorem dX7_hold_21 : decode cX7_hold 21 = .ok (.iconst 0, 1) := by decide +kernel
theorem dX7_hold_22 : decode cX7_hold 22 = .ok (.istore_n 2, 1) := by decide +kernel
theorem dX7_hold_23 : decode cX7_hold 23 = .ok (.iconst 0, 1) := by decide +kernel
theorem dX7_hold_24 : decode cX7_hold 24 = .ok (.istore_n 3, 1) := by decide +kernel
theorem dX7_hold_25 : decode cX7_hold 25 = .ok (.iload_n 3, 1) := by decide +kernel
theorem dX7_hold_26 : decode cX7_hold 26 = .ok (.aload_n 0, 1) := by decide +kernel
theorem dX7_hold_27 : decode cX7_hold 27 = .ok (.getfield 21, 3) := by decide +kernel
theorem dX7_hold_30 : decode cX7_hold 30 = .ok (.getfield 44, 3) := by decide +kernel
theorem dX7_hold_33 : decode cX7_hold 33 = .ok (.getfield 50, 3) := by decide +kernel
theorem dX7_hold_36 : decode cX7_hold 36 = .ok (.if_icmp .ge 45, 3) := by decide +kernel
theorem dX7_hold_39 : decode cX7_hold 39 = .ok (.aload_n 0, 1) := by decide +kernel
theorem dX7_hold_40 : decode cX7_hold 40 = .ok (.getfield 9, 3) := by decide +kernel
theorem dX7_hold_43 : decode cX7_hold 43 = .ok (.iload_n 3, 1) := by decide +kernel
theorem dX7_hold_44 : decode cX7_hold 44 = .ok (.iconst (-1), 1) := by decide +kernel
theorem dX7_hold_45 : decode cX7_hold 45 = .ok (.iastore, 1) := by decide +kernel
theorem dX7_hold_46 : decode cX7_hold 46 = .ok (.aload_n 0, 1) := by decide +kernel
theorem dX7_hold_47 : decode cX7_hold 47 = .ok (.getfield 15, 3) := by decide +kernel
theorem dX7_hold_50 : decode cX7_hold 50 = .ok (.iload_n 3, 1) := by decide +kernel
theorem dX7_hold_51 : decode cX7_hold 51 = .ok (.iconst 0, 1) := by decide +kernel
theorem dX7_hold_52 : decode cX7_hold 52 = .ok (.iastore, 1) := by decide +kernel
theorem dX7_hold_53 : decode cX7_hold 53 = .ok (.iload_n 1, 1) := by decide +kernel
theorem dX7_hold_54 : decode cX7_hold 54 = .ok (.iload_n 3, 1) := by decide +kernel
theorem dX7_hold_55 : decode cX7_hold 55 = .ok (.ishr, 1) := by decide +kernel
theorem dX7_hold_56 : decode cX7_hold 56 = .ok (.iconst 1, 1) := by decide +kernel
theorem dX7_hold_57 : decode cX7_hold 57 = .ok (.iand, 1) := by decide +kernel
theorem dX7_hold_58 : decode cX7_hold 58 = .ok (.ifCond .eq 17, 3) := by decide +kernel
theorem dX7_hold_61 : decode cX7_hold 61 = .ok (.aload_n 0, 1) := by decide +kernel
theorem dX7_hold_62 : decode cX7_hold 62 = .ok (.iload_n 3, 1) := by decide +kernel
theorem dX7_hold_63 : decode cX7_hold 63 = .ok (.invokevirtual 56, 3) := by decide +kernel
theorem dX7_hold_66 : decode cX7_hold 66 = .ok (.iload_n 2, 1) := by decide +kernel
theorem dX7_hold_67 : decode cX7_hold 67 = .ok (.aload_n 0, 1) := by decide +kernel
