theorem dX7_hold_68 : decode cX7_hold 68 = .ok (.getfield 15, 3) := by decide +kernel
theorem dX7_hold_71 : decode cX7_hold 71 = .ok (.iload_n 3, 1) := by decide +kernel
theorem dX7_hold_72 : decode cX7_hold 72 = .ok (.iaload, 1) := by decide +kernel
theorem dX7_hold_73 : decode cX7_hold 73 = .ok (.iadd, 1) := by decide +kernel
theorem dX7_hold_74 : decode cX7_hold 74 = .ok (.istore_n 2, 1) := by decide +kernel
theorem dX7_hold_75 : decode cX7_hold 75 = .ok (.iinc 3 1, 3) := by decide +kernel
theorem dX7_hold_78 : decode cX7_hold 78 = .ok (.goto (-53), 3) := by decide +kernel
theorem dX7_hold_81 : decode cX7_hold 81 = .ok (.iload_n 2, 1) := by decide +kernel
theorem dX7_hold_82 : decode cX7_hold 82 = .ok (.ireturn, 1) := by decide +kernel
theorem dX7_sellVerse_0 : decode cX7_sellVerse 0 = .ok (.iconst 0, 1) := by decide +kernel
theorem dX7_sellVerse_1 : decode cX7_sellVerse 1 = .ok (.istore_n 2, 1) := by decide +kernel
theorem dX7_sellVerse_2 : decode cX7_sellVerse 2 = .ok (.iconst 0, 1) := by decide +kernel
theorem dX7_sellVerse_3 : decode cX7_sellVerse 3 = .ok (.istore_n 3, 1) := by decide +kernel
theorem dX7_sellVerse_4 : decode cX7_sellVerse 4 = .ok (.iconst (-1), 1) := by decide +kernel
theorem dX7_sellVerse_5 : decode cX7_sellVerse 5 = .ok (.istore 4, 2) := by decide +kernel
theorem dX7_sellVerse_7 : decode cX7_sellVerse 7 = .ok (.iconst 0, 1) := by decide +kernel
theorem dX7_sellVerse_8 : decode cX7_sellVerse 8 = .ok (.istore 5, 2) := by decide +kernel
theorem dX7_sellVerse_10 : decode cX7_sellVerse 10 = .ok (.iload 5, 2) := by decide +kernel
theorem dX7_sellVerse_12 : decode cX7_sellVerse 12 = .ok (.aload_n 0, 1) := by decide +kernel
theorem dX7_sellVerse_13 : decode cX7_sellVerse 13 = .ok (.getfield 21, 3) := by decide +kernel
theorem dX7_sellVerse_16 : decode cX7_sellVerse 16 = .ok (.getfield 60, 3) := by decide +kernel
theorem dX7_sellVerse_19 : decode cX7_sellVerse 19 = .ok (.getfield 50, 3) := by decide +kernel
theorem dX7_sellVerse_22 : decode cX7_sellVerse 22 = .ok (.if_icmp .ge 53, 3) := by decide +kernel
theorem dX7_sellVerse_25 : decode cX7_sellVerse 25 = .ok (.aload_n 0, 1) := by decide +kernel
theorem dX7_sellVerse_26 : decode cX7_sellVerse 26 = .ok (.getfield 29, 3) := by decide +kernel
theorem dX7_sellVerse_29 : decode cX7_sellVerse 29 = .ok (.iload 5, 2) := by decide +kernel
theorem dX7_sellVerse_31 : decode cX7_sellVerse 31 = .ok (.iload_n 1, 1) := by decide +kernel
theorem dX7_sellVerse_32 : decode cX7_sellVerse 32 = .ok (.aload_n 0, 1) := by decide +kernel
theorem dX7_sellVerse_33 : decode cX7_sellVerse 33 = .ok (.getfield 18, 3) := by decide +kernel
theorem dX7_sellVerse_36 : decode cX7_sellVerse 36 = .ok (.iload 5, 2) := by decide +kernel
theorem dX7_sellVerse_38 : decode cX7_sellVerse 38 = .ok (.iaload, 1) := by decide +kernel
theorem dX7_sellVerse_39 : decode cX7_sellVerse 39 = .ok (.invokevirtual 63, 3) := by decide +kernel
theorem dX7_sellVerse_42 : decode cX7_sellVerse 42 = .ok (.istore 6, 2) := by decide +kernel
theorem dX7_sellVerse_44 : decode cX7_sellVerse 44 = .ok (.iload 6, 2) := by decide +kernel
theorem dX7_sellVerse_46 : decode cX7_sellVerse 46 = .ok (.iload_n 2, 1) := by decide +kernel
theorem dX7_sellVerse_47 : decode cX7_sellVerse 47 = .ok (.if_icmp .le 15, 3) := by decide +kernel
theorem dX7_sellVerse_50 : decode cX7_sellVerse 50 = .ok (.iload_n 2, 1) := by decide +kernel
theorem dX7_sellVerse_51 : decode cX7_sellVerse 51 = .ok (.istore_n 3, 1) := by decide +kernel
theorem dX7_sellVerse_52 : decode cX7_sellVerse 52 = .ok (.iload 6, 2) := by decide +kernel
theorem dX7_sellVerse_54 : decode cX7_sellVerse 54 = .ok (.istore_n 2, 1) := by decide +kernel
theorem dX7_sellVerse_55 : decode cX7_sellVerse 55 = .ok (.iload 5, 2) := by decide +kernel
theorem dX7_sellVerse_57 : decode cX7_sellVerse 57 = .ok (.istore 4, 2) := by decide +kernel
theorem dX7_sellVerse_59 : decode cX7_sellVerse 59 = .ok (.goto 10, 3) := by decide +kernel
theorem dX7_sellVerse_62 : decode cX7_sellVerse 62 = .ok (.iload_n 3, 1) := by decide +kernel
theorem dX7_sellVerse_63 : decode cX7_sellVerse 63 = .ok (.iload 6, 2) := by decide +kernel
theorem dX7_sellVerse_65 : decode cX7_sellVerse 65 = .ok (.invokestatic 69, 3) := by decide +kernel
theorem dX7_sellVerse_68 : decode cX7_sellVerse 68 = .ok (.istore_n 3, 1) := by decide +kernel
theorem dX7_sellVerse_69 : decode cX7_sellVerse 69 = .ok (.iinc 5 1, 3) := by decide +kernel
theorem dX7_sellVerse_72 : decode cX7_sellVerse 72 = .ok (.goto (-62), 3) := by decide +kernel
theorem dX7_sellVerse_75 : decode cX7_sellVerse 75 = .ok (.iload 4, 2) := by decide +kernel
theorem dX7_sellVerse_77 : decode cX7_sellVerse 77 = .ok (.iconst (-1), 1) := by decide +kernel
theorem dX7_sellVerse_78 : decode cX7_sellVerse 78 = .ok (.if_icmp .eq 29, 3) := by decide +kernel
theorem dX7_sellVerse_81 : decode cX7_sellVerse 81 = .ok (.aload_n 0, 1) := by decide +kernel
theorem dX7_sellVerse_82 : decode cX7_sellVerse 82 = .ok (.getfield 9, 3) := by decide +kernel
theorem dX7_sellVerse_85 : decode cX7_sellVerse 85 = .ok (.iload_n 1, 1) := by decide +kernel
theorem dX7_sellVerse_86 : decode cX7_sellVerse 86 = .ok (.iload 4, 2) := by decide +kernel
theorem dX7_sellVerse_88 : decode cX7_sellVerse 88 = .ok (.iastore, 1) := by decide +kernel
theorem dX7_sellVerse_89 : decode cX7_sellVerse 89 = .ok (.aload_n 0, 1) := by decide +kernel
theorem dX7_sellVerse_90 : decode cX7_sellVerse 90 = .ok (.getfield 15, 3) := by decide +kernel
theorem dX7_sellVerse_93 : decode cX7_sellVerse 93 = .ok (.iload_n 1, 1) := by decide +kernel
theorem dX7_sellVerse_94 : decode cX7_sellVerse 94 = .ok (.iload_n 3, 1) := by decide +kernel
theorem dX7_sellVerse_95 : decode cX7_sellVerse 95 = .ok (.iastore, 1) := by decide +kernel
theorem dX7_sellVerse_96 : decode cX7_sellVerse 96 = .ok (.aload_n 0, 1) := by decide +kernel
theorem dX7_sellVerse_97 : decode cX7_sellVerse 97 = .ok (.getfield 18, 3) := by decide +kernel
theorem dX7_sellVerse_100 : decode cX7_sellVerse 100 = .ok (.iload 4, 2) := by decide +kernel
theorem dX7_sellVerse_102 : decode cX7_sellVerse 102 = .ok (.dup2, 1) := by decide +kernel
theorem dX7_sellVerse_103 : decode cX7_sellVerse 103 = .ok (.iaload, 1) := by decide +kernel
theorem dX7_sellVerse_104 : decode cX7_sellVerse 104 = .ok (.iload_n 3, 1) := by decide +kernel
theorem dX7_sellVerse_105 : decode cX7_sellVerse 105 = .ok (.isub, 1) := by decide +kernel
theorem dX7_sellVerse_106 : decode cX7_sellVerse 106 = .ok (.iastore, 1) := by decide +kernel
theorem dX7_sellVerse_107 : decode cX7_sellVerse 107 = .ok (.return_, 1) := by decide +kernel
theorem dX8_init_0 : decode cX8_init 0 = .ok (.aload_n 0, 1) := by decide +kernel
theorem dX8_init_1 : decode cX8_init 1 = .ok (.invokespecial 3, 3) := by decide +kernel
theorem dX8_init_4 : decode cX8_init 4 = .ok (.aload_n 0, 1) := by decide +kernel
theorem dX8_init_5 : decode cX8_init 5 = .ok (.iconst 0, 1) := by decide +kernel
theorem dX8_init_6 : decode cX8_init 6 = .ok (.putfield 9, 3) := by decide +kernel
theorem dX8_init_9 : decode cX8_init 9 = .ok (.aload_n 0, 1) := by decide +kernel
theorem dX8_init_10 : decode cX8_init 10 = .ok (.iconst 0, 1) := by decide +kernel
theorem dX8_init_11 : decode cX8_init 11 = .ok (.putfield 15, 3) := by decide +kernel
theorem dX8_init_14 : decode cX8_init 14 = .ok (.aload_n 0, 1) := by decide +kernel
theorem dX8_init_15 : decode cX8_init 15 = .ok (.aload_n 1, 1) := by decide +kernel
theorem dX8_init_16 : decode cX8_init 16 = .ok (.putfield 18, 3) := by decide +kernel
theorem dX8_init_19 : decode cX8_init 19 = .ok (.aload_n 0, 1) := by decide +kernel
theorem dX8_init_20 : decode cX8_init 20 = .ok (.aload_n 2, 1) := by decide +kernel
theorem dX8_init_21 : decode cX8_init 21 = .ok (.putfield 22, 3) := by decide +kernel
theorem dX8_init_24 : decode cX8_init 24 = .ok (.return_, 1) := by decide +kernel
theorem dX8_begin_0 : decode cX8_begin 0 = .ok (.aload_n 1, 1) := by decide +kernel
theorem dX8_begin_1 : decode cX8_begin 1 = .ok (.invokevirtual 158, 3) := by decide +kernel
theorem dX8_begin_4 : decode cX8_begin 4 = .ok (.ifCond .eq 14, 3) := by decide +kernel
theorem dX8_begin_7 : decode cX8_begin 7 = .ok (.aload_n 0, 1) := by decide +kernel
theorem dX8_begin_8 : decode cX8_begin 8 = .ok (.getfield 18, 3) := by decide +kernel
theorem dX8_begin_11 : decode cX8_begin 11 = .ok (.iconst 2, 1) := by decide +kernel
theorem dX8_begin_12 : decode cX8_begin 12 = .ok (.invokevirtual 67, 3) := by decide +kernel
theorem dX8_begin_15 : decode cX8_begin 15 = .ok (.pop, 1) := by decide +kernel
theorem dX8_begin_16 : decode cX8_begin 16 = .ok (.iconst (-1), 1) := by decide +kernel
theorem dX8_begin_17 : decode cX8_begin 17 = .ok (.ireturn, 1) := by decide +kernel
theorem dX8_begin_18 : decode cX8_begin 18 = .ok (.aload_n 0, 1) := by decide +kernel
theorem dX8_begin_19 : decode cX8_begin 19 = .ok (.getfield 18, 3) := by decide +kernel
theorem dX8_begin_22 : decode cX8_begin 22 = .ok (.invokevirtual 152, 3) := by decide +kernel
theorem dX8_begin_25 : decode cX8_begin 25 = .ok (.aload_n 0, 1) := by decide +kernel
theorem dX8_begin_26 : decode cX8_begin 26 = .ok (.getfield 18, 3) := by decide +kernel
theorem dX8_begin_29 : decode cX8_begin 29 = .ok (.getfield 37, 3) := by decide +kernel
theorem dX8_begin_32 : decode cX8_begin 32 = .ok (.iconst 3, 1) := by decide +kernel
theorem dX8_begin_33 : decode cX8_begin 33 = .ok (.if_icmp .eq 14, 3) := by decide +kernel
theorem dX8_begin_36 : decode cX8_begin 36 = .ok (.aload_n 0, 1) := by decide +kernel
theorem dX8_begin_37 : decode cX8_begin 37 = .ok (.getfield 18, 3) := by decide +kernel
theorem dX8_begin_40 : decode cX8_begin 40 = .ok (.iconst 1, 1) := by decide +kernel
theorem dX8_begin_41 : decode cX8_begin 41 = .ok (.invokevirtual 67, 3) := by decide +kernel
theorem dX8_begin_44 : decode cX8_begin 44 = .ok (.pop, 1) := by decide +kernel
theorem dX8_begin_45 : decode cX8_begin 45 = .ok (.iconst (-1), 1) := by decide +kernel
theorem dX8_begin_46 : decode cX8_begin 46 = .ok (.ireturn, 1) := by decide +kernel
theorem dX8_begin_47 : decode cX8_begin 47 = .ok (.aload_n 1, 1) := by decide +kernel
theorem dX8_begin_48 : decode cX8_begin 48 = .ok (.aload_n 0, 1) := by decide +kernel
theorem dX8_begin_49 : decode cX8_begin 49 = .ok (.getfield 18, 3) := by decide +kernel
theorem dX8_begin_52 : decode cX8_begin 52 = .ok (.getfield 164, 3) := by decide +kernel
theorem dX8_begin_55 : decode cX8_begin 55 = .ok (.invokevirtual 167, 3) := by decide +kernel
theorem dX8_begin_58 : decode cX8_begin 58 = .ok (.iconst (-1), 1) := by decide +kernel
theorem dX8_begin_59 : decode cX8_begin 59 = .ok (.if_icmp .eq 14, 3) := by decide +kernel
theorem dX8_begin_62 : decode cX8_begin 62 = .ok (.aload_n 0, 1) := by decide +kernel
theorem dX8_begin_63 : decode cX8_begin 63 = .ok (.getfield 18, 3) := by decide +kernel
theorem dX8_begin_66 : decode cX8_begin 66 = .ok (.iconst 3, 1) := by decide +kernel
theorem dX8_begin_67 : decode cX8_begin 67 = .ok (.invokevirtual 67, 3) := by decide +kernel
theorem dX8_begin_70 : decode cX8_begin 70 = .ok (.pop, 1) := by decide +kernel
theorem dX8_begin_71 : decode cX8_begin 71 = .ok (.iconst (-1), 1) := by decide +kernel
theorem dX8_begin_72 : decode cX8_begin 72 = .ok (.ireturn, 1) := by decide +kernel
theorem dX8_begin_73 : decode cX8_begin 73 = .ok (.aload_n 1, 1) := by decide +kernel
theorem dX8_begin_74 : decode cX8_begin 74 = .ok (.aload_n 0, 1) := by decide +kernel
theorem dX8_begin_75 : decode cX8_begin 75 = .ok (.getfield 18, 3) := by decide +kernel
theorem dX8_begin_78 : decode cX8_begin 78 = .ok (.getfield 164, 3) := by decide +kernel
theorem dX8_begin_81 : decode cX8_begin 81 = .ok (.invokevirtual 171, 3) := by decide +kernel
theorem dX8_begin_84 : decode cX8_begin 84 = .ok (.istore_n 2, 1) := by decide +kernel
theorem dX8_begin_85 : decode cX8_begin 85 = .ok (.aload_n 0, 1) := by decide +kernel
theorem dX8_begin_86 : decode cX8_begin 86 = .ok (.getfield 18, 3) := by decide +kernel
theorem dX8_begin_89 : decode cX8_begin 89 = .ok (.invokevirtual 152, 3) := by decide +kernel
theorem dX8_begin_92 : decode cX8_begin 92 = .ok (.iload_n 2, 1) := by decide +kernel
theorem dX8_begin_93 : decode cX8_begin 93 = .ok (.ireturn, 1) := by decide +kernel
theorem dX8_loneNumber_0 : decode cX8_loneNumber 0 = .ok (.iload_n 1, 1) := by decide +kernel
theorem dX8_loneNumber_1 : decode cX8_loneNumber 1 = .ok (.ifCond .eq 14, 3) := by decide +kernel
theorem dX8_loneNumber_4 : decode cX8_loneNumber 4 = .ok (.aload_n 0, 1) := by decide +kernel
theorem dX8_loneNumber_5 : decode cX8_loneNumber 5 = .ok (.getfield 18, 3) := by decide +kernel
theorem dX8_loneNumber_8 : decode cX8_loneNumber 8 = .ok (.iconst 3, 1) := by decide +kernel
theorem dX8_loneNumber_9 : decode cX8_loneNumber 9 = .ok (.invokevirtual 67, 3) := by decide +kernel
theorem dX8_loneNumber_12 : decode cX8_loneNumber 12 = .ok (.pop, 1) := by decide +kernel
theorem dX8_loneNumber_13 : decode cX8_loneNumber 13 = .ok (.iconst 0, 1) := by decide +kernel
theorem dX8_loneNumber_14 : decode cX8_loneNumber 14 = .ok (.ireturn, 1) := by decide +kernel
theorem dX8_loneNumber_15 : decode cX8_loneNumber 15 = .ok (.aload_n 0, 1) := by decide +kernel
theorem dX8_loneNumber_16 : decode cX8_loneNumber 16 = .ok (.getfield 18, 3) := by decide +kernel
theorem dX8_loneNumber_19 : decode cX8_loneNumber 19 = .ok (.invokevirtual 152, 3) := by decide +kernel
theorem dX8_loneNumber_22 : decode cX8_loneNumber 22 = .ok (.aload_n 0, 1) := by decide +kernel
theorem dX8_loneNumber_23 : decode cX8_loneNumber 23 = .ok (.iconst 0, 1) := by decide +kernel
theorem dX8_loneNumber_24 : decode cX8_loneNumber 24 = .ok (.iload_n 2, 1) := by decide +kernel
theorem dX8_loneNumber_25 : decode cX8_loneNumber 25 = .ok (.invokevirtual 86, 3) := by decide +kernel
theorem dX8_loneNumber_28 : decode cX8_loneNumber 28 = .ok (.ireturn, 1) := by decide +kernel
theorem dX8_number_0 : decode cX8_number 0 = .ok (.aload_n 0, 1) := by decide +kernel
theorem dX8_number_1 : decode cX8_number 1 = .ok (.getfield 18, 3) := by decide +kernel
theorem dX8_number_4 : decode cX8_number 4 = .ok (.getfield 164, 3) := by decide +kernel
theorem dX8_number_7 : decode cX8_number 7 = .ok (.istore_n 3, 1) := by decide +kernel
theorem dX8_number_8 : decode cX8_number 8 = .ok (.aload_n 0, 1) := by decide +kernel
theorem dX8_number_9 : decode cX8_number 9 = .ok (.getfield 18, 3) := by decide +kernel
theorem dX8_number_12 : decode cX8_number 12 = .ok (.getfield 37, 3) := by decide +kernel
theorem dX8_number_15 : decode cX8_number 15 = .ok (.iconst 2, 1) := by decide +kernel
theorem dX8_number_16 : decode cX8_number 16 = .ok (.if_icmp .eq 14, 3) := by decide +kernel
theorem dX8_number_19 : decode cX8_number 19 = .ok (.aload_n 0, 1) := by decide +kernel
theorem dX8_number_20 : decode cX8_number 20 = .ok (.getfield 18, 3) := by decide +kernel
theorem dX8_number_23 : decode cX8_number 23 = .ok (.iconst 1, 1) := by decide +kernel
theorem dX8_number_24 : decode cX8_number 24 = .ok (.invokevirtual 67, 3) := by decide +kernel
theorem dX8_number_27 : decode cX8_number 27 = .ok (.pop, 1) := by decide +kernel
theorem dX8_number_28 : decode cX8_number 28 = .ok (.iload_n 1, 1) := by decide +kernel
theorem dX8_number_29 : decode cX8_number 29 = .ok (.ireturn, 1) := by decide +kernel
theorem dX8_number_30 : decode cX8_number 30 = .ok (.iload_n 3, 1) := by decide +kernel
theorem dX8_number_31 : decode cX8_number 31 = .ok (.iload_n 1, 1) := by decide +kernel
theorem dX8_number_32 : decode cX8_number 32 = .ok (.if_icmp .lt 8, 3) := by decide +kernel
theorem dX8_number_35 : decode cX8_number 35 = .ok (.iload_n 3, 1) := by decide +kernel
theorem dX8_number_36 : decode cX8_number 36 = .ok (.iload_n 2, 1) := by decide +kernel
theorem dX8_number_37 : decode cX8_number 37 = .ok (.if_icmp .le 14, 3) := by decide +kernel
theorem dX8_number_40 : decode cX8_number 40 = .ok (.aload_n 0, 1) := by decide +kernel
theorem dX8_number_41 : decode cX8_number 41 = .ok (.getfield 18, 3) := by decide +kernel
theorem dX8_number_44 : decode cX8_number 44 = .ok (.iconst 2, 1) := by decide +kernel
theorem dX8_number_45 : decode cX8_number 45 = .ok (.invokevirtual 67, 3) := by decide +kernel
theorem dX8_number_48 : decode cX8_number 48 = .ok (.pop, 1) := by decide +kernel
theorem dX8_number_49 : decode cX8_number 49 = .ok (.iload_n 1, 1) := by decide +kernel
theorem dX8_number_50 : decode cX8_number 50 = .ok (.ireturn, 1) := by decide +kernel
theorem dX8_number_51 : decode cX8_number 51 = .ok (.aload_n 0, 1) := by decide +kernel
theorem dX8_number_52 : decode cX8_number 52 = .ok (.getfield 18, 3) := by decide +kernel
theorem dX8_number_55 : decode cX8_number 55 = .ok (.invokevirtual 152, 3) := by decide +kernel
theorem dX8_number_58 : decode cX8_number 58 = .ok (.iload_n 3, 1) := by decide +kernel
theorem dX8_number_59 : decode cX8_number 59 = .ok (.ireturn, 1) := by decide +kernel
theorem dX8_readBaker_0 : decode cX8_readBaker 0 = .ok (.aload_n 0, 1) := by decide +kernel
theorem dX8_readBaker_1 : decode cX8_readBaker 1 = .ok (.aload_n 0, 1) := by decide +kernel
theorem dX8_readBaker_2 : decode cX8_readBaker 2 = .ok (.getfield 22, 3) := by decide +kernel
theorem dX8_readBaker_5 : decode cX8_readBaker 5 = .ok (.getfield 136, 3) := by decide +kernel
theorem dX8_readBaker_8 : decode cX8_readBaker 8 = .ok (.invokevirtual 78, 3) := by decide +kernel
theorem dX8_readBaker_11 : decode cX8_readBaker 11 = .ok (.istore_n 1, 1) := by decide +kernel
theorem dX8_readBaker_12 : decode cX8_readBaker 12 = .ok (.iload_n 1, 1) := by decide +kernel
theorem dX8_readBaker_13 : decode cX8_readBaker 13 = .ok (.iconst (-1), 1) := by decide +kernel
theorem dX8_readBaker_14 : decode cX8_readBaker 14 = .ok (.if_icmp .ne 4, 3) := by decide +kernel
theorem dX8_readBaker_17 : decode cX8_readBaker 17 = .ok (.return_, 1) := by decide +kernel
theorem dX8_readBaker_18 : decode cX8_readBaker 18 = .ok (.aload_n 0, 1) := by decide +kernel
theorem dX8_readBaker_19 : decode cX8_readBaker 19 = .ok (.getfield 22, 3) := by decide +kernel
theorem dX8_readBaker_22 : decode cX8_readBaker 22 = .ok (.getfield 139, 3) := by decide +kernel
theorem dX8_readBaker_25 : decode cX8_readBaker 25 = .ok (.iload_n 1, 1) := by decide +kernel
theorem dX8_readBaker_26 : decode cX8_readBaker 26 = .ok (.aload_n 0, 1) := by decide +kernel
theorem dX8_readBaker_27 : decode cX8_readBaker 27 = .ok (.iconst 0, 1) := by decide +kernel
theorem dX8_readBaker_28 : decode cX8_readBaker 28 = .ok (.sipush 999, 3) := by decide +kernel
theorem dX8_readBaker_31 : decode cX8_readBaker 31 = .ok (.invokevirtual 86, 3) := by decide +kernel
theorem dX8_readBaker_34 : decode cX8_readBaker 34 = .ok (.iastore, 1) := by decide +kernel
theorem dX8_readBaker_35 : decode cX8_readBaker 35 = .ok (.aload_n 0, 1) := by decide +kernel
theorem dX8_readBaker_36 : decode cX8_readBaker 36 = .ok (.getfield 22, 3) := by decide +kernel
theorem dX8_readBaker_39 : decode cX8_readBaker 39 = .ok (.getfield 142, 3) := by decide +kernel
theorem dX8_readBaker_42 : decode cX8_readBaker 42 = .ok (.iconst 2, 1) := by decide +kernel
theorem dX8_readBaker_43 : decode cX8_readBaker 43 = .ok (.iload_n 1, 1) := by decide +kernel
theorem dX8_readBaker_44 : decode cX8_readBaker 44 = .ok (.iadd, 1) := by decide +kernel
theorem dX8_readBaker_45 : decode cX8_readBaker 45 = .ok (.aload_n 0, 1) := by decide +kernel
theorem dX8_readBaker_46 : decode cX8_readBaker 46 = .ok (.getfield 18, 3) := by decide +kernel
theorem dX8_readBaker_49 : decode cX8_readBaker 49 = .ok (.invokevirtual 146, 3) := by decide +kernel
theorem dX8_readBaker_52 : decode cX8_readBaker 52 = .ok (.return_, 1) := by decide +kernel
theorem dX8_readLaw_0 : decode cX8_readLaw 0 = .ok (.aload_n 0, 1) := by decide +kernel
theorem dX8_readLaw_1 : decode cX8_readLaw 1 = .ok (.getfield 18, 3) := by decide +kernel
theorem dX8_readLaw_4 : decode cX8_readLaw 4 = .ok (.invokevirtual 152, 3) := by decide +kernel
theorem dX8_readLaw_7 : decode cX8_readLaw 7 = .ok (.aload_n 0, 1) := by decide +kernel
theorem dX8_readLaw_8 : decode cX8_readLaw 8 = .ok (.getfield 18, 3) := by decide +kernel
theorem dX8_readLaw_11 : decode cX8_readLaw 11 = .ok (.getfield 37, 3) := by decide +kernel
theorem dX8_readLaw_14 : decode cX8_readLaw 14 = .ok (.bipush 28, 2) := by decide +kernel
theorem dX8_readLaw_16 : decode cX8_readLaw 16 = .ok (.if_icmp .eq 25, 3) := by decide +kernel
theorem dX8_readLaw_19 : decode cX8_readLaw 19 = .ok (.aload_n 0, 1) := by decide +kernel
theorem dX8_readLaw_20 : decode cX8_readLaw 20 = .ok (.getfield 18, 3) := by decide +kernel
theorem dX8_readLaw_23 : decode cX8_readLaw 23 = .ok (.getfield 37, 3) := by decide +kernel
theorem dX8_readLaw_26 : decode cX8_readLaw 26 = .ok (.bipush 29, 2) := by decide +kernel
theorem dX8_readLaw_28 : decode cX8_readLaw 28 = .ok (.if_icmp .eq 13, 3) := by decide +kernel
theorem dX8_readLaw_31 : decode cX8_readLaw 31 = .ok (.aload_n 0, 1) := by decide +kernel
theorem dX8_readLaw_32 : decode cX8_readLaw 32 = .ok (.getfield 18, 3) := by decide +kernel
theorem dX8_readLaw_35 : decode cX8_readLaw 35 = .ok (.iconst 1, 1) := by decide +kernel
theorem dX8_readLaw_36 : decode cX8_readLaw 36 = .ok (.invokevirtual 67, 3) := by decide +kernel
theorem dX8_readLaw_39 : decode cX8_readLaw 39 = .ok (.pop, 1) := by decide +kernel
theorem dX8_readLaw_40 : decode cX8_readLaw 40 = .ok (.return_, 1) := by decide +kernel
theorem dX8_readLaw_41 : decode cX8_readLaw 41 = .ok (.aload_n 0, 1) := by decide +kernel
theorem dX8_readLaw_42 : decode cX8_readLaw 42 = .ok (.getfield 18, 3) := by decide +kernel
theorem dX8_readLaw_45 : decode cX8_readLaw 45 = .ok (.getfield 37, 3) := by decide +kernel
theorem dX8_readLaw_48 : decode cX8_readLaw 48 = .ok (.bipush 28, 2) := by decide +kernel
theorem dX8_readLaw_50 : decode cX8_readLaw 50 = .ok (.if_icmp .ne 7, 3) := by decide +kernel
theorem dX8_readLaw_53 : decode cX8_readLaw 53 = .ok (.iconst 0, 1) := by decide +kernel
theorem dX8_readLaw_54 : decode cX8_readLaw 54 = .ok (.goto 4, 3) := by decide +kernel
theorem dX8_readLaw_57 : decode cX8_readLaw 57 = .ok (.iconst 1, 1) := by decide +kernel
theorem dX8_readLaw_58 : decode cX8_readLaw 58 = .ok (.istore_n 1, 1) := by decide +kernel
theorem dX8_readLaw_59 : decode cX8_readLaw 59 = .ok (.aload_n 0, 1) := by decide +kernel
theorem dX8_readLaw_60 : decode cX8_readLaw 60 = .ok (.getfield 22, 3) := by decide +kernel
theorem dX8_readLaw_63 : decode cX8_readLaw 63 = .ok (.getfield 142, 3) := by decide +kernel
theorem dX8_readLaw_66 : decode cX8_readLaw 66 = .ok (.iload_n 1, 1) := by decide +kernel
theorem dX8_readLaw_67 : decode cX8_readLaw 67 = .ok (.invokevirtual 155, 3) := by decide +kernel
theorem dX8_readLaw_70 : decode cX8_readLaw 70 = .ok (.ifCond .eq 13, 3) := by decide +kernel
theorem dX8_readLaw_73 : decode cX8_readLaw 73 = .ok (.aload_n 0, 1) := by decide +kernel
theorem dX8_readLaw_74 : decode cX8_readLaw 74 = .ok (.getfield 18, 3) := by decide +kernel
theorem dX8_readLaw_77 : decode cX8_readLaw 77 = .ok (.iconst 3, 1) := by decide +kernel
theorem dX8_readLaw_78 : decode cX8_readLaw 78 = .ok (.invokevirtual 67, 3) := by decide +kernel
theorem dX8_readLaw_81 : decode cX8_readLaw 81 = .ok (.pop, 1) := by decide +kernel
theorem dX8_readLaw_82 : decode cX8_readLaw 82 = .ok (.return_, 1) := by decide +kernel
theorem dX8_readLaw_83 : decode cX8_readLaw 83 = .ok (.aload_n 0, 1) := by decide +kernel
theorem dX8_readLaw_84 : decode cX8_readLaw 84 = .ok (.getfield 18, 3) := by decide +kernel
theorem dX8_readLaw_87 : decode cX8_readLaw 87 = .ok (.invokevirtual 152, 3) := by decide +kernel
theorem dX8_readLaw_90 : decode cX8_readLaw 90 = .ok (.aload_n 0, 1) := by decide +kernel
theorem dX8_readLaw_91 : decode cX8_readLaw 91 = .ok (.getfield 22, 3) := by decide +kernel
theorem dX8_readLaw_94 : decode cX8_readLaw 94 = .ok (.getfield 142, 3) := by decide +kernel
theorem dX8_readLaw_97 : decode cX8_readLaw 97 = .ok (.iload_n 1, 1) := by decide +kernel
theorem dX8_readLaw_98 : decode cX8_readLaw 98 = .ok (.aload_n 0, 1) := by decide +kernel
theorem dX8_readLaw_99 : decode cX8_readLaw 99 = .ok (.getfield 18, 3) := by decide +kernel
theorem dX8_readLaw_102 : decode cX8_readLaw 102 = .ok (.invokevirtual 146, 3) := by decide +kernel
theorem dX8_readLaw_105 : decode cX8_readLaw 105 = .ok (.return_, 1) := by decide +kernel
theorem dX8_readPart_0 : decode cX8_readPart 0 = .ok (.aload_n 0, 1) := by decide +kernel
theorem dX8_readPart_1 : decode cX8_readPart 1 = .ok (.bipush 27, 2) := by decide +kernel
theorem dX8_readPart_3 : decode cX8_readPart 3 = .ok (.invokevirtual 71, 3) := by decide +kernel
theorem dX8_readPart_6 : decode cX8_readPart 6 = .ok (.ifCond .ne 12, 3) := by decide +kernel
theorem dX8_readPart_9 : decode cX8_readPart 9 = .ok (.aload_n 0, 1) := by decide +kernel
theorem dX8_readPart_10 : decode cX8_readPart 10 = .ok (.getfield 18, 3) := by decide +kernel
theorem dX8_readPart_13 : decode cX8_readPart 13 = .ok (.iconst 1, 1) := by decide +kernel
theorem dX8_readPart_14 : decode cX8_readPart 14 = .ok (.invokevirtual 67, 3) := by decide +kernel
theorem dX8_readPart_17 : decode cX8_readPart 17 = .ok (.pop, 1) := by decide +kernel
theorem dX8_readPart_18 : decode cX8_readPart 18 = .ok (.iconst 0, 1) := by decide +kernel
theorem dX8_readPart_19 : decode cX8_readPart 19 = .ok (.istore_n 2, 1) := by decide +kernel
theorem dX8_readPart_20 : decode cX8_readPart 20 = .ok (.aload_n 0, 1) := by decide +kernel
theorem dX8_readPart_21 : decode cX8_readPart 21 = .ok (.getfield 22, 3) := by decide +kernel
theorem dX8_readPart_24 : decode cX8_readPart 24 = .ok (.getfield 130, 3) := by decide +kernel
theorem dX8_readPart_27 : decode cX8_readPart 27 = .ok (.iload_n 1, 1) := by decide +kernel
theorem dX8_readPart_28 : decode cX8_readPart 28 = .ok (.bipush 8, 2) := by decide +kernel
theorem dX8_readPart_30 : decode cX8_readPart 30 = .ok (.imul, 1) := by decide +kernel
theorem dX8_readPart_31 : decode cX8_readPart 31 = .ok (.iload_n 2, 1) := by decide +kernel
theorem dX8_readPart_32 : decode cX8_readPart 32 = .ok (.iadd, 1) := by decide +kernel
theorem dX8_readPart_33 : decode cX8_readPart 33 = .ok (.aload_n 0, 1) := by decide +kernel
theorem dX8_readPart_34 : decode cX8_readPart 34 = .ok (.iconst 0, 1) := by decide +kernel
theorem dX8_readPart_35 : decode cX8_readPart 35 = .ok (.bipush 40, 2) := by decide +kernel
theorem dX8_readPart_37 : decode cX8_readPart 37 = .ok (.invokevirtual 86, 3) := by decide +kernel
theorem dX8_readPart_40 : decode cX8_readPart 40 = .ok (.iastore, 1) := by decide +kernel
theorem dX8_readPart_41 : decode cX8_readPart 41 = .ok (.iinc 2 1, 3) := by decide +kernel
theorem dX8_readPart_44 : decode cX8_readPart 44 = .ok (.iload_n 2, 1) := by decide +kernel
theorem dX8_readPart_45 : decode cX8_readPart 45 = .ok (.bipush 8, 2) := by decide +kernel
theorem dX8_readPart_47 : decode cX8_readPart 47 = .ok (.if_icmp .ne 23, 3) := by decide +kernel
theorem dX8_readPart_50 : decode cX8_readPart 50 = .ok (.aload_n 0, 1) := by decide +kernel
theorem dX8_readPart_51 : decode cX8_readPart 51 = .ok (.getfield 18, 3) := by decide +kernel
theorem dX8_readPart_54 : decode cX8_readPart 54 = .ok (.getfield 37, 3) := by decide +kernel
theorem dX8_readPart_57 : decode cX8_readPart 57 = .ok (.iconst 2, 1) := by decide +kernel
theorem dX8_readPart_58 : decode cX8_readPart 58 = .ok (.if_icmp .ne 12, 3) := by decide +kernel
theorem dX8_readPart_61 : decode cX8_readPart 61 = .ok (.aload_n 0, 1) := by decide +kernel
theorem dX8_readPart_62 : decode cX8_readPart 62 = .ok (.getfield 18, 3) := by decide +kernel
theorem dX8_readPart_65 : decode cX8_readPart 65 = .ok (.iconst 2, 1) := by decide +kernel
theorem dX8_readPart_66 : decode cX8_readPart 66 = .ok (.invokevirtual 67, 3) := by decide +kernel
theorem dX8_readPart_69 : decode cX8_readPart 69 = .ok (.pop, 1) := by decide +kernel
theorem dX8_readPart_70 : decode cX8_readPart 70 = .ok (.iload_n 2, 1) := by decide +kernel
theorem dX8_readPart_71 : decode cX8_readPart 71 = .ok (.bipush 8, 2) := by decide +kernel
theorem dX8_readPart_73 : decode cX8_readPart 73 = .ok (.if_icmp .ge 14, 3) := by decide +kernel
theorem dX8_readPart_76 : decode cX8_readPart 76 = .ok (.aload_n 0, 1) := by decide +kernel
theorem dX8_readPart_77 : decode cX8_readPart 77 = .ok (.getfield 18, 3) := by decide +kernel
theorem dX8_readPart_80 : decode cX8_readPart 80 = .ok (.getfield 37, 3) := by decide +kernel
theorem dX8_readPart_83 : decode cX8_readPart 83 = .ok (.iconst 2, 1) := by decide +kernel
theorem dX8_readPart_84 : decode cX8_readPart 84 = .ok (.if_icmp .eq (-64), 3) := by decide +kernel
theorem dX8_readPart_87 : decode cX8_readPart 87 = .ok (.aload_n 0, 1) := by decide +kernel
theorem dX8_readPart_88 : decode cX8_readPart 88 = .ok (.getfield 22, 3) := by decide +kernel
theorem dX8_readPart_91 : decode cX8_readPart 91 = .ok (.getfield 133, 3) := by decide +kernel
theorem dX8_readPart_94 : decode cX8_readPart 94 = .ok (.iload_n 1, 1) := by decide +kernel
theorem dX8_readPart_95 : decode cX8_readPart 95 = .ok (.iload_n 2, 1) := by decide +kernel
theorem dX8_readPart_96 : decode cX8_readPart 96 = .ok (.iastore, 1) := by decide +kernel
theorem dX8_readPart_97 : decode cX8_readPart 97 = .ok (.return_, 1) := by decide +kernel
theorem dX8_readTavern_0 : decode cX8_readTavern 0 = .ok (.aload_n 0, 1) := by decide +kernel
theorem dX8_readTavern_1 : decode cX8_readTavern 1 = .ok (.aload_n 0, 1) := by decide +kernel
theorem dX8_readTavern_2 : decode cX8_readTavern 2 = .ok (.getfield 22, 3) := by decide +kernel
theorem dX8_readTavern_5 : decode cX8_readTavern 5 = .ok (.getfield 74, 3) := by decide +kernel
theorem dX8_readTavern_8 : decode cX8_readTavern 8 = .ok (.invokevirtual 78, 3) := by decide +kernel
theorem dX8_readTavern_11 : decode cX8_readTavern 11 = .ok (.istore_n 1, 1) := by decide +kernel
theorem dX8_readTavern_12 : decode cX8_readTavern 12 = .ok (.iload_n 1, 1) := by decide +kernel
theorem dX8_readTavern_13 : decode cX8_readTavern 13 = .ok (.iconst (-1), 1) := by decide +kernel
theorem dX8_readTavern_14 : decode cX8_readTavern 14 = .ok (.if_icmp .ne 4, 3) := by decide +kernel
theorem dX8_readTavern_17 : decode cX8_readTavern 17 = .ok (.return_, 1) := by decide +kernel
theorem dX8_readTavern_18 : decode cX8_readTavern 18 = .ok (.aload_n 0, 1) := by decide +kernel
theorem dX8_readTavern_19 : decode cX8_readTavern 19 = .ok (.getfield 22, 3) := by decide +kernel
theorem dX8_readTavern_22 : decode cX8_readTavern 22 = .ok (.getfield 82, 3) := by decide +kernel
theorem dX8_readTavern_25 : decode cX8_readTavern 25 = .ok (.iload_n 1, 1) := by decide +kernel
theorem dX8_readTavern_26 : decode cX8_readTavern 26 = .ok (.aload_n 0, 1) := by decide +kernel
theorem dX8_readTavern_27 : decode cX8_readTavern 27 = .ok (.iconst 0, 1) := by decide +kernel
theorem dX8_readTavern_28 : decode cX8_readTavern 28 = .ok (.bipush 99, 2) := by decide +kernel
theorem dX8_readTavern_30 : decode cX8_readTavern 30 = .ok (.invokevirtual 86, 3) := by decide +kernel
theorem dX8_readTavern_33 : decode cX8_readTavern 33 = .ok (.iastore, 1) := by decide +kernel
theorem dX8_readTavern_34 : decode cX8_readTavern 34 = .ok (.aload_n 0, 1) := by decide +kernel
theorem dX8_readTavern_35 : decode cX8_readTavern 35 = .ok (.getfield 22, 3) := by decide +kernel
theorem dX8_readTavern_38 : decode cX8_readTavern 38 = .ok (.getfield 90, 3) := by decide +kernel
theorem dX8_readTavern_41 : decode cX8_readTavern 41 = .ok (.iload_n 1, 1) := by decide +kernel
theorem dX8_readTavern_42 : decode cX8_readTavern 42 = .ok (.aload_n 0, 1) := by decide +kernel
theorem dX8_readTavern_43 : decode cX8_readTavern 43 = .ok (.iconst 0, 1) := by decide +kernel
theorem dX8_readTavern_44 : decode cX8_readTavern 44 = .ok (.sipush 9999, 3) := by decide +kernel
theorem dX8_readTavern_47 : decode cX8_readTavern 47 = .ok (.invokevirtual 86, 3) := by decide +kernel
theorem dX8_readTavern_50 : decode cX8_readTavern 50 = .ok (.iastore, 1) := by decide +kernel
theorem dX8_readTavern_51 : decode cX8_readTavern 51 = .ok (.return_, 1) := by decide +kernel
theorem dX8_readVerse_0 : decode cX8_readVerse 0 = .ok (.aload_n 0, 1) := by decide +kernel
theorem dX8_readVerse_1 : decode cX8_readVerse 1 = .ok (.aload_n 0, 1) := by decide +kernel
theorem dX8_readVerse_2 : decode cX8_readVerse 2 = .ok (.getfield 22, 3) := by decide +kernel
theorem dX8_readVerse_5 : decode cX8_readVerse 5 = .ok (.getfield 118, 3) := by decide +kernel
theorem dX8_readVerse_8 : decode cX8_readVerse 8 = .ok (.invokevirtual 78, 3) := by decide +kernel
theorem dX8_readVerse_11 : decode cX8_readVerse 11 = .ok (.istore_n 1, 1) := by decide +kernel
theorem dX8_readVerse_12 : decode cX8_readVerse 12 = .ok (.iload_n 1, 1) := by decide +kernel
theorem dX8_readVerse_13 : decode cX8_readVerse 13 = .ok (.iconst (-1), 1) := by decide +kernel
theorem dX8_readVerse_14 : decode cX8_readVerse 14 = .ok (.if_icmp .ne 4, 3) := by decide +kernel
theorem dX8_readVerse_17 : decode cX8_readVerse 17 = .ok (.return_, 1) := by decide +kernel
theorem dX8_readVerse_18 : decode cX8_readVerse 18 = .ok (.iconst 0, 1) := by decide +kernel
theorem dX8_readVerse_19 : decode cX8_readVerse 19 = .ok (.istore_n 2, 1) := by decide +kernel
theorem dX8_readVerse_20 : decode cX8_readVerse 20 = .ok (.aload_n 0, 1) := by decide +kernel
theorem dX8_readVerse_21 : decode cX8_readVerse 21 = .ok (.iload_n 1, 1) := by decide +kernel
theorem dX8_readVerse_22 : decode cX8_readVerse 22 = .ok (.iload_n 2, 1) := by decide +kernel
theorem dX8_readVerse_23 : decode cX8_readVerse 23 = .ok (.invokestatic 121, 3) := by decide +kernel
theorem dX8_readVerse_26 : decode cX8_readVerse 26 = .ok (.invokevirtual 124, 3) := by decide +kernel
theorem dX8_readVerse_29 : decode cX8_readVerse 29 = .ok (.iinc 2 1, 3) := by decide +kernel
theorem dX8_readVerse_32 : decode cX8_readVerse 32 = .ok (.iload_n 2, 1) := by decide +kernel
theorem dX8_readVerse_33 : decode cX8_readVerse 33 = .ok (.iconst 3, 1) := by decide +kernel
theorem dX8_readVerse_34 : decode cX8_readVerse 34 = .ok (.if_icmp .ne 24, 3) := by decide +kernel
theorem dX8_readVerse_37 : decode cX8_readVerse 37 = .ok (.aload_n 0, 1) := by decide +kernel
theorem dX8_readVerse_38 : decode cX8_readVerse 38 = .ok (.getfield 18, 3) := by decide +kernel
theorem dX8_readVerse_41 : decode cX8_readVerse 41 = .ok (.getfield 37, 3) := by decide +kernel
theorem dX8_readVerse_44 : decode cX8_readVerse 44 = .ok (.bipush 27, 2) := by decide +kernel
theorem dX8_readVerse_46 : decode cX8_readVerse 46 = .ok (.if_icmp .ne 12, 3) := by decide +kernel
theorem dX8_readVerse_49 : decode cX8_readVerse 49 = .ok (.aload_n 0, 1) := by decide +kernel
theorem dX8_readVerse_50 : decode cX8_readVerse 50 = .ok (.getfield 18, 3) := by decide +kernel
theorem dX8_readVerse_53 : decode cX8_readVerse 53 = .ok (.iconst 2, 1) := by decide +kernel
theorem dX8_readVerse_54 : decode cX8_readVerse 54 = .ok (.invokevirtual 67, 3) := by decide +kernel
theorem dX8_readVerse_57 : decode cX8_readVerse 57 = .ok (.pop, 1) := by decide +kernel
theorem dX8_readVerse_58 : decode cX8_readVerse 58 = .ok (.iload_n 2, 1) := by decide +kernel
theorem dX8_readVerse_59 : decode cX8_readVerse 59 = .ok (.iconst 3, 1) := by decide +kernel
theorem dX8_readVerse_60 : decode cX8_readVerse 60 = .ok (.if_icmp .ge 15, 3) := by decide +kernel
theorem dX8_readVerse_63 : decode cX8_readVerse 63 = .ok (.aload_n 0, 1) := by decide +kernel
theorem dX8_readVerse_64 : decode cX8_readVerse 64 = .ok (.getfield 18, 3) := by decide +kernel
theorem dX8_readVerse_67 : decode cX8_readVerse 67 = .ok (.getfield 37, 3) := by decide +kernel
theorem dX8_readVerse_70 : decode cX8_readVerse 70 = .ok (.bipush 27, 2) := by decide +kernel
theorem dX8_readVerse_72 : decode cX8_readVerse 72 = .ok (.if_icmp .eq (-52), 3) := by decide +kernel
theorem dX8_readVerse_75 : decode cX8_readVerse 75 = .ok (.aload_n 0, 1) := by decide +kernel
theorem dX8_readVerse_76 : decode cX8_readVerse 76 = .ok (.getfield 22, 3) := by decide +kernel
theorem dX8_readVerse_79 : decode cX8_readVerse 79 = .ok (.getfield 127, 3) := by decide +kernel
theorem dX8_readVerse_82 : decode cX8_readVerse 82 = .ok (.iload_n 1, 1) := by decide +kernel
theorem dX8_readVerse_83 : decode cX8_readVerse 83 = .ok (.iload_n 2, 1) := by decide +kernel
theorem dX8_readVerse_84 : decode cX8_readVerse 84 = .ok (.iastore, 1) := by decide +kernel
theorem dX8_readVerse_85 : decode cX8_readVerse 85 = .ok (.return_, 1) := by decide +kernel
theorem dX8_readVoice_0 : decode cX8_readVoice 0 = .ok (.aload_n 0, 1) := by decide +kernel
theorem dX8_readVoice_1 : decode cX8_readVoice 1 = .ok (.aload_n 0, 1) := by decide +kernel
theorem dX8_readVoice_2 : decode cX8_readVoice 2 = .ok (.getfield 22, 3) := by decide +kernel
theorem dX8_readVoice_5 : decode cX8_readVoice 5 = .ok (.getfield 93, 3) := by decide +kernel
theorem dX8_readVoice_8 : decode cX8_readVoice 8 = .ok (.invokevirtual 78, 3) := by decide +kernel
theorem dX8_readVoice_11 : decode cX8_readVoice 11 = .ok (.istore_n 1, 1) := by decide +kernel
theorem dX8_readVoice_12 : decode cX8_readVoice 12 = .ok (.iload_n 1, 1) := by decide +kernel
theorem dX8_readVoice_13 : decode cX8_readVoice 13 = .ok (.iconst (-1), 1) := by decide +kernel
theorem dX8_readVoice_14 : decode cX8_readVoice 14 = .ok (.if_icmp .ne 4, 3) := by decide +kernel
theorem dX8_readVoice_17 : decode cX8_readVoice 17 = .ok (.return_, 1) := by decide +kernel
theorem dX8_readVoice_18 : decode cX8_readVoice 18 = .ok (.aload_n 0, 1) := by decide +kernel
theorem dX8_readVoice_19 : decode cX8_readVoice 19 = .ok (.getfield 22, 3) := by decide +kernel
theorem dX8_readVoice_22 : decode cX8_readVoice 22 = .ok (.getfield 96, 3) := by decide +kernel
theorem dX8_readVoice_25 : decode cX8_readVoice 25 = .ok (.iload_n 1, 1) := by decide +kernel
theorem dX8_readVoice_26 : decode cX8_readVoice 26 = .ok (.aload_n 0, 1) := by decide +kernel
theorem dX8_readVoice_27 : decode cX8_readVoice 27 = .ok (.iconst 1, 1) := by decide +kernel
theorem dX8_readVoice_28 : decode cX8_readVoice 28 = .ok (.bipush 40, 2) := by decide +kernel
theorem dX8_readVoice_30 : decode cX8_readVoice 30 = .ok (.invokevirtual 86, 3) := by decide +kernel
theorem dX8_readVoice_33 : decode cX8_readVoice 33 = .ok (.iastore, 1) := by decide +kernel
theorem dX8_readVoice_34 : decode cX8_readVoice 34 = .ok (.aload_n 0, 1) := by decide +kernel
theorem dX8_readVoice_35 : decode cX8_readVoice 35 = .ok (.getfield 22, 3) := by decide +kernel
theorem dX8_readVoice_38 : decode cX8_readVoice 38 = .ok (.getfield 99, 3) := by decide +kernel
theorem dX8_readVoice_41 : decode cX8_readVoice 41 = .ok (.iload_n 1, 1) := by decide +kernel
theorem dX8_readVoice_42 : decode cX8_readVoice 42 = .ok (.aload_n 0, 1) := by decide +kernel
theorem dX8_readVoice_43 : decode cX8_readVoice 43 = .ok (.aload_n 0, 1) := by decide +kernel
theorem dX8_readVoice_44 : decode cX8_readVoice 44 = .ok (.getfield 22, 3) := by decide +kernel
theorem dX8_readVoice_47 : decode cX8_readVoice 47 = .ok (.getfield 96, 3) := by decide +kernel
theorem dX8_readVoice_50 : decode cX8_readVoice 50 = .ok (.iload_n 1, 1) := by decide +kernel
theorem dX8_readVoice_51 : decode cX8_readVoice 51 = .ok (.iaload, 1) := by decide +kernel
theorem dX8_readVoice_52 : decode cX8_readVoice 52 = .ok (.bipush 40, 2) := by decide +kernel
theorem dX8_readVoice_54 : decode cX8_readVoice 54 = .ok (.invokevirtual 86, 3) := by decide +kernel
theorem dX8_readVoice_57 : decode cX8_readVoice 57 = .ok (.iastore, 1) := by decide +kernel
theorem dX8_readVoice_58 : decode cX8_readVoice 58 = .ok (.aload_n 0, 1) := by decide +kernel
theorem dX8_readVoice_59 : decode cX8_readVoice 59 = .ok (.getfield 22, 3) := by decide +kernel
theorem dX8_readVoice_62 : decode cX8_readVoice 62 = .ok (.getfield 102, 3) := by decide +kernel
theorem dX8_readVoice_65 : decode cX8_readVoice 65 = .ok (.iload_n 1, 1) := by decide +kernel
theorem dX8_readVoice_66 : decode cX8_readVoice 66 = .ok (.iconst (-1), 1) := by decide +kernel
theorem dX8_readVoice_67 : decode cX8_readVoice 67 = .ok (.iastore, 1) := by decide +kernel
theorem dX8_readVoice_68 : decode cX8_readVoice 68 = .ok (.aload_n 0, 1) := by decide +kernel
theorem dX8_readVoice_69 : decode cX8_readVoice 69 = .ok (.getfield 22, 3) := by decide +kernel
theorem dX8_readVoice_72 : decode cX8_readVoice 72 = .ok (.getfield 105, 3) := by decide +kernel
theorem dX8_readVoice_75 : decode cX8_readVoice 75 = .ok (.iload_n 1, 1) := by decide +kernel
theorem dX8_readVoice_76 : decode cX8_readVoice 76 = .ok (.iconst 0, 1) := by decide +kernel
theorem dX8_readVoice_77 : decode cX8_readVoice 77 = .ok (.iastore, 1) := by decide +kernel
theorem dX8_readVoice_78 : decode cX8_readVoice 78 = .ok (.aload_n 0, 1) := by decide +kernel
theorem dX8_readVoice_79 : decode cX8_readVoice 79 = .ok (.getfield 22, 3) := by decide +kernel
theorem dX8_readVoice_82 : decode cX8_readVoice 82 = .ok (.getfield 108, 3) := by decide +kernel
theorem dX8_readVoice_85 : decode cX8_readVoice 85 = .ok (.iload_n 1, 1) := by decide +kernel
theorem dX8_readVoice_86 : decode cX8_readVoice 86 = .ok (.iconst 1, 1) := by decide +kernel
theorem dX8_readVoice_87 : decode cX8_readVoice 87 = .ok (.iastore, 1) := by decide +kernel
theorem dX8_readVoice_88 : decode cX8_readVoice 88 = .ok (.aload_n 0, 1) := by decide +kernel
theorem dX8_readVoice_89 : decode cX8_readVoice 89 = .ok (.bipush 24, 2) := by decide +kernel
theorem dX8_readVoice_91 : decode cX8_readVoice 91 = .ok (.invokevirtual 71, 3) := by decide +kernel
theorem dX8_readVoice_94 : decode cX8_readVoice 94 = .ok (.ifCond .eq 18, 3) := by decide +kernel
theorem dX8_readVoice_97 : decode cX8_readVoice 97 = .ok (.aload_n 0, 1) := by decide +kernel
theorem dX8_readVoice_98 : decode cX8_readVoice 98 = .ok (.getfield 22, 3) := by decide +kernel
theorem dX8_readVoice_101 : decode cX8_readVoice 101 = .ok (.dup, 1) := by decide +kernel
theorem dX8_readVoice_102 : decode cX8_readVoice 102 = .ok (.getfield 111, 3) := by decide +kernel
theorem dX8_readVoice_105 : decode cX8_readVoice 105 = .ok (.iconst 1, 1) := by decide +kernel
theorem dX8_readVoice_106 : decode cX8_readVoice 106 = .ok (.iload_n 1, 1) := by decide +kernel
theorem dX8_readVoice_107 : decode cX8_readVoice 107 = .ok (.ishl, 1) := by decide +kernel
theorem dX8_readVoice_108 : decode cX8_readVoice 108 = .ok (.ior, 1) := by decide +kernel
theorem dX8_readVoice_109 : decode cX8_readVoice 109 = .ok (.putfield 111, 3) := by decide +kernel
theorem dX8_readVoice_112 : decode cX8_readVoice 112 = .ok (.aload_n 0, 1) := by decide +kernel
theorem dX8_readVoice_113 : decode cX8_readVoice 113 = .ok (.bipush 25, 2) := by decide +kernel
theorem dX8_readVoice_115 : decode cX8_readVoice 115 = .ok (.invokevirtual 71, 3) := by decide +kernel
theorem dX8_readVoice_118 : decode cX8_readVoice 118 = .ok (.ifCond .eq 32, 3) := by decide +kernel
theorem dX8_readVoice_121 : decode cX8_readVoice 121 = .ok (.aload_n 0, 1) := by decide +kernel
theorem dX8_readVoice_122 : decode cX8_readVoice 122 = .ok (.getfield 22, 3) := by decide +kernel
theorem dX8_readVoice_125 : decode cX8_readVoice 125 = .ok (.getfield 102, 3) := by decide +kernel
theorem dX8_readVoice_128 : decode cX8_readVoice 128 = .ok (.iload_n 1, 1) := by decide +kernel
theorem dX8_readVoice_129 : decode cX8_readVoice 129 = .ok (.aload_n 0, 1) := by decide +kernel
theorem dX8_readVoice_130 : decode cX8_readVoice 130 = .ok (.invokevirtual 114, 3) := by decide +kernel
theorem dX8_readVoice_133 : decode cX8_readVoice 133 = .ok (.iastore, 1) := by decide +kernel
theorem dX8_readVoice_134 : decode cX8_readVoice 134 = .ok (.aload_n 0, 1) := by decide +kernel
theorem dX8_readVoice_135 : decode cX8_readVoice 135 = .ok (.getfield 22, 3) := by decide +kernel
theorem dX8_readVoice_138 : decode cX8_readVoice 138 = .ok (.getfield 105, 3) := by decide +kernel
theorem dX8_readVoice_141 : decode cX8_readVoice 141 = .ok (.iload_n 1, 1) := by decide +kernel
theorem dX8_readVoice_142 : decode cX8_readVoice 142 = .ok (.aload_n 0, 1) := by decide +kernel
theorem dX8_readVoice_143 : decode cX8_readVoice 143 = .ok (.iconst 0, 1) := by decide +kernel
theorem dX8_readVoice_144 : decode cX8_readVoice 144 = .ok (.bipush 99, 2) := by decide +kernel
theorem dX8_readVoice_146 : decode cX8_readVoice 146 = .ok (.invokevirtual 86, 3) := by decide +kernel
theorem dX8_readVoice_149 : decode cX8_readVoice 149 = .ok (.iastore, 1) := by decide +kernel
theorem dX8_readVoice_150 : decode cX8_readVoice 150 = .ok (.aload_n 0, 1) := by decide +kernel
theorem dX8_readVoice_151 : decode cX8_readVoice 151 = .ok (.bipush 26, 2) := by decide +kernel
theorem dX8_readVoice_153 : decode cX8_readVoice 153 = .ok (.invokevirtual 71, 3) := by decide +kernel
theorem dX8_readVoice_156 : decode cX8_readVoice 156 = .ok (.ifCond .eq 19, 3) := by decide +kernel
theorem dX8_readVoice_159 : decode cX8_readVoice 159 = .ok (.aload_n 0, 1) := by decide +kernel
theorem dX8_readVoice_160 : decode cX8_readVoice 160 = .ok (.getfield 22, 3) := by decide +kernel
theorem dX8_readVoice_163 : decode cX8_readVoice 163 = .ok (.getfield 108, 3) := by decide +kernel
theorem dX8_readVoice_166 : decode cX8_readVoice 166 = .ok (.iload_n 1, 1) := by decide +kernel
theorem dX8_readVoice_167 : decode cX8_readVoice 167 = .ok (.aload_n 0, 1) := by decide +kernel
theorem dX8_readVoice_168 : decode cX8_readVoice 168 = .ok (.iconst 1, 1) := by decide +kernel
theorem dX8_readVoice_169 : decode cX8_readVoice 169 = .ok (.bipush 99, 2) := by decide +kernel
theorem dX8_readVoice_171 : decode cX8_readVoice 171 = .ok (.invokevirtual 86, 3) := by decide +kernel
theorem dX8_readVoice_174 : decode cX8_readVoice 174 = .ok (.iastore, 1) := by decide +kernel
theorem dX8_readVoice_175 : decode cX8_readVoice 175 = .ok (.return_, 1) := by decide +kernel
theorem dX8_skips_0 : decode cX8_skips 0 = .ok (.aload_n 0, 1) := by decide +kernel
theorem dX8_skips_1 : decode cX8_skips 1 = .ok (.getfield 18, 3) := by decide +kernel
theorem dX8_skips_4 : decode cX8_skips 4 = .ok (.getfield 37, 3) := by decide +kernel
theorem dX8_skips_7 : decode cX8_skips 7 = .ok (.iload_n 1, 1) := by decide +kernel
theorem dX8_skips_8 : decode cX8_skips 8 = .ok (.if_icmp .eq 5, 3) := by decide +kernel
theorem dX8_skips_11 : decode cX8_skips 11 = .ok (.iconst 0, 1) := by decide +kernel
theorem dX8_skips_12 : decode cX8_skips 12 = .ok (.ireturn, 1) := by decide +kernel
theorem dX8_skips_13 : decode cX8_skips 13 = .ok (.aload_n 0, 1) := by decide +kernel
theorem dX8_skips_14 : decode cX8_skips 14 = .ok (.getfield 18, 3) := by decide +kernel
theorem dX8_skips_17 : decode cX8_skips 17 = .ok (.invokevirtual 152, 3) := by decide +kernel
theorem dX8_skips_20 : decode cX8_skips 20 = .ok (.iconst 1, 1) := by decide +kernel
theorem dX8_skips_21 : decode cX8_skips 21 = .ok (.ireturn, 1) := by decide +kernel
theorem dX8_tell_0 : decode cX8_tell 0 = .ok (.aload_n 0, 1) := by decide +kernel
theorem dX8_tell_1 : decode cX8_tell 1 = .ok (.getfield 22, 3) := by decide +kernel
theorem dX8_tell_4 : decode cX8_tell 4 = .ok (.invokevirtual 26, 3) := by decide +kernel
theorem dX8_tell_7 : decode cX8_tell 7 = .ok (.aload_n 0, 1) := by decide +kernel
theorem dX8_tell_8 : decode cX8_tell 8 = .ok (.iconst 0, 1) := by decide +kernel
theorem dX8_tell_9 : decode cX8_tell 9 = .ok (.putfield 9, 3) := by decide +kernel
theorem dX8_tell_12 : decode cX8_tell 12 = .ok (.aload_n 0, 1) := by decide +kernel
theorem dX8_tell_13 : decode cX8_tell 13 = .ok (.iconst 0, 1) := by decide +kernel
theorem dX8_tell_14 : decode cX8_tell 14 = .ok (.putfield 15, 3) := by decide +kernel
theorem dX8_tell_17 : decode cX8_tell 17 = .ok (.aload_n 0, 1) := by decide +kernel
theorem dX8_tell_18 : decode cX8_tell 18 = .ok (.getfield 18, 3) := by decide +kernel
theorem dX8_tell_21 : decode cX8_tell 21 = .ok (.iload_n 1, 1) := by decide +kernel
theorem dX8_tell_22 : decode cX8_tell 22 = .ok (.invokevirtual 31, 3) := by decide +kernel
theorem dX8_tell_25 : decode cX8_tell 25 = .ok (.iconst 0, 1) := by decide +kernel
theorem dX8_tell_26 : decode cX8_tell 26 = .ok (.istore_n 2, 1) := by decide +kernel
theorem dX8_tell_27 : decode cX8_tell 27 = .ok (.iconst 0, 1) := by decide +kernel
theorem dX8_tell_28 : decode cX8_tell 28 = .ok (.istore_n 3, 1) := by decide +kernel
theorem dX8_tell_29 : decode cX8_tell 29 = .ok (.iload_n 3, 1) := by decide +kernel
theorem dX8_tell_30 : decode cX8_tell 30 = .ok (.sipush 800, 3) := by decide +kernel
theorem dX8_tell_33 : decode cX8_tell 33 = .ok (.if_icmp .gt 187, 3) := by decide +kernel
theorem dX8_tell_36 : decode cX8_tell 36 = .ok (.aload_n 0, 1) := by decide +kernel
theorem dX8_tell_37 : decode cX8_tell 37 = .ok (.getfield 18, 3) := by decide +kernel
theorem dX8_tell_40 : decode cX8_tell 40 = .ok (.getfield 37, 3) := by decide +kernel
theorem dX8_tell_43 : decode cX8_tell 43 = .ok (.ifCond .eq 177, 3) := by decide +kernel
theorem dX8_tell_46 : decode cX8_tell 46 = .ok (.aload_n 0, 1) := by decide +kernel
theorem dX8_tell_47 : decode cX8_tell 47 = .ok (.getfield 18, 3) := by decide +kernel
theorem dX8_tell_50 : decode cX8_tell 50 = .ok (.getfield 37, 3) := by decide +kernel
theorem dX8_tell_53 : decode cX8_tell 53 = .ok (.tableswitch 129 17 23 #[43, 50, 57, 64, 71, 97, 122], 43) := by decide +kernel
theorem dX8_tell_96 : decode cX8_tell 96 = .ok (.aload_n 0, 1) := by decide +kernel
theorem dX8_tell_97 : decode cX8_tell 97 = .ok (.invokevirtual 41, 3) := by decide +kernel
theorem dX8_tell_100 : decode cX8_tell 100 = .ok (.goto 91, 3) := by decide +kernel
theorem dX8_tell_103 : decode cX8_tell 103 = .ok (.aload_n 0, 1) := by decide +kernel
theorem dX8_tell_104 : decode cX8_tell 104 = .ok (.invokevirtual 44, 3) := by decide +kernel
theorem dX8_tell_107 : decode cX8_tell 107 = .ok (.goto 84, 3) := by decide +kernel
theorem dX8_tell_110 : decode cX8_tell 110 = .ok (.aload_n 0, 1) := by decide +kernel
theorem dX8_tell_111 : decode cX8_tell 111 = .ok (.invokevirtual 47, 3) := by decide +kernel
theorem dX8_tell_114 : decode cX8_tell 114 = .ok (.goto 77, 3) := by decide +kernel
theorem dX8_tell_117 : decode cX8_tell 117 = .ok (.aload_n 0, 1) := by decide +kernel
theorem dX8_tell_118 : decode cX8_tell 118 = .ok (.invokevirtual 50, 3) := by decide +kernel
theorem dX8_tell_121 : decode cX8_tell 121 = .ok (.goto 70, 3) := by decide +kernel
theorem dX8_tell_124 : decode cX8_tell 124 = .ok (.aload_n 0, 1) := by decide +kernel
theorem dX8_tell_125 : decode cX8_tell 125 = .ok (.getfield 22, 3) := by decide +kernel
theorem dX8_tell_128 : decode cX8_tell 128 = .ok (.aload_n 0, 1) := by decide +kernel
theorem dX8_tell_129 : decode cX8_tell 129 = .ok (.aload_n 0, 1) := by decide +kernel
theorem dX8_tell_130 : decode cX8_tell 130 = .ok (.getfield 9, 3) := by decide +kernel
theorem dX8_tell_133 : decode cX8_tell 133 = .ok (.sipush 999, 3) := by decide +kernel
theorem dX8_tell_136 : decode cX8_tell 136 = .ok (.invokevirtual 53, 3) := by decide +kernel
theorem dX8_tell_139 : decode cX8_tell 139 = .ok (.putfield 57, 3) := by decide +kernel
theorem dX8_tell_142 : decode cX8_tell 142 = .ok (.aload_n 0, 1) := by decide +kernel
theorem dX8_tell_143 : decode cX8_tell 143 = .ok (.iconst 1, 1) := by decide +kernel
theorem dX8_tell_144 : decode cX8_tell 144 = .ok (.putfield 9, 3) := by decide +kernel
theorem dX8_tell_147 : decode cX8_tell 147 = .ok (.goto 44, 3) := by decide +kernel
theorem dX8_tell_150 : decode cX8_tell 150 = .ok (.aload_n 0, 1) := by decide +kernel
theorem dX8_tell_151 : decode cX8_tell 151 = .ok (.getfield 22, 3) := by decide +kernel
theorem dX8_tell_154 : decode cX8_tell 154 = .ok (.aload_n 0, 1) := by decide +kernel
theorem dX8_tell_155 : decode cX8_tell 155 = .ok (.aload_n 0, 1) := by decide +kernel
theorem dX8_tell_156 : decode cX8_tell 156 = .ok (.getfield 15, 3) := by decide +kernel
theorem dX8_tell_159 : decode cX8_tell 159 = .ok (.ldc 60, 2) := by decide +kernel
theorem dX8_tell_161 : decode cX8_tell 161 = .ok (.invokevirtual 53, 3) := by decide +kernel
theorem dX8_tell_164 : decode cX8_tell 164 = .ok (.putfield 61, 3) := by decide +kernel
theorem dX8_tell_167 : decode cX8_tell 167 = .ok (.aload_n 0, 1) := by decide +kernel
theorem dX8_tell_168 : decode cX8_tell 168 = .ok (.iconst 1, 1) := by decide +kernel
theorem dX8_tell_169 : decode cX8_tell 169 = .ok (.putfield 15, 3) := by decide +kernel
theorem dX8_tell_172 : decode cX8_tell 172 = .ok (.goto 19, 3) := by decide +kernel
theorem dX8_tell_175 : decode cX8_tell 175 = .ok (.aload_n 0, 1) := by decide +kernel
theorem dX8_tell_176 : decode cX8_tell 176 = .ok (.invokevirtual 64, 3) := by decide +kernel
theorem dX8_tell_179 : decode cX8_tell 179 = .ok (.goto 12, 3) := by decide +kernel
theorem dX8_tell_182 : decode cX8_tell 182 = .ok (.aload_n 0, 1) := by decide +kernel
theorem dX8_tell_183 : decode cX8_tell 183 = .ok (.getfield 18, 3) := by decide +kernel
theorem dX8_tell_186 : decode cX8_tell 186 = .ok (.iconst 1, 1) := by decide +kernel
theorem dX8_tell_187 : decode cX8_tell 187 = .ok (.invokevirtual 67, 3) := by decide +kernel
theorem dX8_tell_190 : decode cX8_tell 190 = .ok (.pop, 1) := by decide +kernel
theorem dX8_tell_191 : decode cX8_tell 191 = .ok (.aload_n 0, 1) := by decide +kernel
theorem dX8_tell_192 : decode cX8_tell 192 = .ok (.iconst 4, 1) := by decide +kernel
theorem dX8_tell_193 : decode cX8_tell 193 = .ok (.invokevirtual 71, 3) := by decide +kernel
theorem dX8_tell_196 : decode cX8_tell 196 = .ok (.ifCond .eq 9, 3) := by decide +kernel
theorem dX8_tell_199 : decode cX8_tell 199 = .ok (.iinc 2 1, 3) := by decide +kernel
theorem dX8_tell_202 : decode cX8_tell 202 = .ok (.goto 12, 3) := by decide +kernel
theorem dX8_tell_205 : decode cX8_tell 205 = .ok (.aload_n 0, 1) := by decide +kernel
theorem dX8_tell_206 : decode cX8_tell 206 = .ok (.getfield 18, 3) := by decide +kernel
theorem dX8_tell_209 : decode cX8_tell 209 = .ok (.iconst 1, 1) := by decide +kernel
theorem dX8_tell_210 : decode cX8_tell 210 = .ok (.invokevirtual 67, 3) := by decide +kernel
theorem dX8_tell_213 : decode cX8_tell 213 = .ok (.pop, 1) := by decide +kernel
theorem dX8_tell_214 : decode cX8_tell 214 = .ok (.iinc 3 1, 3) := by decide +kernel
theorem dX8_tell_217 : decode cX8_tell 217 = .ok (.goto (-188), 3) := by decide +kernel
theorem dX8_tell_220 : decode cX8_tell 220 = .ok (.iload_n 2, 1) := by decide +kernel
theorem dX8_tell_221 : decode cX8_tell 221 = .ok (.ireturn, 1) := by decide +kernel
theorem dX8_toldTavern_0 : decode cX8_toldTavern 0 = .ok (.aload_n 0, 1) := by decide +kernel
theorem dX8_toldTavern_1 : decode cX8_toldTavern 1 = .ok (.getfield 18, 3) := by decide +kernel
theorem dX8_toldTavern_4 : decode cX8_toldTavern 4 = .ok (.getfield 37, 3) := by decide +kernel
theorem dX8_toldTavern_7 : decode cX8_toldTavern 7 = .ok (.iconst 3, 1) := by decide +kernel
theorem dX8_toldTavern_8 : decode cX8_toldTavern 8 = .ok (.if_icmp .eq 14, 3) := by decide +kernel
theorem dX8_toldTavern_11 : decode cX8_toldTavern 11 = .ok (.aload_n 0, 1) := by decide +kernel
theorem dX8_toldTavern_12 : decode cX8_toldTavern 12 = .ok (.getfield 18, 3) := by decide +kernel
theorem dX8_toldTavern_15 : decode cX8_toldTavern 15 = .ok (.iconst 1, 1) := by decide +kernel
theorem dX8_toldTavern_16 : decode cX8_toldTavern 16 = .ok (.invokevirtual 67, 3) := by decide +kernel
theorem dX8_toldTavern_19 : decode cX8_toldTavern 19 = .ok (.pop, 1) := by decide +kernel
theorem dX8_toldTavern_20 : decode cX8_toldTavern 20 = .ok (.iconst (-1), 1) := by decide +kernel
theorem dX8_toldTavern_21 : decode cX8_toldTavern 21 = .ok (.ireturn, 1) := by decide +kernel
theorem dX8_toldTavern_22 : decode cX8_toldTavern 22 = .ok (.aload_n 0, 1) := by decide +kernel
theorem dX8_toldTavern_23 : decode cX8_toldTavern 23 = .ok (.getfield 22, 3) := by decide +kernel
theorem dX8_toldTavern_26 : decode cX8_toldTavern 26 = .ok (.getfield 74, 3) := by decide +kernel
theorem dX8_toldTavern_29 : decode cX8_toldTavern 29 = .ok (.aload_n 0, 1) := by decide +kernel
theorem dX8_toldTavern_30 : decode cX8_toldTavern 30 = .ok (.getfield 18, 3) := by decide +kernel
theorem dX8_toldTavern_33 : decode cX8_toldTavern 33 = .ok (.getfield 164, 3) := by decide +kernel
theorem dX8_toldTavern_36 : decode cX8_toldTavern 36 = .ok (.invokevirtual 167, 3) := by decide +kernel
theorem dX8_toldTavern_39 : decode cX8_toldTavern 39 = .ok (.istore_n 1, 1) := by decide +kernel
theorem dX8_toldTavern_40 : decode cX8_toldTavern 40 = .ok (.iload_n 1, 1) := by decide +kernel
theorem dX8_toldTavern_41 : decode cX8_toldTavern 41 = .ok (.iconst (-1), 1) := by decide +kernel
theorem dX8_toldTavern_42 : decode cX8_toldTavern 42 = .ok (.if_icmp .ne 12, 3) := by decide +kernel
theorem dX8_toldTavern_45 : decode cX8_toldTavern 45 = .ok (.aload_n 0, 1) := by decide +kernel
theorem dX8_toldTavern_46 : decode cX8_toldTavern 46 = .ok (.getfield 18, 3) := by decide +kernel
theorem dX8_toldTavern_49 : decode cX8_toldTavern 49 = .ok (.iconst 4, 1) := by decide +kernel
theorem dX8_toldTavern_50 : decode cX8_toldTavern 50 = .ok (.invokevirtual 67, 3) := by decide +kernel
theorem dX8_toldTavern_53 : decode cX8_toldTavern 53 = .ok (.pop, 1) := by decide +kernel
theorem dX8_toldTavern_54 : decode cX8_toldTavern 54 = .ok (.aload_n 0, 1) := by decide +kernel
theorem dX8_toldTavern_55 : decode cX8_toldTavern 55 = .ok (.getfield 18, 3) := by decide +kernel
theorem dX8_toldTavern_58 : decode cX8_toldTavern 58 = .ok (.invokevirtual 152, 3) := by decide +kernel
theorem dX8_toldTavern_61 : decode cX8_toldTavern 61 = .ok (.iload_n 1, 1) := by decide +kernel
theorem dX8_toldTavern_62 : decode cX8_toldTavern 62 = .ok (.ireturn, 1) := by decide +kernel
theorem dX9_init_0 : decode cX9_init 0 = .ok (.aload_n 0, 1) := by decide +kernel
theorem dX9_init_1 : decode cX9_init 1 = .ok (.invokespecial 3, 3) := by decide +kernel
theorem dX9_init_4 : decode cX9_init 4 = .ok (.aload_n 0, 1) := by decide +kernel
theorem dX9_init_5 : decode cX9_init 5 = .ok (.bipush 23, 2) := by decide +kernel
theorem dX9_init_7 : decode cX9_init 7 = .ok (.newarray .int, 2) := by decide +kernel
theorem dX9_init_9 : decode cX9_init 9 = .ok (.putfield 9, 3) := by decide +kernel
theorem dX9_init_12 : decode cX9_init 12 = .ok (.aload_n 0, 1) := by decide +kernel
theorem dX9_init_13 : decode cX9_init 13 = .ok (.iconst 0, 1) := by decide +kernel
theorem dX9_init_14 : decode cX9_init 14 = .ok (.putfield 15, 3) := by decide +kernel
theorem dX9_init_17 : decode cX9_init 17 = .ok (.aload_n 0, 1) := by decide +kernel
theorem dX9_init_18 : decode cX9_init 18 = .ok (.iconst 0, 1) := by decide +kernel
theorem dX9_init_19 : decode cX9_init 19 = .ok (.putfield 19, 3) := by decide +kernel
theorem dX9_init_22 : decode cX9_init 22 = .ok (.aload_n 0, 1) := by decide +kernel
theorem dX9_init_23 : decode cX9_init 23 = .ok (.iconst 0, 1) := by decide +kernel
theorem dX9_init_24 : decode cX9_init 24 = .ok (.putfield 22, 3) := by decide +kernel
theorem dX9_init_27 : decode cX9_init 27 = .ok (.aload_n 0, 1) := by decide +kernel
theorem dX9_init_28 : decode cX9_init 28 = .ok (.iconst 0, 1) := by decide +kernel
theorem dX9_init_29 : decode cX9_init 29 = .ok (.putfield 25, 3) := by decide +kernel
theorem dX9_init_32 : decode cX9_init 32 = .ok (.aload_n 0, 1) := by decide +kernel
theorem dX9_init_33 : decode cX9_init 33 = .ok (.iconst 0, 1) := by decide +kernel
theorem dX9_init_34 : decode cX9_init 34 = .ok (.putfield 28, 3) := by decide +kernel
theorem dX9_init_37 : decode cX9_init 37 = .ok (.aload_n 0, 1) := by decide +kernel
theorem dX9_init_38 : decode cX9_init 38 = .ok (.iconst 0, 1) := by decide +kernel
theorem dX9_init_39 : decode cX9_init 39 = .ok (.putfield 31, 3) := by decide +kernel
theorem dX9_init_42 : decode cX9_init 42 = .ok (.aload_n 0, 1) := by decide +kernel
theorem dX9_init_43 : decode cX9_init 43 = .ok (.iconst (-1), 1) := by decide +kernel
theorem dX9_init_44 : decode cX9_init 44 = .ok (.putfield 34, 3) := by decide +kernel
theorem dX9_init_47 : decode cX9_init 47 = .ok (.aload_n 0, 1) := by decide +kernel
theorem dX9_init_48 : decode cX9_init 48 = .ok (.aload_n 1, 1) := by decide +kernel
theorem dX9_init_49 : decode cX9_init 49 = .ok (.putfield 37, 3) := by decide +kernel
theorem dX9_init_52 : decode cX9_init 52 = .ok (.aload_n 0, 1) := by decide +kernel
theorem dX9_init_53 : decode cX9_init 53 = .ok (.ldc 41, 2) := by decide +kernel
theorem dX9_init_55 : decode cX9_init 55 = .ok (.iconst 0, 1) := by decide +kernel
theorem dX9_init_56 : decode cX9_init 56 = .ok (.invokevirtual 43, 3) := by decide +kernel
theorem dX9_init_59 : decode cX9_init 59 = .ok (.aload_n 0, 1) := by decide +kernel
theorem dX9_init_60 : decode cX9_init 60 = .ok (.ldc 47, 2) := by decide +kernel
theorem dX9_init_62 : decode cX9_init 62 = .ok (.bipush 13, 2) := by decide +kernel
theorem dX9_init_64 : decode cX9_init 64 = .ok (.invokevirtual 43, 3) := by decide +kernel
theorem dX9_init_67 : decode cX9_init 67 = .ok (.return_, 1) := by decide +kernel
theorem dX9_fail_0 : decode cX9_fail 0 = .ok (.aload_n 0, 1) := by decide +kernel
theorem dX9_fail_1 : decode cX9_fail 1 = .ok (.getfield 31, 3) := by decide +kernel
theorem dX9_fail_4 : decode cX9_fail 4 = .ok (.ifCond .ne 16, 3) := by decide +kernel
theorem dX9_fail_7 : decode cX9_fail 7 = .ok (.aload_n 0, 1) := by decide +kernel
theorem dX9_fail_8 : decode cX9_fail 8 = .ok (.iload_n 1, 1) := by decide +kernel
theorem dX9_fail_9 : decode cX9_fail 9 = .ok (.putfield 31, 3) := by decide +kernel
theorem dX9_fail_12 : decode cX9_fail 12 = .ok (.aload_n 0, 1) := by decide +kernel
theorem dX9_fail_13 : decode cX9_fail 13 = .ok (.aload_n 0, 1) := by decide +kernel
theorem dX9_fail_14 : decode cX9_fail 14 = .ok (.getfield 25, 3) := by decide +kernel
theorem dX9_fail_17 : decode cX9_fail 17 = .ok (.putfield 34, 3) := by decide +kernel
theorem dX9_fail_20 : decode cX9_fail 20 = .ok (.aload_n 0, 1) := by decide +kernel
theorem dX9_fail_21 : decode cX9_fail 21 = .ok (.iconst 0, 1) := by decide +kernel
theorem dX9_fail_22 : decode cX9_fail 22 = .ok (.putfield 22, 3) := by decide +kernel
theorem dX9_fail_25 : decode cX9_fail 25 = .ok (.iconst 0, 1) := by decide +kernel
theorem dX9_fail_26 : decode cX9_fail 26 = .ok (.ireturn, 1) := by decide +kernel
theorem dX9_isDigit_0 : decode cX9_isDigit 0 = .ok (.iload_n 0, 1) := by decide +kernel
theorem dX9_isDigit_1 : decode cX9_isDigit 1 = .ok (.bipush 48, 2) := by decide +kernel
theorem dX9_isDigit_3 : decode cX9_isDigit 3 = .ok (.if_icmp .lt 13, 3) := by decide +kernel
theorem dX9_isDigit_6 : decode cX9_isDigit 6 = .ok (.iload_n 0, 1) := by decide +kernel
theorem dX9_isDigit_7 : decode cX9_isDigit 7 = .ok (.bipush 57, 2) := by decide +kernel
theorem dX9_isDigit_9 : decode cX9_isDigit 9 = .ok (.if_icmp .gt 7, 3) := by decide +kernel
theorem dX9_isDigit_12 : decode cX9_isDigit 12 = .ok (.iconst 1, 1) := by decide +kernel
theorem dX9_isDigit_13 : decode cX9_isDigit 13 = .ok (.goto 4, 3) := by decide +kernel
theorem dX9_isDigit_16 : decode cX9_isDigit 16 = .ok (.iconst 0, 1) := by decide +kernel
theorem dX9_isDigit_17 : decode cX9_isDigit 17 = .ok (.ireturn, 1) := by decide +kernel
theorem dX9_isLetter_0 : decode cX9_isLetter 0 = .ok (.iload_n 0, 1) := by decide +kernel
theorem dX9_isLetter_1 : decode cX9_isLetter 1 = .ok (.bipush 97, 2) := by decide +kernel
theorem dX9_isLetter_3 : decode cX9_isLetter 3 = .ok (.if_icmp .lt 13, 3) := by decide +kernel
theorem dX9_isLetter_6 : decode cX9_isLetter 6 = .ok (.iload_n 0, 1) := by decide +kernel
theorem dX9_isLetter_7 : decode cX9_isLetter 7 = .ok (.bipush 122, 2) := by decide +kernel
theorem dX9_isLetter_9 : decode cX9_isLetter 9 = .ok (.if_icmp .gt 7, 3) := by decide +kernel
theorem dX9_isLetter_12 : decode cX9_isLetter 12 = .ok (.iconst 1, 1) := by decide +kernel
theorem dX9_isLetter_13 : decode cX9_isLetter 13 = .ok (.goto 4, 3) := by decide +kernel
theorem dX9_isLetter_16 : decode cX9_isLetter 16 = .ok (.iconst 0, 1) := by decide +kernel
theorem dX9_isLetter_17 : decode cX9_isLetter 17 = .ok (.ireturn, 1) := by decide +kernel
theorem dX9_next_0 : decode cX9_next 0 = .ok (.aload_n 0, 1) := by decide +kernel
theorem dX9_next_1 : decode cX9_next 1 = .ok (.getfield 31, 3) := by decide +kernel
theorem dX9_next_4 : decode cX9_next 4 = .ok (.ifCond .eq 4, 3) := by decide +kernel
theorem dX9_next_7 : decode cX9_next 7 = .ok (.return_, 1) := by decide +kernel
theorem dX9_next_8 : decode cX9_next 8 = .ok (.aload_n 0, 1) := by decide +kernel
theorem dX9_next_9 : decode cX9_next 9 = .ok (.getfield 19, 3) := by decide +kernel
theorem dX9_next_12 : decode cX9_next 12 = .ok (.aload_n 0, 1) := by decide +kernel
theorem dX9_next_13 : decode cX9_next 13 = .ok (.getfield 15, 3) := by decide +kernel
theorem dX9_next_16 : decode cX9_next 16 = .ok (.if_icmp .ge 44, 3) := by decide +kernel
theorem dX9_next_19 : decode cX9_next 19 = .ok (.aload_n 0, 1) := by decide +kernel
theorem dX9_next_20 : decode cX9_next 20 = .ok (.getfield 37, 3) := by decide +kernel
theorem dX9_next_23 : decode cX9_next 23 = .ok (.aload_n 0, 1) := by decide +kernel
theorem dX9_next_24 : decode cX9_next 24 = .ok (.getfield 19, 3) := by decide +kernel
theorem dX9_next_27 : decode cX9_next 27 = .ok (.baload, 1) := by decide +kernel
theorem dX9_next_28 : decode cX9_next 28 = .ok (.bipush 10, 2) := by decide +kernel
theorem dX9_next_30 : decode cX9_next 30 = .ok (.if_icmp .eq 17, 3) := by decide +kernel
theorem dX9_next_33 : decode cX9_next 33 = .ok (.aload_n 0, 1) := by decide +kernel
theorem dX9_next_34 : decode cX9_next 34 = .ok (.getfield 37, 3) := by decide +kernel
theorem dX9_next_37 : decode cX9_next 37 = .ok (.aload_n 0, 1) := by decide +kernel
theorem dX9_next_38 : decode cX9_next 38 = .ok (.getfield 19, 3) := by decide +kernel
theorem dX9_next_41 : decode cX9_next 41 = .ok (.baload, 1) := by decide +kernel
theorem dX9_next_42 : decode cX9_next 42 = .ok (.bipush 32, 2) := by decide +kernel
theorem dX9_next_44 : decode cX9_next 44 = .ok (.if_icmp .ne 16, 3) := by decide +kernel
theorem dX9_next_47 : decode cX9_next 47 = .ok (.aload_n 0, 1) := by decide +kernel
theorem dX9_next_48 : decode cX9_next 48 = .ok (.dup, 1) := by decide +kernel
theorem dX9_next_49 : decode cX9_next 49 = .ok (.getfield 19, 3) := by decide +kernel
theorem dX9_next_52 : decode cX9_next 52 = .ok (.iconst 1, 1) := by decide +kernel
theorem dX9_next_53 : decode cX9_next 53 = .ok (.iadd, 1) := by decide +kernel
theorem dX9_next_54 : decode cX9_next 54 = .ok (.putfield 19, 3) := by decide +kernel
theorem dX9_next_57 : decode cX9_next 57 = .ok (.goto (-49), 3) := by decide +kernel
theorem dX9_next_60 : decode cX9_next 60 = .ok (.aload_n 0, 1) := by decide +kernel
theorem dX9_next_61 : decode cX9_next 61 = .ok (.aload_n 0, 1) := by decide +kernel
theorem dX9_next_62 : decode cX9_next 62 = .ok (.getfield 19, 3) := by decide +kernel
theorem dX9_next_65 : decode cX9_next 65 = .ok (.putfield 25, 3) := by decide +kernel
theorem dX9_next_68 : decode cX9_next 68 = .ok (.aload_n 0, 1) := by decide +kernel
theorem dX9_next_69 : decode cX9_next 69 = .ok (.iconst 0, 1) := by decide +kernel
theorem dX9_next_70 : decode cX9_next 70 = .ok (.putfield 28, 3) := by decide +kernel
theorem dX9_next_73 : decode cX9_next 73 = .ok (.aload_n 0, 1) := by decide +kernel
theorem dX9_next_74 : decode cX9_next 74 = .ok (.getfield 19, 3) := by decide +kernel
theorem dX9_next_77 : decode cX9_next 77 = .ok (.aload_n 0, 1) := by decide +kernel
theorem dX9_next_78 : decode cX9_next 78 = .ok (.getfield 15, 3) := by decide +kernel
theorem dX9_next_81 : decode cX9_next 81 = .ok (.if_icmp .lt 11, 3) := by decide +kernel
theorem dX9_next_84 : decode cX9_next 84 = .ok (.aload_n 0, 1) := by decide +kernel
theorem dX9_next_85 : decode cX9_next 85 = .ok (.iconst 0, 1) := by decide +kernel
theorem dX9_next_86 : decode cX9_next 86 = .ok (.putfield 22, 3) := by decide +kernel
theorem dX9_next_89 : decode cX9_next 89 = .ok (.goto 51, 3) := by decide +kernel
theorem dX9_next_92 : decode cX9_next 92 = .ok (.aload_n 0, 1) := by decide +kernel
theorem dX9_next_93 : decode cX9_next 93 = .ok (.getfield 37, 3) := by decide +kernel
theorem dX9_next_96 : decode cX9_next 96 = .ok (.aload_n 0, 1) := by decide +kernel
theorem dX9_next_97 : decode cX9_next 97 = .ok (.getfield 19, 3) := by decide +kernel
theorem dX9_next_100 : decode cX9_next 100 = .ok (.baload, 1) := by decide +kernel
theorem dX9_next_101 : decode cX9_next 101 = .ok (.invokestatic 68, 3) := by decide +kernel
theorem dX9_next_104 : decode cX9_next 104 = .ok (.ifCond .eq 10, 3) := by decide +kernel
theorem dX9_next_107 : decode cX9_next 107 = .ok (.aload_n 0, 1) := by decide +kernel
theorem dX9_next_108 : decode cX9_next 108 = .ok (.invokevirtual 72, 3) := by decide +kernel
theorem dX9_next_111 : decode cX9_next 111 = .ok (.goto 29, 3) := by decide +kernel
theorem dX9_next_114 : decode cX9_next 114 = .ok (.aload_n 0, 1) := by decide +kernel
theorem dX9_next_115 : decode cX9_next 115 = .ok (.getfield 37, 3) := by decide +kernel
theorem dX9_next_118 : decode cX9_next 118 = .ok (.aload_n 0, 1) := by decide +kernel
theorem dX9_next_119 : decode cX9_next 119 = .ok (.getfield 19, 3) := by decide +kernel
theorem dX9_next_122 : decode cX9_next 122 = .ok (.baload, 1) := by decide +kernel
theorem dX9_next_123 : decode cX9_next 123 = .ok (.invokestatic 75, 3) := by decide +kernel
theorem dX9_next_126 : decode cX9_next 126 = .ok (.ifCond .eq 10, 3) := by decide +kernel
theorem dX9_next_129 : decode cX9_next 129 = .ok (.aload_n 0, 1) := by decide +kernel
theorem dX9_next_130 : decode cX9_next 130 = .ok (.invokevirtual 78, 3) := by decide +kernel
theorem dX9_next_133 : decode cX9_next 133 = .ok (.goto 7, 3) := by decide +kernel
theorem dX9_next_136 : decode cX9_next 136 = .ok (.aload_n 0, 1) := by decide +kernel
theorem dX9_next_137 : decode cX9_next 137 = .ok (.invokevirtual 81, 3) := by decide +kernel
theorem dX9_next_140 : decode cX9_next 140 = .ok (.return_, 1) := by decide +kernel
theorem dX9_packWords_0 : decode cX9_packWords 0 = .ok (.iload_n 2, 1) := by decide +kernel
theorem dX9_packWords_1 : decode cX9_packWords 1 = .ok (.istore_n 3, 1) := by decide +kernel
theorem dX9_packWords_2 : decode cX9_packWords 2 = .ok (.bipush 25, 2) := by decide +kernel
theorem dX9_packWords_4 : decode cX9_packWords 4 = .ok (.istore 4, 2) := by decide +kernel
theorem dX9_packWords_6 : decode cX9_packWords 6 = .ok (.iconst 0, 1) := by decide +kernel
theorem dX9_packWords_7 : decode cX9_packWords 7 = .ok (.istore 5, 2) := by decide +kernel
theorem dX9_packWords_9 : decode cX9_packWords 9 = .ok (.iload 5, 2) := by decide +kernel
theorem dX9_packWords_11 : decode cX9_packWords 11 = .ok (.aload_n 1, 1) := by decide +kernel
theorem dX9_packWords_12 : decode cX9_packWords 12 = .ok (.invokevirtual 49, 3) := by decide +kernel
theorem dX9_packWords_15 : decode cX9_packWords 15 = .ok (.if_icmp .ge 62, 3) := by decide +kernel
theorem dX9_packWords_18 : decode cX9_packWords 18 = .ok (.iload_n 3, 1) := by decide +kernel
theorem dX9_packWords_19 : decode cX9_packWords 19 = .ok (.bipush 23, 2) := by decide +kernel
theorem dX9_packWords_21 : decode cX9_packWords 21 = .ok (.if_icmp .ge 56, 3) := by decide +kernel
theorem dX9_packWords_24 : decode cX9_packWords 24 = .ok (.aload_n 1, 1) := by decide +kernel
theorem dX9_packWords_25 : decode cX9_packWords 25 = .ok (.iload 5, 2) := by decide +kernel
theorem dX9_packWords_27 : decode cX9_packWords 27 = .ok (.invokevirtual 55, 3) := by decide +kernel
theorem dX9_packWords_30 : decode cX9_packWords 30 = .ok (.istore 6, 2) := by decide +kernel
theorem dX9_packWords_32 : decode cX9_packWords 32 = .ok (.iload 6, 2) := by decide +kernel
theorem dX9_packWords_34 : decode cX9_packWords 34 = .ok (.bipush 32, 2) := by decide +kernel
theorem dX9_packWords_36 : decode cX9_packWords 36 = .ok (.if_icmp .ne 13, 3) := by decide +kernel
theorem dX9_packWords_39 : decode cX9_packWords 39 = .ok (.iinc 3 1, 3) := by decide +kernel
theorem dX9_packWords_42 : decode cX9_packWords 42 = .ok (.bipush 25, 2) := by decide +kernel
theorem dX9_packWords_44 : decode cX9_packWords 44 = .ok (.istore 4, 2) := by decide +kernel
theorem dX9_packWords_46 : decode cX9_packWords 46 = .ok (.goto 25, 3) := by decide +kernel
theorem dX9_packWords_49 : decode cX9_packWords 49 = .ok (.aload_n 0, 1) := by decide +kernel
theorem dX9_packWords_50 : decode cX9_packWords 50 = .ok (.getfield 9, 3) := by decide +kernel
theorem dX9_packWords_53 : decode cX9_packWords 53 = .ok (.iload_n 3, 1) := by decide +kernel
theorem dX9_packWords_54 : decode cX9_packWords 54 = .ok (.dup2, 1) := by decide +kernel
theorem dX9_packWords_55 : decode cX9_packWords 55 = .ok (.iaload, 1) := by decide +kernel
theorem dX9_packWords_56 : decode cX9_packWords 56 = .ok (.iload 6, 2) := by decide +kernel
theorem dX9_packWords_58 : decode cX9_packWords 58 = .ok (.bipush 97, 2) := by decide +kernel
theorem dX9_packWords_60 : decode cX9_packWords 60 = .ok (.isub, 1) := by decide +kernel
theorem dX9_packWords_61 : decode cX9_packWords 61 = .ok (.iconst 1, 1) := by decide +kernel
theorem dX9_packWords_62 : decode cX9_packWords 62 = .ok (.iadd, 1) := by decide +kernel
theorem dX9_packWords_63 : decode cX9_packWords 63 = .ok (.iload 4, 2) := by decide +kernel
theorem dX9_packWords_65 : decode cX9_packWords 65 = .ok (.ishl, 1) := by decide +kernel
theorem dX9_packWords_66 : decode cX9_packWords 66 = .ok (.ior, 1) := by decide +kernel
theorem dX9_packWords_67 : decode cX9_packWords 67 = .ok (.iastore, 1) := by decide +kernel
theorem dX9_packWords_68 : decode cX9_packWords 68 = .ok (.iinc 4 (-5), 3) := by decide +kernel
theorem dX9_packWords_71 : decode cX9_packWords 71 = .ok (.iinc 5 1, 3) := by decide +kernel
theorem dX9_packWords_74 : decode cX9_packWords 74 = .ok (.goto (-65), 3) := by decide +kernel
theorem dX9_packWords_77 : decode cX9_packWords 77 = .ok (.return_, 1) := by decide +kernel
theorem dX9_readNumber_0 : decode cX9_readNumber 0 = .ok (.aload_n 0, 1) := by decide +kernel
theorem dX9_readNumber_1 : decode cX9_readNumber 1 = .ok (.getfield 19, 3) := by decide +kernel
theorem dX9_readNumber_4 : decode cX9_readNumber 4 = .ok (.aload_n 0, 1) := by decide +kernel
theorem dX9_readNumber_5 : decode cX9_readNumber 5 = .ok (.getfield 15, 3) := by decide +kernel
theorem dX9_readNumber_8 : decode cX9_readNumber 8 = .ok (.if_icmp .ge 60, 3) := by decide +kernel
theorem dX9_readNumber_11 : decode cX9_readNumber 11 = .ok (.aload_n 0, 1) := by decide +kernel
theorem dX9_readNumber_12 : decode cX9_readNumber 12 = .ok (.getfield 37, 3) := by decide +kernel
theorem dX9_readNumber_15 : decode cX9_readNumber 15 = .ok (.aload_n 0, 1) := by decide +kernel
theorem dX9_readNumber_16 : decode cX9_readNumber 16 = .ok (.getfield 19, 3) := by decide +kernel
theorem dX9_readNumber_19 : decode cX9_readNumber 19 = .ok (.baload, 1) := by decide +kernel
theorem dX9_readNumber_20 : decode cX9_readNumber 20 = .ok (.invokestatic 75, 3) := by decide +kernel
theorem dX9_readNumber_23 : decode cX9_readNumber 23 = .ok (.ifCond .eq 45, 3) := by decide +kernel
theorem dX9_readNumber_26 : decode cX9_readNumber 26 = .ok (.aload_n 0, 1) := by decide +kernel
theorem dX9_readNumber_27 : decode cX9_readNumber 27 = .ok (.aload_n 0, 1) := by decide +kernel
theorem dX9_readNumber_28 : decode cX9_readNumber 28 = .ok (.getfield 28, 3) := by decide +kernel
theorem dX9_readNumber_31 : decode cX9_readNumber 31 = .ok (.bipush 10, 2) := by decide +kernel
theorem dX9_readNumber_33 : decode cX9_readNumber 33 = .ok (.imul, 1) := by decide +kernel
theorem dX9_readNumber_34 : decode cX9_readNumber 34 = .ok (.aload_n 0, 1) := by decide +kernel
theorem dX9_readNumber_35 : decode cX9_readNumber 35 = .ok (.getfield 37, 3) := by decide +kernel
theorem dX9_readNumber_38 : decode cX9_readNumber 38 = .ok (.aload_n 0, 1) := by decide +kernel
theorem dX9_readNumber_39 : decode cX9_readNumber 39 = .ok (.getfield 19, 3) := by decide +kernel
theorem dX9_readNumber_42 : decode cX9_readNumber 42 = .ok (.baload, 1) := by decide +kernel
theorem dX9_readNumber_43 : decode cX9_readNumber 43 = .ok (.iadd, 1) := by decide +kernel
theorem dX9_readNumber_44 : decode cX9_readNumber 44 = .ok (.bipush 48, 2) := by decide +kernel
theorem dX9_readNumber_46 : decode cX9_readNumber 46 = .ok (.isub, 1) := by decide +kernel
theorem dX9_readNumber_47 : decode cX9_readNumber 47 = .ok (.ldc 84, 2) := by decide +kernel
theorem dX9_readNumber_49 : decode cX9_readNumber 49 = .ok (.invokestatic 59, 3) := by decide +kernel
theorem dX9_readNumber_52 : decode cX9_readNumber 52 = .ok (.putfield 28, 3) := by decide +kernel
theorem dX9_readNumber_55 : decode cX9_readNumber 55 = .ok (.aload_n 0, 1) := by decide +kernel
theorem dX9_readNumber_56 : decode cX9_readNumber 56 = .ok (.dup, 1) := by decide +kernel
theorem dX9_readNumber_57 : decode cX9_readNumber 57 = .ok (.getfield 19, 3) := by decide +kernel
theorem dX9_readNumber_60 : decode cX9_readNumber 60 = .ok (.iconst 1, 1) := by decide +kernel
theorem dX9_readNumber_61 : decode cX9_readNumber 61 = .ok (.iadd, 1) := by decide +kernel
theorem dX9_readNumber_62 : decode cX9_readNumber 62 = .ok (.putfield 19, 3) := by decide +kernel
theorem dX9_readNumber_65 : decode cX9_readNumber 65 = .ok (.goto (-65), 3) := by decide +kernel
theorem dX9_readNumber_68 : decode cX9_readNumber 68 = .ok (.aload_n 0, 1) := by decide +kernel
theorem dX9_readNumber_69 : decode cX9_readNumber 69 = .ok (.iconst 2, 1) := by decide +kernel
theorem dX9_readNumber_70 : decode cX9_readNumber 70 = .ok (.putfield 22, 3) := by decide +kernel
theorem dX9_readNumber_73 : decode cX9_readNumber 73 = .ok (.return_, 1) := by decide +kernel
theorem dX9_readSign_0 : decode cX9_readSign 0 = .ok (.aload_n 0, 1) := by decide +kernel
theorem dX9_readSign_1 : decode cX9_readSign 1 = .ok (.getfield 19, 3) := by decide +kernel
theorem dX9_readSign_4 : decode cX9_readSign 4 = .ok (.iconst 1, 1) := by decide +kernel
theorem dX9_readSign_5 : decode cX9_readSign 5 = .ok (.iadd, 1) := by decide +kernel
theorem dX9_readSign_6 : decode cX9_readSign 6 = .ok (.aload_n 0, 1) := by decide +kernel
theorem dX9_readSign_7 : decode cX9_readSign 7 = .ok (.getfield 15, 3) := by decide +kernel
theorem dX9_readSign_10 : decode cX9_readSign 10 = .ok (.if_icmp .ge 17, 3) := by decide +kernel
theorem dX9_readSign_13 : decode cX9_readSign 13 = .ok (.aload_n 0, 1) := by decide +kernel
theorem dX9_readSign_14 : decode cX9_readSign 14 = .ok (.getfield 37, 3) := by decide +kernel
theorem dX9_readSign_17 : decode cX9_readSign 17 = .ok (.aload_n 0, 1) := by decide +kernel
theorem dX9_readSign_18 : decode cX9_readSign 18 = .ok (.getfield 19, 3) := by decide +kernel
theorem dX9_readSign_21 : decode cX9_readSign 21 = .ok (.iconst 1, 1) := by decide +kernel
theorem dX9_readSign_22 : decode cX9_readSign 22 = .ok (.iadd, 1) := by decide +kernel
theorem dX9_readSign_23 : decode cX9_readSign 23 = .ok (.baload, 1) := by decide +kernel
theorem dX9_readSign_24 : decode cX9_readSign 24 = .ok (.goto 4, 3) := by decide +kernel
theorem dX9_readSign_27 : decode cX9_readSign 27 = .ok (.iconst 0, 1) := by decide +kernel
theorem dX9_readSign_28 : decode cX9_readSign 28 = .ok (.istore_n 1, 1) := by decide +kernel
theorem dX9_readSign_29 : decode cX9_readSign 29 = .ok (.aload_n 0, 1) := by decide +kernel
theorem dX9_readSign_30 : decode cX9_readSign 30 = .ok (.aload_n 0, 1) := by decide +kernel
theorem dX9_readSign_31 : decode cX9_readSign 31 = .ok (.getfield 37, 3) := by decide +kernel
theorem dX9_readSign_34 : decode cX9_readSign 34 = .ok (.aload_n 0, 1) := by decide +kernel
theorem dX9_readSign_35 : decode cX9_readSign 35 = .ok (.getfield 19, 3) := by decide +kernel
theorem dX9_readSign_38 : decode cX9_readSign 38 = .ok (.baload, 1) := by decide +kernel
theorem dX9_readSign_39 : decode cX9_readSign 39 = .ok (.iload_n 1, 1) := by decide +kernel
theorem dX9_readSign_40 : decode cX9_readSign 40 = .ok (.invokestatic 85, 3) := by decide +kernel
theorem dX9_readSign_43 : decode cX9_readSign 43 = .ok (.putfield 22, 3) := by decide +kernel
theorem dX9_readSign_46 : decode cX9_readSign 46 = .ok (.aload_n 0, 1) := by decide +kernel
theorem dX9_readSign_47 : decode cX9_readSign 47 = .ok (.getfield 22, 3) := by decide +kernel
theorem dX9_readSign_50 : decode cX9_readSign 50 = .ok (.bipush 8, 2) := by decide +kernel
theorem dX9_readSign_52 : decode cX9_readSign 52 = .ok (.if_icmp .eq 21, 3) := by decide +kernel
theorem dX9_readSign_55 : decode cX9_readSign 55 = .ok (.aload_n 0, 1) := by decide +kernel
theorem dX9_readSign_56 : decode cX9_readSign 56 = .ok (.getfield 22, 3) := by decide +kernel
theorem dX9_readSign_59 : decode cX9_readSign 59 = .ok (.bipush 10, 2) := by decide +kernel
theorem dX9_readSign_61 : decode cX9_readSign 61 = .ok (.if_icmp .eq 12, 3) := by decide +kernel
theorem dX9_readSign_64 : decode cX9_readSign 64 = .ok (.aload_n 0, 1) := by decide +kernel
theorem dX9_readSign_65 : decode cX9_readSign 65 = .ok (.getfield 22, 3) := by decide +kernel
theorem dX9_readSign_68 : decode cX9_readSign 68 = .ok (.bipush 11, 2) := by decide +kernel
theorem dX9_readSign_70 : decode cX9_readSign 70 = .ok (.if_icmp .ne 7, 3) := by decide +kernel
theorem dX9_readSign_73 : decode cX9_readSign 73 = .ok (.iconst 1, 1) := by decide +kernel
theorem dX9_readSign_74 : decode cX9_readSign 74 = .ok (.goto 4, 3) := by decide +kernel
theorem dX9_readSign_77 : decode cX9_readSign 77 = .ok (.iconst 0, 1) := by decide +kernel
theorem dX9_readSign_78 : decode cX9_readSign 78 = .ok (.istore_n 2, 1) := by decide +kernel
theorem dX9_readSign_79 : decode cX9_readSign 79 = .ok (.aload_n 0, 1) := by decide +kernel
theorem dX9_readSign_80 : decode cX9_readSign 80 = .ok (.dup, 1) := by decide +kernel
theorem dX9_readSign_81 : decode cX9_readSign 81 = .ok (.getfield 19, 3) := by decide +kernel
theorem dX9_readSign_84 : decode cX9_readSign 84 = .ok (.iload_n 2, 1) := by decide +kernel
theorem dX9_readSign_85 : decode cX9_readSign 85 = .ok (.ifCond .eq 7, 3) := by decide +kernel
theorem dX9_readSign_88 : decode cX9_readSign 88 = .ok (.iconst 2, 1) := by decide +kernel
theorem dX9_readSign_89 : decode cX9_readSign 89 = .ok (.goto 4, 3) := by decide +kernel
theorem dX9_readSign_92 : decode cX9_readSign 92 = .ok (.iconst 1, 1) := by decide +kernel
theorem dX9_readSign_93 : decode cX9_readSign 93 = .ok (.iadd, 1) := by decide +kernel
theorem dX9_readSign_94 : decode cX9_readSign 94 = .ok (.putfield 19, 3) := by decide +kernel
theorem dX9_readSign_97 : decode cX9_readSign 97 = .ok (.return_, 1) := by decide +kernel
theorem dX9_readWord_0 : decode cX9_readWord 0 = .ok (.bipush 25, 2) := by decide +kernel
theorem dX9_readWord_2 : decode cX9_readWord 2 = .ok (.istore_n 1, 1) := by decide +kernel
theorem dX9_readWord_3 : decode cX9_readWord 3 = .ok (.aload_n 0, 1) := by decide +kernel
theorem dX9_readWord_4 : decode cX9_readWord 4 = .ok (.getfield 19, 3) := by decide +kernel
theorem dX9_readWord_7 : decode cX9_readWord 7 = .ok (.aload_n 0, 1) := by decide +kernel
theorem dX9_readWord_8 : decode cX9_readWord 8 = .ok (.getfield 15, 3) := by decide +kernel
theorem dX9_readWord_11 : decode cX9_readWord 11 = .ok (.if_icmp .ge 63, 3) := by decide +kernel
theorem dX9_readWord_14 : decode cX9_readWord 14 = .ok (.aload_n 0, 1) := by decide +kernel
theorem dX9_readWord_15 : decode cX9_readWord 15 = .ok (.getfield 37, 3) := by decide +kernel
theorem dX9_readWord_18 : decode cX9_readWord 18 = .ok (.aload_n 0, 1) := by decide +kernel
theorem dX9_readWord_19 : decode cX9_readWord 19 = .ok (.getfield 19, 3) := by decide +kernel
theorem dX9_readWord_22 : decode cX9_readWord 22 = .ok (.baload, 1) := by decide +kernel
theorem dX9_readWord_23 : decode cX9_readWord 23 = .ok (.invokestatic 68, 3) := by decide +kernel
theorem dX9_readWord_26 : decode cX9_readWord 26 = .ok (.ifCond .eq 48, 3) := by decide +kernel
theorem dX9_readWord_29 : decode cX9_readWord 29 = .ok (.iload_n 1, 1) := by decide +kernel
theorem dX9_readWord_30 : decode cX9_readWord 30 = .ok (.ifCond .lt 28, 3) := by decide +kernel
theorem dX9_readWord_33 : decode cX9_readWord 33 = .ok (.aload_n 0, 1) := by decide +kernel
theorem dX9_readWord_34 : decode cX9_readWord 34 = .ok (.dup, 1) := by decide +kernel
theorem dX9_readWord_35 : decode cX9_readWord 35 = .ok (.getfield 28, 3) := by decide +kernel
theorem dX9_readWord_38 : decode cX9_readWord 38 = .ok (.aload_n 0, 1) := by decide +kernel
theorem dX9_readWord_39 : decode cX9_readWord 39 = .ok (.getfield 37, 3) := by decide +kernel
theorem dX9_readWord_42 : decode cX9_readWord 42 = .ok (.aload_n 0, 1) := by decide +kernel
theorem dX9_readWord_43 : decode cX9_readWord 43 = .ok (.getfield 19, 3) := by decide +kernel
theorem dX9_readWord_46 : decode cX9_readWord 46 = .ok (.baload, 1) := by decide +kernel
theorem dX9_readWord_47 : decode cX9_readWord 47 = .ok (.bipush 97, 2) := by decide +kernel
theorem dX9_readWord_49 : decode cX9_readWord 49 = .ok (.isub, 1) := by decide +kernel
theorem dX9_readWord_50 : decode cX9_readWord 50 = .ok (.iconst 1, 1) := by decide +kernel
theorem dX9_readWord_51 : decode cX9_readWord 51 = .ok (.iadd, 1) := by decide +kernel
theorem dX9_readWord_52 : decode cX9_readWord 52 = .ok (.iload_n 1, 1) := by decide +kernel
theorem dX9_readWord_53 : decode cX9_readWord 53 = .ok (.ishl, 1) := by decide +kernel
theorem dX9_readWord_54 : decode cX9_readWord 54 = .ok (.ior, 1) := by decide +kernel
theorem dX9_readWord_55 : decode cX9_readWord 55 = .ok (.putfield 28, 3) := by decide +kernel
theorem dX9_readWord_58 : decode cX9_readWord 58 = .ok (.iinc 1 (-5), 3) := by decide +kernel
theorem dX9_readWord_61 : decode cX9_readWord 61 = .ok (.aload_n 0, 1) := by decide +kernel
theorem dX9_readWord_62 : decode cX9_readWord 62 = .ok (.dup, 1) := by decide +kernel
theorem dX9_readWord_63 : decode cX9_readWord 63 = .ok (.getfield 19, 3) := by decide +kernel
theorem dX9_readWord_66 : decode cX9_readWord 66 = .ok (.iconst 1, 1) := by decide +kernel
theorem dX9_readWord_67 : decode cX9_readWord 67 = .ok (.iadd, 1) := by decide +kernel
theorem dX9_readWord_68 : decode cX9_readWord 68 = .ok (.putfield 19, 3) := by decide +kernel
theorem dX9_readWord_71 : decode cX9_readWord 71 = .ok (.goto (-68), 3) := by decide +kernel
theorem dX9_readWord_74 : decode cX9_readWord 74 = .ok (.aload_n 0, 1) := by decide +kernel
theorem dX9_readWord_75 : decode cX9_readWord 75 = .ok (.iload_n 1, 1) := by decide +kernel
theorem dX9_readWord_76 : decode cX9_readWord 76 = .ok (.bipush (-5), 2) := by decide +kernel
theorem dX9_readWord_78 : decode cX9_readWord 78 = .ok (.if_icmp .lt 7, 3) := by decide +kernel
theorem dX9_readWord_81 : decode cX9_readWord 81 = .ok (.iconst 3, 1) := by decide +kernel
theorem dX9_readWord_82 : decode cX9_readWord 82 = .ok (.goto 4, 3) := by decide +kernel
theorem dX9_readWord_85 : decode cX9_readWord 85 = .ok (.iconst 1, 1) := by decide +kernel
theorem dX9_readWord_86 : decode cX9_readWord 86 = .ok (.putfield 22, 3) := by decide +kernel
theorem dX9_readWord_89 : decode cX9_readWord 89 = .ok (.iconst 0, 1) := by decide +kernel
theorem dX9_readWord_90 : decode cX9_readWord 90 = .ok (.istore_n 2, 1) := by decide +kernel
theorem dX9_readWord_91 : decode cX9_readWord 91 = .ok (.iload_n 2, 1) := by decide +kernel
theorem dX9_readWord_92 : decode cX9_readWord 92 = .ok (.bipush 23, 2) := by decide +kernel
theorem dX9_readWord_94 : decode cX9_readWord 94 = .ok (.if_icmp .ge 38, 3) := by decide +kernel
theorem dX9_readWord_97 : decode cX9_readWord 97 = .ok (.aload_n 0, 1) := by decide +kernel
theorem dX9_readWord_98 : decode cX9_readWord 98 = .ok (.getfield 22, 3) := by decide +kernel
theorem dX9_readWord_101 : decode cX9_readWord 101 = .ok (.iconst 3, 1) := by decide +kernel
theorem dX9_readWord_102 : decode cX9_readWord 102 = .ok (.if_icmp .ne 30, 3) := by decide +kernel
theorem dX9_readWord_105 : decode cX9_readWord 105 = .ok (.aload_n 0, 1) := by decide +kernel
theorem dX9_readWord_106 : decode cX9_readWord 106 = .ok (.getfield 9, 3) := by decide +kernel
theorem dX9_readWord_109 : decode cX9_readWord 109 = .ok (.iload_n 2, 1) := by decide +kernel
theorem dX9_readWord_110 : decode cX9_readWord 110 = .ok (.iaload, 1) := by decide +kernel
theorem dX9_readWord_111 : decode cX9_readWord 111 = .ok (.aload_n 0, 1) := by decide +kernel
theorem dX9_readWord_112 : decode cX9_readWord 112 = .ok (.getfield 28, 3) := by decide +kernel
theorem dX9_readWord_115 : decode cX9_readWord 115 = .ok (.if_icmp .ne 11, 3) := by decide +kernel
theorem dX9_readWord_118 : decode cX9_readWord 118 = .ok (.aload_n 0, 1) := by decide +kernel
theorem dX9_readWord_119 : decode cX9_readWord 119 = .ok (.bipush 17, 2) := by decide +kernel
theorem dX9_readWord_121 : decode cX9_readWord 121 = .ok (.iload_n 2, 1) := by decide +kernel
theorem dX9_readWord_122 : decode cX9_readWord 122 = .ok (.iadd, 1) := by decide +kernel
theorem dX9_readWord_123 : decode cX9_readWord 123 = .ok (.putfield 22, 3) := by decide +kernel
theorem dX9_readWord_126 : decode cX9_readWord 126 = .ok (.iinc 2 1, 3) := by decide +kernel
theorem dX9_readWord_129 : decode cX9_readWord 129 = .ok (.goto (-38), 3) := by decide +kernel
theorem dX9_readWord_132 : decode cX9_readWord 132 = .ok (.return_, 1) := by decide +kernel
theorem dX9_signKind_0 : decode cX9_signKind 0 = .ok (.iload_n 0, 1) := by decide +kernel
theorem dX9_signKind_1 : decode cX9_signKind 1 = .ok (.tableswitch 168 40 62 #[109, 111, 162, 156, 168, 159, 168, 165, 168, 168, 168, 168, 168, 168, 168, 168, 168, 168, 168, 107, 114, 139, 142], 107) := by decide +kernel
theorem dX9_signKind_108 : decode cX9_signKind 108 = .ok (.iconst 4, 1) := by decide +kernel
theorem dX9_signKind_109 : decode cX9_signKind 109 = .ok (.ireturn, 1) := by decide +kernel
theorem dX9_signKind_110 : decode cX9_signKind 110 = .ok (.iconst 5, 1) := by decide +kernel
theorem dX9_signKind_111 : decode cX9_signKind 111 = .ok (.ireturn, 1) := by decide +kernel
theorem dX9_signKind_112 : decode cX9_signKind 112 = .ok (.bipush 6, 2) := by decide +kernel
theorem dX9_signKind_114 : decode cX9_signKind 114 = .ok (.ireturn, 1) := by decide +kernel
theorem dX9_signKind_115 : decode cX9_signKind 115 = .ok (.iload_n 1, 1) := by decide +kernel
theorem dX9_signKind_116 : decode cX9_signKind 116 = .ok (.bipush 61, 2) := by decide +kernel
theorem dX9_signKind_118 : decode cX9_signKind 118 = .ok (.if_icmp .ne 8, 3) := by decide +kernel
theorem dX9_signKind_121 : decode cX9_signKind 121 = .ok (.bipush 8, 2) := by decide +kernel
theorem dX9_signKind_123 : decode cX9_signKind 123 = .ok (.goto 16, 3) := by decide +kernel
theorem dX9_signKind_126 : decode cX9_signKind 126 = .ok (.iload_n 1, 1) := by decide +kernel
theorem dX9_signKind_127 : decode cX9_signKind 127 = .ok (.bipush 62, 2) := by decide +kernel
theorem dX9_signKind_129 : decode cX9_signKind 129 = .ok (.if_icmp .ne 8, 3) := by decide +kernel
theorem dX9_signKind_132 : decode cX9_signKind 132 = .ok (.bipush 10, 2) := by decide +kernel
theorem dX9_signKind_134 : decode cX9_signKind 134 = .ok (.goto 5, 3) := by decide +kernel
theorem dX9_signKind_137 : decode cX9_signKind 137 = .ok (.bipush 7, 2) := by decide +kernel
theorem dX9_signKind_139 : decode cX9_signKind 139 = .ok (.ireturn, 1) := by decide +kernel
theorem dX9_signKind_140 : decode cX9_signKind 140 = .ok (.bipush 9, 2) := by decide +kernel
theorem dX9_signKind_142 : decode cX9_signKind 142 = .ok (.ireturn, 1) := by decide +kernel
theorem dX9_signKind_143 : decode cX9_signKind 143 = .ok (.iload_n 1, 1) := by decide +kernel
theorem dX9_signKind_144 : decode cX9_signKind 144 = .ok (.bipush 61, 2) := by decide +kernel
theorem dX9_signKind_146 : decode cX9_signKind 146 = .ok (.if_icmp .ne 8, 3) := by decide +kernel
theorem dX9_signKind_149 : decode cX9_signKind 149 = .ok (.bipush 11, 2) := by decide +kernel
theorem dX9_signKind_151 : decode cX9_signKind 151 = .ok (.goto 5, 3) := by decide +kernel
theorem dX9_signKind_154 : decode cX9_signKind 154 = .ok (.bipush 12, 2) := by decide +kernel
theorem dX9_signKind_156 : decode cX9_signKind 156 = .ok (.ireturn, 1) := by decide +kernel
theorem dX9_signKind_157 : decode cX9_signKind 157 = .ok (.bipush 13, 2) := by decide +kernel
theorem dX9_signKind_159 : decode cX9_signKind 159 = .ok (.ireturn, 1) := by decide +kernel
theorem dX9_signKind_160 : decode cX9_signKind 160 = .ok (.bipush 14, 2) := by decide +kernel
theorem dX9_signKind_162 : decode cX9_signKind 162 = .ok (.ireturn, 1) := by decide +kernel
theorem dX9_signKind_163 : decode cX9_signKind 163 = .ok (.bipush 15, 2) := by decide +kernel
theorem dX9_signKind_165 : decode cX9_signKind 165 = .ok (.ireturn, 1) := by decide +kernel
theorem dX9_signKind_166 : decode cX9_signKind 166 = .ok (.bipush 16, 2) := by decide +kernel
theorem dX9_signKind_168 : decode cX9_signKind 168 = .ok (.ireturn, 1) := by decide +kernel
theorem dX9_signKind_169 : decode cX9_signKind 169 = .ok (.iconst 1, 1) := by decide +kernel
theorem dX9_signKind_170 : decode cX9_signKind 170 = .ok (.ireturn, 1) := by decide +kernel
theorem dX9_start_0 : decode cX9_start 0 = .ok (.aload_n 0, 1) := by decide +kernel
theorem dX9_start_1 : decode cX9_start 1 = .ok (.iload_n 1, 1) := by decide +kernel
theorem dX9_start_2 : decode cX9_start 2 = .ok (.aload_n 0, 1) := by decide +kernel
theorem dX9_start_3 : decode cX9_start 3 = .ok (.getfield 37, 3) := by decide +kernel
theorem dX9_start_6 : decode cX9_start 6 = .ok (.arraylength, 1) := by decide +kernel
theorem dX9_start_7 : decode cX9_start 7 = .ok (.invokestatic 59, 3) := by decide +kernel
theorem dX9_start_10 : decode cX9_start 10 = .ok (.putfield 15, 3) := by decide +kernel
theorem dX9_start_13 : decode cX9_start 13 = .ok (.aload_n 0, 1) := by decide +kernel
theorem dX9_start_14 : decode cX9_start 14 = .ok (.iconst 0, 1) := by decide +kernel
theorem dX9_start_15 : decode cX9_start 15 = .ok (.putfield 19, 3) := by decide +kernel
theorem dX9_start_18 : decode cX9_start 18 = .ok (.aload_n 0, 1) := by decide +kernel
theorem dX9_start_19 : decode cX9_start 19 = .ok (.iconst 0, 1) := by decide +kernel
theorem dX9_start_20 : decode cX9_start 20 = .ok (.putfield 31, 3) := by decide +kernel
theorem dX9_start_23 : decode cX9_start 23 = .ok (.aload_n 0, 1) := by decide +kernel
theorem dX9_start_24 : decode cX9_start 24 = .ok (.iconst (-1), 1) := by decide +kernel
theorem dX9_start_25 : decode cX9_start 25 = .ok (.putfield 34, 3) := by decide +kernel
theorem dX9_start_28 : decode cX9_start 28 = .ok (.aload_n 0, 1) := by decide +kernel
theorem dX9_start_29 : decode cX9_start 29 = .ok (.invokevirtual 65, 3) := by decide +kernel
theorem dX9_start_32 : decode cX9_start 32 = .ok (.return_, 1) := by decide +kernel
theorem dX10_init_0 : decode cX10_init 0 = .ok (.aload_n 0, 1) := by decide +kernel
theorem dX10_init_1 : decode cX10_init 1 = .ok (.invokespecial 3, 3) := by decide +kernel
theorem dX10_init_4 : decode cX10_init 4 = .ok (.aload_n 0, 1) := by decide +kernel
theorem dX10_init_5 : decode cX10_init 5 = .ok (.iconst 3, 1) := by decide +kernel
theorem dX10_init_6 : decode cX10_init 6 = .ok (.newarray .int, 2) := by decide +kernel
theorem dX10_init_8 : decode cX10_init 8 = .ok (.putfield 9, 3) := by decide +kernel
theorem dX10_init_11 : decode cX10_init 11 = .ok (.aload_n 0, 1) := by decide +kernel
theorem dX10_init_12 : decode cX10_init 12 = .ok (.bipush 6, 2) := by decide +kernel
theorem dX10_init_14 : decode cX10_init 14 = .ok (.newarray .int, 2) := by decide +kernel
theorem dX10_init_16 : decode cX10_init 16 = .ok (.putfield 15, 3) := by decide +kernel
theorem dX10_init_19 : decode cX10_init 19 = .ok (.aload_n 0, 1) := by decide +kernel
theorem dX10_init_20 : decode cX10_init 20 = .ok (.iconst 3, 1) := by decide +kernel
theorem dX10_init_21 : decode cX10_init 21 = .ok (.newarray .int, 2) := by decide +kernel
theorem dX10_init_23 : decode cX10_init 23 = .ok (.putfield 18, 3) := by decide +kernel
theorem dX10_init_26 : decode cX10_init 26 = .ok (.aload_n 0, 1) := by decide +kernel
theorem dX10_init_27 : decode cX10_init 27 = .ok (.bipush 12, 2) := by decide +kernel
theorem dX10_init_29 : decode cX10_init 29 = .ok (.newarray .int, 2) := by decide +kernel
theorem dX10_init_31 : decode cX10_init 31 = .ok (.putfield 21, 3) := by decide +kernel
theorem dX10_init_34 : decode cX10_init 34 = .ok (.aload_n 0, 1) := by decide +kernel
theorem dX10_init_35 : decode cX10_init 35 = .ok (.bipush 12, 2) := by decide +kernel
theorem dX10_init_37 : decode cX10_init 37 = .ok (.newarray .int, 2) := by decide +kernel
theorem dX10_init_39 : decode cX10_init 39 = .ok (.putfield 24, 3) := by decide +kernel
theorem dX10_init_42 : decode cX10_init 42 = .ok (.aload_n 0, 1) := by decide +kernel
theorem dX10_init_43 : decode cX10_init 43 = .ok (.bipush 12, 2) := by decide +kernel
theorem dX10_init_45 : decode cX10_init 45 = .ok (.newarray .int, 2) := by decide +kernel
theorem dX10_init_47 : decode cX10_init 47 = .ok (.putfield 27, 3) := by decide +kernel
theorem dX10_init_50 : decode cX10_init 50 = .ok (.aload_n 0, 1) := by decide +kernel
theorem dX10_init_51 : decode cX10_init 51 = .ok (.iconst 0, 1) := by decide +kernel
theorem dX10_init_52 : decode cX10_init 52 = .ok (.putfield 30, 3) := by decide +kernel
theorem dX10_init_55 : decode cX10_init 55 = .ok (.aload_n 0, 1) := by decide +kernel
theorem dX10_init_56 : decode cX10_init 56 = .ok (.iconst 0, 1) := by decide +kernel
theorem dX10_init_57 : decode cX10_init 57 = .ok (.putfield 34, 3) := by decide +kernel
theorem dX10_init_60 : decode cX10_init 60 = .ok (.aload_n 0, 1) := by decide +kernel
theorem dX10_init_61 : decode cX10_init 61 = .ok (.iconst 0, 1) := by decide +kernel
theorem dX10_init_62 : decode cX10_init 62 = .ok (.putfield 37, 3) := by decide +kernel
theorem dX10_init_65 : decode cX10_init 65 = .ok (.aload_n 0, 1) := by decide +kernel
theorem dX10_init_66 : decode cX10_init 66 = .ok (.iconst 0, 1) := by decide +kernel
theorem dX10_init_67 : decode cX10_init 67 = .ok (.putfield 40, 3) := by decide +kernel
theorem dX10_init_70 : decode cX10_init 70 = .ok (.aload_n 0, 1) := by decide +kernel
theorem dX10_init_71 : decode cX10_init 71 = .ok (.iconst 0, 1) := by decide +kernel
theorem dX10_init_72 : decode cX10_init 72 = .ok (.putfield 43, 3) := by decide +kernel
theorem dX10_init_75 : decode cX10_init 75 = .ok (.aload_n 0, 1) := by decide +kernel
theorem dX10_init_76 : decode cX10_init 76 = .ok (.iconst (-1), 1) := by decide +kernel
theorem dX10_init_77 : decode cX10_init 77 = .ok (.putfield 46, 3) := by decide +kernel
theorem dX10_init_80 : decode cX10_init 80 = .ok (.aload_n 0, 1) := by decide +kernel
theorem dX10_init_81 : decode cX10_init 81 = .ok (.iconst 0, 1) := by decide +kernel
theorem dX10_init_82 : decode cX10_init 82 = .ok (.putfield 49, 3) := by decide +kernel
theorem dX10_init_85 : decode cX10_init 85 = .ok (.return_, 1) := by decide +kernel
theorem dX10_allCoin_0 : decode cX10_allCoin 0 = .ok (.aload_n 0, 1) := by decide +kernel
theorem dX10_allCoin_1 : decode cX10_allCoin 1 = .ok (.getfield 37, 3) := by decide +kernel
theorem dX10_allCoin_4 : decode cX10_allCoin 4 = .ok (.aload_n 0, 1) := by decide +kernel
theorem dX10_allCoin_5 : decode cX10_allCoin 5 = .ok (.getfield 40, 3) := by decide +kernel
theorem dX10_allCoin_8 : decode cX10_allCoin 8 = .ok (.iadd, 1) := by decide +kernel
theorem dX10_allCoin_9 : decode cX10_allCoin 9 = .ok (.istore_n 1, 1) := by decide +kernel
theorem dX10_allCoin_10 : decode cX10_allCoin 10 = .ok (.aload_n 0, 1) := by decide +kernel
theorem dX10_allCoin_11 : decode cX10_allCoin 11 = .ok (.getfield 9, 3) := by decide +kernel
theorem dX10_allCoin_14 : decode cX10_allCoin 14 = .ok (.astore_n 2, 1) := by decide +kernel
theorem dX10_allCoin_15 : decode cX10_allCoin 15 = .ok (.aload_n 2, 1) := by decide +kernel
theorem dX10_allCoin_16 : decode cX10_allCoin 16 = .ok (.arraylength, 1) := by decide +kernel
theorem dX10_allCoin_17 : decode cX10_allCoin 17 = .ok (.istore_n 3, 1) := by decide +kernel
theorem dX10_allCoin_18 : decode cX10_allCoin 18 = .ok (.iconst 0, 1) := by decide +kernel
theorem dX10_allCoin_19 : decode cX10_allCoin 19 = .ok (.istore 4, 2) := by decide +kernel
theorem dX10_allCoin_21 : decode cX10_allCoin 21 = .ok (.iload 4, 2) := by decide +kernel
theorem dX10_allCoin_23 : decode cX10_allCoin 23 = .ok (.iload_n 3, 1) := by decide +kernel
theorem dX10_allCoin_24 : decode cX10_allCoin 24 = .ok (.if_icmp .ge 20, 3) := by decide +kernel
theorem dX10_allCoin_27 : decode cX10_allCoin 27 = .ok (.aload_n 2, 1) := by decide +kernel
theorem dX10_allCoin_28 : decode cX10_allCoin 28 = .ok (.iload 4, 2) := by decide +kernel
theorem dX10_allCoin_30 : decode cX10_allCoin 30 = .ok (.iaload, 1) := by decide +kernel
theorem dX10_allCoin_31 : decode cX10_allCoin 31 = .ok (.istore 5, 2) := by decide +kernel
theorem dX10_allCoin_33 : decode cX10_allCoin 33 = .ok (.iload_n 1, 1) := by decide +kernel
theorem dX10_allCoin_34 : decode cX10_allCoin 34 = .ok (.iload 5, 2) := by decide +kernel
theorem dX10_allCoin_36 : decode cX10_allCoin 36 = .ok (.iadd, 1) := by decide +kernel
theorem dX10_allCoin_37 : decode cX10_allCoin 37 = .ok (.istore_n 1, 1) := by decide +kernel
theorem dX10_allCoin_38 : decode cX10_allCoin 38 = .ok (.iinc 4 1, 3) := by decide +kernel
theorem dX10_allCoin_41 : decode cX10_allCoin 41 = .ok (.goto (-20), 3) := by decide +kernel
theorem dX10_allCoin_44 : decode cX10_allCoin 44 = .ok (.aload_n 0, 1) := by decide +kernel
theorem dX10_allCoin_45 : decode cX10_allCoin 45 = .ok (.getfield 18, 3) := by decide +kernel
theorem dX10_allCoin_48 : decode cX10_allCoin 48 = .ok (.astore_n 2, 1) := by decide +kernel
theorem dX10_allCoin_49 : decode cX10_allCoin 49 = .ok (.aload_n 2, 1) := by decide +kernel
theorem dX10_allCoin_50 : decode cX10_allCoin 50 = .ok (.arraylength, 1) := by decide +kernel
theorem dX10_allCoin_51 : decode cX10_allCoin 51 = .ok (.istore_n 3, 1) := by decide +kernel
theorem dX10_allCoin_52 : decode cX10_allCoin 52 = .ok (.iconst 0, 1) := by decide +kernel
theorem dX10_allCoin_53 : decode cX10_allCoin 53 = .ok (.istore 4, 2) := by decide +kernel
theorem dX10_allCoin_55 : decode cX10_allCoin 55 = .ok (.iload 4, 2) := by decide +kernel
theorem dX10_allCoin_57 : decode cX10_allCoin 57 = .ok (.iload_n 3, 1) := by decide +kernel
theorem dX10_allCoin_58 : decode cX10_allCoin 58 = .ok (.if_icmp .ge 20, 3) := by decide +kernel
theorem dX10_allCoin_61 : decode cX10_allCoin 61 = .ok (.aload_n 2, 1) := by decide +kernel
theorem dX10_allCoin_62 : decode cX10_allCoin 62 = .ok (.iload 4, 2) := by decide +kernel
theorem dX10_allCoin_64 : decode cX10_allCoin 64 = .ok (.iaload, 1) := by decide +kernel
theorem dX10_allCoin_65 : decode cX10_allCoin 65 = .ok (.istore 5, 2) := by decide +kernel
theorem dX10_allCoin_67 : decode cX10_allCoin 67 = .ok (.iload_n 1, 1) := by decide +kernel
theorem dX10_allCoin_68 : decode cX10_allCoin 68 = .ok (.iload 5, 2) := by decide +kernel
theorem dX10_allCoin_70 : decode cX10_allCoin 70 = .ok (.iadd, 1) := by decide +kernel
theorem dX10_allCoin_71 : decode cX10_allCoin 71 = .ok (.istore_n 1, 1) := by decide +kernel
theorem dX10_allCoin_72 : decode cX10_allCoin 72 = .ok (.iinc 4 1, 3) := by decide +kernel
theorem dX10_allCoin_75 : decode cX10_allCoin 75 = .ok (.goto (-20), 3) := by decide +kernel
theorem dX10_allCoin_78 : decode cX10_allCoin 78 = .ok (.iload_n 1, 1) := by decide +kernel
theorem dX10_allCoin_79 : decode cX10_allCoin 79 = .ok (.ireturn, 1) := by decide +kernel
theorem dX10_begin_0 : decode cX10_begin 0 = .ok (.aload_n 0, 1) := by decide +kernel
theorem dX10_begin_1 : decode cX10_begin 1 = .ok (.getfield 9, 3) := by decide +kernel
theorem dX10_begin_4 : decode cX10_begin 4 = .ok (.iconst 0, 1) := by decide +kernel
theorem dX10_begin_5 : decode cX10_begin 5 = .ok (.invokestatic 52, 3) := by decide +kernel
theorem dX10_begin_8 : decode cX10_begin 8 = .ok (.aload_n 0, 1) := by decide +kernel
theorem dX10_begin_9 : decode cX10_begin 9 = .ok (.getfield 18, 3) := by decide +kernel
theorem dX10_begin_12 : decode cX10_begin 12 = .ok (.iconst 0, 1) := by decide +kernel
theorem dX10_begin_13 : decode cX10_begin 13 = .ok (.invokestatic 52, 3) := by decide +kernel
theorem dX10_begin_16 : decode cX10_begin 16 = .ok (.aload_n 0, 1) := by decide +kernel
theorem dX10_begin_17 : decode cX10_begin 17 = .ok (.getfield 15, 3) := by decide +kernel
theorem dX10_begin_20 : decode cX10_begin 20 = .ok (.iconst 0, 1) := by decide +kernel
theorem dX10_begin_21 : decode cX10_begin 21 = .ok (.invokestatic 52, 3) := by decide +kernel
theorem dX10_begin_24 : decode cX10_begin 24 = .ok (.aload_n 1, 1) := by decide +kernel
theorem dX10_begin_25 : decode cX10_begin 25 = .ok (.getfield 58, 3) := by decide +kernel
theorem dX10_begin_28 : decode cX10_begin 28 = .ok (.iconst 0, 1) := by decide +kernel
theorem dX10_begin_29 : decode cX10_begin 29 = .ok (.aload_n 0, 1) := by decide +kernel
theorem dX10_begin_30 : decode cX10_begin 30 = .ok (.getfield 9, 3) := by decide +kernel
theorem dX10_begin_33 : decode cX10_begin 33 = .ok (.iconst 0, 1) := by decide +kernel
theorem dX10_begin_34 : decode cX10_begin 34 = .ok (.aload_n 1, 1) := by decide +kernel
theorem dX10_begin_35 : decode cX10_begin 35 = .ok (.getfield 61, 3) := by decide +kernel
theorem dX10_begin_38 : decode cX10_begin 38 = .ok (.getfield 65, 3) := by decide +kernel
theorem dX10_begin_41 : decode cX10_begin 41 = .ok (.invokestatic 70, 3) := by decide +kernel
theorem dX10_begin_44 : decode cX10_begin 44 = .ok (.aload_n 1, 1) := by decide +kernel
theorem dX10_begin_45 : decode cX10_begin 45 = .ok (.getfield 76, 3) := by decide +kernel
theorem dX10_begin_48 : decode cX10_begin 48 = .ok (.iconst 0, 1) := by decide +kernel
theorem dX10_begin_49 : decode cX10_begin 49 = .ok (.aload_n 0, 1) := by decide +kernel
theorem dX10_begin_50 : decode cX10_begin 50 = .ok (.getfield 18, 3) := by decide +kernel
theorem dX10_begin_53 : decode cX10_begin 53 = .ok (.iconst 0, 1) := by decide +kernel
theorem dX10_begin_54 : decode cX10_begin 54 = .ok (.aload_n 1, 1) := by decide +kernel
theorem dX10_begin_55 : decode cX10_begin 55 = .ok (.getfield 77, 3) := by decide +kernel
theorem dX10_begin_58 : decode cX10_begin 58 = .ok (.getfield 65, 3) := by decide +kernel
theorem dX10_begin_61 : decode cX10_begin 61 = .ok (.invokestatic 70, 3) := by decide +kernel
theorem dX10_begin_64 : decode cX10_begin 64 = .ok (.aload_n 0, 1) := by decide +kernel
theorem dX10_begin_65 : decode cX10_begin 65 = .ok (.invokevirtual 80, 3) := by decide +kernel
theorem dX10_begin_68 : decode cX10_begin 68 = .ok (.aload_n 0, 1) := by decide +kernel
theorem dX10_begin_69 : decode cX10_begin 69 = .ok (.iconst 0, 1) := by decide +kernel
theorem dX10_begin_70 : decode cX10_begin 70 = .ok (.putfield 34, 3) := by decide +kernel
theorem dX10_begin_73 : decode cX10_begin 73 = .ok (.aload_n 0, 1) := by decide +kernel
theorem dX10_begin_74 : decode cX10_begin 74 = .ok (.aload_n 1, 1) := by decide +kernel
theorem dX10_begin_75 : decode cX10_begin 75 = .ok (.getfield 83, 3) := by decide +kernel
theorem dX10_begin_78 : decode cX10_begin 78 = .ok (.putfield 37, 3) := by decide +kernel
theorem dX10_begin_81 : decode cX10_begin 81 = .ok (.aload_n 0, 1) := by decide +kernel
theorem dX10_begin_82 : decode cX10_begin 82 = .ok (.iconst 0, 1) := by decide +kernel
theorem dX10_begin_83 : decode cX10_begin 83 = .ok (.putfield 40, 3) := by decide +kernel
theorem dX10_begin_86 : decode cX10_begin 86 = .ok (.aload_n 0, 1) := by decide +kernel
theorem dX10_begin_87 : decode cX10_begin 87 = .ok (.iconst 0, 1) := by decide +kernel
theorem dX10_begin_88 : decode cX10_begin 88 = .ok (.putfield 43, 3) := by decide +kernel
theorem dX10_begin_91 : decode cX10_begin 91 = .ok (.aload_n 0, 1) := by decide +kernel
theorem dX10_begin_92 : decode cX10_begin 92 = .ok (.iconst (-1), 1) := by decide +kernel
theorem dX10_begin_93 : decode cX10_begin 93 = .ok (.putfield 46, 3) := by decide +kernel
theorem dX10_begin_96 : decode cX10_begin 96 = .ok (.aload_n 0, 1) := by decide +kernel
theorem dX10_begin_97 : decode cX10_begin 97 = .ok (.aload_n 1, 1) := by decide +kernel
theorem dX10_begin_98 : decode cX10_begin 98 = .ok (.getfield 84, 3) := by decide +kernel
theorem dX10_begin_101 : decode cX10_begin 101 = .ok (.putfield 49, 3) := by decide +kernel
theorem dX10_begin_104 : decode cX10_begin 104 = .ok (.return_, 1) := by decide +kernel
theorem dX10_dismiss_0 : decode cX10_dismiss 0 = .ok (.aload_n 0, 1) := by decide +kernel
theorem dX10_dismiss_1 : decode cX10_dismiss 1 = .ok (.getfield 30, 3) := by decide +kernel
theorem dX10_dismiss_4 : decode cX10_dismiss 4 = .ok (.ifCond .ne 4, 3) := by decide +kernel
theorem dX10_dismiss_7 : decode cX10_dismiss 7 = .ok (.return_, 1) := by decide +kernel
theorem dX10_dismiss_8 : decode cX10_dismiss 8 = .ok (.aload_n 0, 1) := by decide +kernel
theorem dX10_dismiss_9 : decode cX10_dismiss 9 = .ok (.dup, 1) := by decide +kernel
theorem dX10_dismiss_10 : decode cX10_dismiss 10 = .ok (.getfield 30, 3) := by decide +kernel
theorem dX10_dismiss_13 : decode cX10_dismiss 13 = .ok (.iconst 1, 1) := by decide +kernel
theorem dX10_dismiss_14 : decode cX10_dismiss 14 = .ok (.isub, 1) := by decide +kernel
theorem dX10_dismiss_15 : decode cX10_dismiss 15 = .ok (.putfield 30, 3) := by decide +kernel
theorem dX10_dismiss_18 : decode cX10_dismiss 18 = .ok (.aload_n 0, 1) := by decide +kernel
theorem dX10_dismiss_19 : decode cX10_dismiss 19 = .ok (.getfield 21, 3) := by decide +kernel
theorem dX10_dismiss_22 : decode cX10_dismiss 22 = .ok (.aload_n 0, 1) := by decide +kernel
theorem dX10_dismiss_23 : decode cX10_dismiss 23 = .ok (.getfield 24, 3) := by decide +kernel
theorem dX10_dismiss_26 : decode cX10_dismiss 26 = .ok (.aload_n 0, 1) := by decide +kernel
theorem dX10_dismiss_27 : decode cX10_dismiss 27 = .ok (.getfield 30, 3) := by decide +kernel
theorem dX10_dismiss_30 : decode cX10_dismiss 30 = .ok (.iaload, 1) := by decide +kernel
theorem dX10_dismiss_31 : decode cX10_dismiss 31 = .ok (.iconst (-1), 1) := by decide +kernel
theorem dX10_dismiss_32 : decode cX10_dismiss 32 = .ok (.iastore, 1) := by decide +kernel
theorem dX10_dismiss_33 : decode cX10_dismiss 33 = .ok (.aload_n 0, 1) := by decide +kernel
theorem dX10_dismiss_34 : decode cX10_dismiss 34 = .ok (.dup, 1) := by decide +kernel
theorem dX10_dismiss_35 : decode cX10_dismiss 35 = .ok (.getfield 37, 3) := by decide +kernel
theorem dX10_dismiss_38 : decode cX10_dismiss 38 = .ok (.aload_n 0, 1) := by decide +kernel
theorem dX10_dismiss_39 : decode cX10_dismiss 39 = .ok (.getfield 27, 3) := by decide +kernel
theorem dX10_dismiss_42 : decode cX10_dismiss 42 = .ok (.aload_n 0, 1) := by decide +kernel
theorem dX10_dismiss_43 : decode cX10_dismiss 43 = .ok (.getfield 30, 3) := by decide +kernel
theorem dX10_dismiss_46 : decode cX10_dismiss 46 = .ok (.iaload, 1) := by decide +kernel
theorem dX10_dismiss_47 : decode cX10_dismiss 47 = .ok (.iadd, 1) := by decide +kernel
theorem dX10_dismiss_48 : decode cX10_dismiss 48 = .ok (.putfield 37, 3) := by decide +kernel
theorem dX10_dismiss_51 : decode cX10_dismiss 51 = .ok (.iload_n 1, 1) := by decide +kernel
theorem dX10_dismiss_52 : decode cX10_dismiss 52 = .ok (.iconst (-1), 1) := by decide +kernel
theorem dX10_dismiss_53 : decode cX10_dismiss 53 = .ok (.if_icmp .eq 21, 3) := by decide +kernel
theorem dX10_dismiss_56 : decode cX10_dismiss 56 = .ok (.aload_n 0, 1) := by decide +kernel
theorem dX10_dismiss_57 : decode cX10_dismiss 57 = .ok (.getfield 9, 3) := by decide +kernel
theorem dX10_dismiss_60 : decode cX10_dismiss 60 = .ok (.iload_n 1, 1) := by decide +kernel
theorem dX10_dismiss_61 : decode cX10_dismiss 61 = .ok (.dup2, 1) := by decide +kernel
theorem dX10_dismiss_62 : decode cX10_dismiss 62 = .ok (.iaload, 1) := by decide +kernel
theorem dX10_dismiss_63 : decode cX10_dismiss 63 = .ok (.aload_n 0, 1) := by decide +kernel
theorem dX10_dismiss_64 : decode cX10_dismiss 64 = .ok (.getfield 27, 3) := by decide +kernel
theorem dX10_dismiss_67 : decode cX10_dismiss 67 = .ok (.aload_n 0, 1) := by decide +kernel
theorem dX10_dismiss_68 : decode cX10_dismiss 68 = .ok (.getfield 30, 3) := by decide +kernel
theorem dX10_dismiss_71 : decode cX10_dismiss 71 = .ok (.iaload, 1) := by decide +kernel
theorem dX10_dismiss_72 : decode cX10_dismiss 72 = .ok (.isub, 1) := by decide +kernel
theorem dX10_dismiss_73 : decode cX10_dismiss 73 = .ok (.iastore, 1) := by decide +kernel
theorem dX10_dismiss_74 : decode cX10_dismiss 74 = .ok (.return_, 1) := by decide +kernel
theorem dX10_dismissAll_0 : decode cX10_dismissAll 0 = .ok (.aload_n 0, 1) := by decide +kernel
theorem dX10_dismissAll_1 : decode cX10_dismissAll 1 = .ok (.iconst 0, 1) := by decide +kernel
theorem dX10_dismissAll_2 : decode cX10_dismissAll 2 = .ok (.putfield 30, 3) := by decide +kernel
theorem dX10_dismissAll_5 : decode cX10_dismissAll 5 = .ok (.aload_n 0, 1) := by decide +kernel
theorem dX10_dismissAll_6 : decode cX10_dismissAll 6 = .ok (.getfield 21, 3) := by decide +kernel
theorem dX10_dismissAll_9 : decode cX10_dismissAll 9 = .ok (.iconst (-1), 1) := by decide +kernel
theorem dX10_dismissAll_10 : decode cX10_dismissAll 10 = .ok (.invokestatic 52, 3) := by decide +kernel
theorem dX10_dismissAll_13 : decode cX10_dismissAll 13 = .ok (.return_, 1) := by decide +kernel
theorem dX10_enlist_0 : decode cX10_enlist 0 = .ok (.aload_n 0, 1) := by decide +kernel
theorem dX10_enlist_1 : decode cX10_enlist 1 = .ok (.getfield 30, 3) := by decide +kernel
theorem dX10_enlist_4 : decode cX10_enlist 4 = .ok (.bipush 12, 2) := by decide +kernel
theorem dX10_enlist_6 : decode cX10_enlist 6 = .ok (.if_icmp .lt 4, 3) := by decide +kernel
theorem dX10_enlist_9 : decode cX10_enlist 9 = .ok (.return_, 1) := by decide +kernel
theorem dX10_enlist_10 : decode cX10_enlist 10 = .ok (.aload_n 0, 1) := by decide +kernel
theorem dX10_enlist_11 : decode cX10_enlist 11 = .ok (.getfield 21, 3) := by decide +kernel
theorem dX10_enlist_14 : decode cX10_enlist 14 = .ok (.iload_n 1, 1) := by decide +kernel
theorem dX10_enlist_15 : decode cX10_enlist 15 = .ok (.iload_n 2, 1) := by decide +kernel
theorem dX10_enlist_16 : decode cX10_enlist 16 = .ok (.iastore, 1) := by decide +kernel
theorem dX10_enlist_17 : decode cX10_enlist 17 = .ok (.aload_n 0, 1) := by decide +kernel
theorem dX10_enlist_18 : decode cX10_enlist 18 = .ok (.getfield 24, 3) := by decide +kernel
theorem dX10_enlist_21 : decode cX10_enlist 21 = .ok (.aload_n 0, 1) := by decide +kernel
theorem dX10_enlist_22 : decode cX10_enlist 22 = .ok (.getfield 30, 3) := by decide +kernel
theorem dX10_enlist_25 : decode cX10_enlist 25 = .ok (.iload_n 1, 1) := by decide +kernel
theorem dX10_enlist_26 : decode cX10_enlist 26 = .ok (.iastore, 1) := by decide +kernel
theorem dX10_enlist_27 : decode cX10_enlist 27 = .ok (.aload_n 0, 1) := by decide +kernel
theorem dX10_enlist_28 : decode cX10_enlist 28 = .ok (.getfield 27, 3) := by decide +kernel
theorem dX10_enlist_31 : decode cX10_enlist 31 = .ok (.aload_n 0, 1) := by decide +kernel
theorem dX10_enlist_32 : decode cX10_enlist 32 = .ok (.getfield 30, 3) := by decide +kernel
theorem dX10_enlist_35 : decode cX10_enlist 35 = .ok (.iload_n 3, 1) := by decide +kernel
theorem dX10_enlist_36 : decode cX10_enlist 36 = .ok (.iastore, 1) := by decide +kernel
theorem dX10_enlist_37 : decode cX10_enlist 37 = .ok (.aload_n 0, 1) := by decide +kernel
theorem dX10_enlist_38 : decode cX10_enlist 38 = .ok (.dup, 1) := by decide +kernel
theorem dX10_enlist_39 : decode cX10_enlist 39 = .ok (.getfield 30, 3) := by decide +kernel
theorem dX10_enlist_42 : decode cX10_enlist 42 = .ok (.iconst 1, 1) := by decide +kernel
theorem dX10_enlist_43 : decode cX10_enlist 43 = .ok (.iadd, 1) := by decide +kernel
theorem dX10_enlist_44 : decode cX10_enlist 44 = .ok (.putfield 30, 3) := by decide +kernel
theorem dX10_enlist_47 : decode cX10_enlist 47 = .ok (.aload_n 0, 1) := by decide +kernel
theorem dX10_enlist_48 : decode cX10_enlist 48 = .ok (.dup, 1) := by decide +kernel
theorem dX10_enlist_49 : decode cX10_enlist 49 = .ok (.getfield 37, 3) := by decide +kernel
theorem dX10_enlist_52 : decode cX10_enlist 52 = .ok (.iload_n 3, 1) := by decide +kernel
theorem dX10_enlist_53 : decode cX10_enlist 53 = .ok (.isub, 1) := by decide +kernel
theorem dX10_enlist_54 : decode cX10_enlist 54 = .ok (.putfield 37, 3) := by decide +kernel
theorem dX10_enlist_57 : decode cX10_enlist 57 = .ok (.iload 4, 2) := by decide +kernel
theorem dX10_enlist_59 : decode cX10_enlist 59 = .ok (.iconst (-1), 1) := by decide +kernel
theorem dX10_enlist_60 : decode cX10_enlist 60 = .ok (.if_icmp .eq 14, 3) := by decide +kernel
theorem dX10_enlist_63 : decode cX10_enlist 63 = .ok (.aload_n 0, 1) := by decide +kernel
theorem dX10_enlist_64 : decode cX10_enlist 64 = .ok (.getfield 9, 3) := by decide +kernel
theorem dX10_enlist_67 : decode cX10_enlist 67 = .ok (.iload 4, 2) := by decide +kernel
theorem dX10_enlist_69 : decode cX10_enlist 69 = .ok (.dup2, 1) := by decide +kernel
theorem dX10_enlist_70 : decode cX10_enlist 70 = .ok (.iaload, 1) := by decide +kernel
theorem dX10_enlist_71 : decode cX10_enlist 71 = .ok (.iload_n 3, 1) := by decide +kernel
theorem dX10_enlist_72 : decode cX10_enlist 72 = .ok (.iadd, 1) := by decide +kernel
theorem dX10_enlist_73 : decode cX10_enlist 73 = .ok (.iastore, 1) := by decide +kernel
theorem dX10_enlist_74 : decode cX10_enlist 74 = .ok (.return_, 1) := by decide +kernel
theorem dX10_isCracked_0 : decode cX10_isCracked 0 = .ok (.aload_n 0, 1) := by decide +kernel
theorem dX10_isCracked_1 : decode cX10_isCracked 1 = .ok (.getfield 43, 3) := by decide +kernel
theorem dX10_isCracked_4 : decode cX10_isCracked 4 = .ok (.iload_n 1, 1) := by decide +kernel
theorem dX10_isCracked_5 : decode cX10_isCracked 5 = .ok (.ishr, 1) := by decide +kernel
theorem dX10_isCracked_6 : decode cX10_isCracked 6 = .ok (.iconst 1, 1) := by decide +kernel
theorem dX10_isCracked_7 : decode cX10_isCracked 7 = .ok (.iand, 1) := by decide +kernel
theorem dX10_isCracked_8 : decode cX10_isCracked 8 = .ok (.ifCond .eq 7, 3) := by decide +kernel
theorem dX10_isCracked_11 : decode cX10_isCracked 11 = .ok (.iconst 1, 1) := by decide +kernel
theorem dX10_isCracked_12 : decode cX10_isCracked 12 = .ok (.goto 4, 3) := by decide +kernel
theorem dX10_isCracked_15 : decode cX10_isCracked 15 = .ok (.iconst 0, 1) := by decide +kernel
theorem dX10_isCracked_16 : decode cX10_isCracked 16 = .ok (.ireturn, 1) := by decide +kernel
theorem dX10_nextNumber_0 : decode cX10_nextNumber 0 = .ok (.aload_n 0, 1) := by decide +kernel
theorem dX10_nextNumber_1 : decode cX10_nextNumber 1 = .ok (.aload_n 0, 1) := by decide +kernel
theorem dX10_nextNumber_2 : decode cX10_nextNumber 2 = .ok (.getfield 49, 3) := by decide +kernel
theorem dX10_nextNumber_5 : decode cX10_nextNumber 5 = .ok (.i2l, 1) := by decide +kernel
theorem dX10_nextNumber_6 : decode cX10_nextNumber 6 = .ok (.ldc2_w 87, 3) := by decide +kernel
theorem dX10_nextNumber_9 : decode cX10_nextNumber 9 = .ok (.lmul, 1) := by decide +kernel
