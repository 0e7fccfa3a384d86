theorem dX11_sunday_52 : decode cX11_sunday 52 = .ok (.dup, 1) := by decide +kernel
theorem dX11_sunday_53 : decode cX11_sunday 53 = .ok (.getfield 227, 3) := by decide +kernel
theorem dX11_sunday_56 : decode cX11_sunday 56 = .ok (.iconst 1, 1) := by decide +kernel
theorem dX11_sunday_57 : decode cX11_sunday 57 = .ok (.iadd, 1) := by decide +kernel
theorem dX11_sunday_58 : decode cX11_sunday 58 = .ok (.putfield 227, 3) := by decide +kernel
theorem dX11_sunday_61 : decode cX11_sunday 61 = .ok (.aload_n 0, 1) := by decide +kernel
theorem dX11_sunday_62 : decode cX11_sunday 62 = .ok (.getfield 68, 3) := by decide +kernel
theorem dX11_sunday_65 : decode cX11_sunday 65 = .ok (.iconst 0, 1) := by decide +kernel
theorem dX11_sunday_66 : decode cX11_sunday 66 = .ok (.putfield 124, 3) := by decide +kernel
theorem dX11_sunday_69 : decode cX11_sunday 69 = .ok (.iload_n 1, 1) := by decide +kernel
theorem dX11_sunday_70 : decode cX11_sunday 70 = .ok (.ireturn, 1) := by decide +kernel
theorem dX11_tapeNumber_0 : decode cX11_tapeNumber 0 = .ok (.bipush 24, 2) := by decide +kernel
theorem dX11_tapeNumber_2 : decode cX11_tapeNumber 2 = .ok (.istore_n 2, 1) := by decide +kernel
theorem dX11_tapeNumber_3 : decode cX11_tapeNumber 3 = .ok (.iload_n 2, 1) := by decide +kernel
theorem dX11_tapeNumber_4 : decode cX11_tapeNumber 4 = .ok (.ifCond .lt 42, 3) := by decide +kernel
theorem dX11_tapeNumber_7 : decode cX11_tapeNumber 7 = .ok (.aload_n 0, 1) := by decide +kernel
theorem dX11_tapeNumber_8 : decode cX11_tapeNumber 8 = .ok (.getfield 86, 3) := by decide +kernel
theorem dX11_tapeNumber_11 : decode cX11_tapeNumber 11 = .ok (.sipush 800, 3) := by decide +kernel
theorem dX11_tapeNumber_14 : decode cX11_tapeNumber 14 = .ok (.if_icmp .ge 32, 3) := by decide +kernel
theorem dX11_tapeNumber_17 : decode cX11_tapeNumber 17 = .ok (.aload_n 0, 1) := by decide +kernel
theorem dX11_tapeNumber_18 : decode cX11_tapeNumber 18 = .ok (.getfield 9, 3) := by decide +kernel
theorem dX11_tapeNumber_21 : decode cX11_tapeNumber 21 = .ok (.aload_n 0, 1) := by decide +kernel
theorem dX11_tapeNumber_22 : decode cX11_tapeNumber 22 = .ok (.getfield 86, 3) := by decide +kernel
theorem dX11_tapeNumber_25 : decode cX11_tapeNumber 25 = .ok (.iload_n 1, 1) := by decide +kernel
theorem dX11_tapeNumber_26 : decode cX11_tapeNumber 26 = .ok (.iload_n 2, 1) := by decide +kernel
theorem dX11_tapeNumber_27 : decode cX11_tapeNumber 27 = .ok (.ishr, 1) := by decide +kernel
theorem dX11_tapeNumber_28 : decode cX11_tapeNumber 28 = .ok (.i2b, 1) := by decide +kernel
theorem dX11_tapeNumber_29 : decode cX11_tapeNumber 29 = .ok (.bastore, 1) := by decide +kernel
theorem dX11_tapeNumber_30 : decode cX11_tapeNumber 30 = .ok (.aload_n 0, 1) := by decide +kernel
theorem dX11_tapeNumber_31 : decode cX11_tapeNumber 31 = .ok (.dup, 1) := by decide +kernel
theorem dX11_tapeNumber_32 : decode cX11_tapeNumber 32 = .ok (.getfield 86, 3) := by decide +kernel
theorem dX11_tapeNumber_35 : decode cX11_tapeNumber 35 = .ok (.iconst 1, 1) := by decide +kernel
theorem dX11_tapeNumber_36 : decode cX11_tapeNumber 36 = .ok (.iadd, 1) := by decide +kernel
theorem dX11_tapeNumber_37 : decode cX11_tapeNumber 37 = .ok (.putfield 86, 3) := by decide +kernel
theorem dX11_tapeNumber_40 : decode cX11_tapeNumber 40 = .ok (.iinc 2 (-8), 3) := by decide +kernel
theorem dX11_tapeNumber_43 : decode cX11_tapeNumber 43 = .ok (.goto (-40), 3) := by decide +kernel
theorem dX11_tapeNumber_46 : decode cX11_tapeNumber 46 = .ok (.return_, 1) := by decide +kernel
theorem dX11_tavern_0 : decode cX11_tavern 0 = .ok (.aload_n 0, 1) := by decide +kernel
theorem dX11_tavern_1 : decode cX11_tavern 1 = .ok (.getfield 16, 3) := by decide +kernel
theorem dX11_tavern_4 : decode cX11_tavern 4 = .ok (.getfield 127, 3) := by decide +kernel
theorem dX11_tavern_7 : decode cX11_tavern 7 = .ok (.iload_n 1, 1) := by decide +kernel
theorem dX11_tavern_8 : decode cX11_tavern 8 = .ok (.invokevirtual 145, 3) := by decide +kernel
theorem dX11_tavern_11 : decode cX11_tavern 11 = .ok (.ifCond .ne 5, 3) := by decide +kernel
theorem dX11_tavern_14 : decode cX11_tavern 14 = .ok (.iconst (-1), 1) := by decide +kernel
theorem dX11_tavern_15 : decode cX11_tavern 15 = .ok (.ireturn, 1) := by decide +kernel
theorem dX11_tavern_16 : decode cX11_tavern 16 = .ok (.iload_n 2, 1) := by decide +kernel
theorem dX11_tavern_17 : decode cX11_tavern 17 = .ok (.tableswitch 53 0 2 #[27, 37, 47], 27) := by decide +kernel
theorem dX11_tavern_44 : decode cX11_tavern 44 = .ok (.aload_n 0, 1) := by decide +kernel
theorem dX11_tavern_45 : decode cX11_tavern 45 = .ok (.getfield 16, 3) := by decide +kernel
theorem dX11_tavern_48 : decode cX11_tavern 48 = .ok (.getfield 183, 3) := by decide +kernel
theorem dX11_tavern_51 : decode cX11_tavern 51 = .ok (.iload_n 1, 1) := by decide +kernel
theorem dX11_tavern_52 : decode cX11_tavern 52 = .ok (.iaload, 1) := by decide +kernel
theorem dX11_tavern_53 : decode cX11_tavern 53 = .ok (.ireturn, 1) := by decide +kernel
theorem dX11_tavern_54 : decode cX11_tavern 54 = .ok (.aload_n 0, 1) := by decide +kernel
theorem dX11_tavern_55 : decode cX11_tavern 55 = .ok (.getfield 40, 3) := by decide +kernel
theorem dX11_tavern_58 : decode cX11_tavern 58 = .ok (.getfield 186, 3) := by decide +kernel
theorem dX11_tavern_61 : decode cX11_tavern 61 = .ok (.iload_n 1, 1) := by decide +kernel
theorem dX11_tavern_62 : decode cX11_tavern 62 = .ok (.iaload, 1) := by decide +kernel
theorem dX11_tavern_63 : decode cX11_tavern 63 = .ok (.ireturn, 1) := by decide +kernel
theorem dX11_tavern_64 : decode cX11_tavern 64 = .ok (.aload_n 0, 1) := by decide +kernel
theorem dX11_tavern_65 : decode cX11_tavern 65 = .ok (.iload_n 1, 1) := by decide +kernel
theorem dX11_tavern_66 : decode cX11_tavern 66 = .ok (.invokevirtual 189, 3) := by decide +kernel
theorem dX11_tavern_69 : decode cX11_tavern 69 = .ok (.ireturn, 1) := by decide +kernel
theorem dX11_tavern_70 : decode cX11_tavern 70 = .ok (.iconst (-1), 1) := by decide +kernel
theorem dX11_tavern_71 : decode cX11_tavern 71 = .ok (.ireturn, 1) := by decide +kernel
theorem dX11_text_0 : decode cX11_text 0 = .ok (.iload_n 1, 1) := by decide +kernel
theorem dX11_text_1 : decode cX11_text 1 = .ok (.ifCond .lt 11, 3) := by decide +kernel
theorem dX11_text_4 : decode cX11_text 4 = .ok (.iload_n 1, 1) := by decide +kernel
theorem dX11_text_5 : decode cX11_text 5 = .ok (.aload_n 0, 1) := by decide +kernel
theorem dX11_text_6 : decode cX11_text 6 = .ok (.getfield 86, 3) := by decide +kernel
theorem dX11_text_9 : decode cX11_text 9 = .ok (.if_icmp .le 6, 3) := by decide +kernel
theorem dX11_text_12 : decode cX11_text 12 = .ok (.bipush (-2), 2) := by decide +kernel
theorem dX11_text_14 : decode cX11_text 14 = .ok (.ireturn, 1) := by decide +kernel
theorem dX11_text_15 : decode cX11_text 15 = .ok (.aload_n 0, 1) := by decide +kernel
theorem dX11_text_16 : decode cX11_text 16 = .ok (.getfield 33, 3) := by decide +kernel
theorem dX11_text_19 : decode cX11_text 19 = .ok (.iload_n 1, 1) := by decide +kernel
theorem dX11_text_20 : decode cX11_text 20 = .ok (.invokevirtual 108, 3) := by decide +kernel
theorem dX11_text_23 : decode cX11_text 23 = .ok (.istore_n 2, 1) := by decide +kernel
theorem dX11_text_24 : decode cX11_text 24 = .ok (.aload_n 0, 1) := by decide +kernel
theorem dX11_text_25 : decode cX11_text 25 = .ok (.iconst 0, 1) := by decide +kernel
theorem dX11_text_26 : decode cX11_text 26 = .ok (.putfield 86, 3) := by decide +kernel
theorem dX11_text_29 : decode cX11_text 29 = .ok (.aload_n 0, 1) := by decide +kernel
theorem dX11_text_30 : decode cX11_text 30 = .ok (.aload_n 0, 1) := by decide +kernel
theorem dX11_text_31 : decode cX11_text 31 = .ok (.getfield 33, 3) := by decide +kernel
theorem dX11_text_34 : decode cX11_text 34 = .ok (.getfield 112, 3) := by decide +kernel
theorem dX11_text_37 : decode cX11_text 37 = .ok (.getfield 116, 3) := by decide +kernel
theorem dX11_text_40 : decode cX11_text 40 = .ok (.putfield 90, 3) := by decide +kernel
theorem dX11_text_43 : decode cX11_text 43 = .ok (.aload_n 0, 1) := by decide +kernel
theorem dX11_text_44 : decode cX11_text 44 = .ok (.aload_n 0, 1) := by decide +kernel
theorem dX11_text_45 : decode cX11_text 45 = .ok (.getfield 33, 3) := by decide +kernel
theorem dX11_text_48 : decode cX11_text 48 = .ok (.getfield 112, 3) := by decide +kernel
theorem dX11_text_51 : decode cX11_text 51 = .ok (.getfield 117, 3) := by decide +kernel
theorem dX11_text_54 : decode cX11_text 54 = .ok (.putfield 93, 3) := by decide +kernel
theorem dX11_text_57 : decode cX11_text 57 = .ok (.aload_n 0, 1) := by decide +kernel
theorem dX11_text_58 : decode cX11_text 58 = .ok (.getfield 90, 3) := by decide +kernel
theorem dX11_text_61 : decode cX11_text 61 = .ok (.ifCond .eq 5, 3) := by decide +kernel
theorem dX11_text_64 : decode cX11_text 64 = .ok (.iconst (-1), 1) := by decide +kernel
theorem dX11_text_65 : decode cX11_text 65 = .ok (.ireturn, 1) := by decide +kernel
theorem dX11_text_66 : decode cX11_text 66 = .ok (.aload_n 0, 1) := by decide +kernel
theorem dX11_text_67 : decode cX11_text 67 = .ok (.getfield 16, 3) := by decide +kernel
theorem dX11_text_70 : decode cX11_text 70 = .ok (.aload_n 0, 1) := by decide +kernel
theorem dX11_text_71 : decode cX11_text 71 = .ok (.getfield 20, 3) := by decide +kernel
theorem dX11_text_74 : decode cX11_text 74 = .ok (.invokevirtual 118, 3) := by decide +kernel
theorem dX11_text_77 : decode cX11_text 77 = .ok (.aload_n 0, 1) := by decide +kernel
theorem dX11_text_78 : decode cX11_text 78 = .ok (.getfield 40, 3) := by decide +kernel
theorem dX11_text_81 : decode cX11_text 81 = .ok (.aload_n 0, 1) := by decide +kernel
theorem dX11_text_82 : decode cX11_text 82 = .ok (.getfield 16, 3) := by decide +kernel
theorem dX11_text_85 : decode cX11_text 85 = .ok (.invokevirtual 100, 3) := by decide +kernel
theorem dX11_text_88 : decode cX11_text 88 = .ok (.aload_n 0, 1) := by decide +kernel
theorem dX11_text_89 : decode cX11_text 89 = .ok (.getfield 50, 3) := by decide +kernel
theorem dX11_text_92 : decode cX11_text 92 = .ok (.iconst 0, 1) := by decide +kernel
theorem dX11_text_93 : decode cX11_text 93 = .ok (.putfield 121, 3) := by decide +kernel
theorem dX11_text_96 : decode cX11_text 96 = .ok (.aload_n 0, 1) := by decide +kernel
theorem dX11_text_97 : decode cX11_text 97 = .ok (.iconst 0, 1) := by decide +kernel
theorem dX11_text_98 : decode cX11_text 98 = .ok (.putfield 96, 3) := by decide +kernel
theorem dX11_text_101 : decode cX11_text 101 = .ok (.aload_n 0, 1) := by decide +kernel
theorem dX11_text_102 : decode cX11_text 102 = .ok (.getfield 68, 3) := by decide +kernel
theorem dX11_text_105 : decode cX11_text 105 = .ok (.iconst 0, 1) := by decide +kernel
theorem dX11_text_106 : decode cX11_text 106 = .ok (.putfield 124, 3) := by decide +kernel
theorem dX11_text_109 : decode cX11_text 109 = .ok (.iload_n 2, 1) := by decide +kernel
theorem dX11_text_110 : decode cX11_text 110 = .ok (.ireturn, 1) := by decide +kernel
theorem dX11_thieves_0 : decode cX11_thieves 0 = .ok (.aload_n 0, 1) := by decide +kernel
theorem dX11_thieves_1 : decode cX11_thieves 1 = .ok (.getfield 50, 3) := by decide +kernel
theorem dX11_thieves_4 : decode cX11_thieves 4 = .ok (.aload_n 0, 1) := by decide +kernel
theorem dX11_thieves_5 : decode cX11_thieves 5 = .ok (.invokevirtual 302, 3) := by decide +kernel
theorem dX11_thieves_8 : decode cX11_thieves 8 = .ok (.invokevirtual 306, 3) := by decide +kernel
theorem dX11_thieves_11 : decode cX11_thieves 11 = .ok (.lstore_n 1, 1) := by decide +kernel
theorem dX11_thieves_12 : decode cX11_thieves 12 = .ok (.iconst 0, 1) := by decide +kernel
theorem dX11_thieves_13 : decode cX11_thieves 13 = .ok (.istore_n 3, 1) := by decide +kernel
theorem dX11_thieves_14 : decode cX11_thieves 14 = .ok (.iconst 0, 1) := by decide +kernel
theorem dX11_thieves_15 : decode cX11_thieves 15 = .ok (.istore 4, 2) := by decide +kernel
theorem dX11_thieves_17 : decode cX11_thieves 17 = .ok (.iload 4, 2) := by decide +kernel
theorem dX11_thieves_19 : decode cX11_thieves 19 = .ok (.aload_n 0, 1) := by decide +kernel
theorem dX11_thieves_20 : decode cX11_thieves 20 = .ok (.getfield 16, 3) := by decide +kernel
theorem dX11_thieves_23 : decode cX11_thieves 23 = .ok (.getfield 136, 3) := by decide +kernel
theorem dX11_thieves_26 : decode cX11_thieves 26 = .ok (.getfield 292, 3) := by decide +kernel
theorem dX11_thieves_29 : decode cX11_thieves 29 = .ok (.if_icmp .ge 48, 3) := by decide +kernel
theorem dX11_thieves_32 : decode cX11_thieves 32 = .ok (.aload_n 0, 1) := by decide +kernel
theorem dX11_thieves_33 : decode cX11_thieves 33 = .ok (.getfield 40, 3) := by decide +kernel
theorem dX11_thieves_36 : decode cX11_thieves 36 = .ok (.iload 4, 2) := by decide +kernel
theorem dX11_thieves_38 : decode cX11_thieves 38 = .ok (.invokevirtual 172, 3) := by decide +kernel
theorem dX11_thieves_41 : decode cX11_thieves 41 = .ok (.ifCond .ne 30, 3) := by decide +kernel
theorem dX11_thieves_44 : decode cX11_thieves 44 = .ok (.lload_n 1, 1) := by decide +kernel
theorem dX11_thieves_45 : decode cX11_thieves 45 = .ok (.aload_n 0, 1) := by decide +kernel
theorem dX11_thieves_46 : decode cX11_thieves 46 = .ok (.getfield 16, 3) := by decide +kernel
theorem dX11_thieves_49 : decode cX11_thieves 49 = .ok (.iload 4, 2) := by decide +kernel
theorem dX11_thieves_51 : decode cX11_thieves 51 = .ok (.invokevirtual 310, 3) := by decide +kernel
theorem dX11_thieves_54 : decode cX11_thieves 54 = .ok (.ldc2_w 313, 3) := by decide +kernel
theorem dX11_thieves_57 : decode cX11_thieves 57 = .ok (.lxor, 1) := by decide +kernel
theorem dX11_thieves_58 : decode cX11_thieves 58 = .ok (.land, 1) := by decide +kernel
theorem dX11_thieves_59 : decode cX11_thieves 59 = .ok (.lconst 0, 1) := by decide +kernel
theorem dX11_thieves_60 : decode cX11_thieves 60 = .ok (.lcmp, 1) := by decide +kernel
theorem dX11_thieves_61 : decode cX11_thieves 61 = .ok (.ifCond .ne 10, 3) := by decide +kernel
theorem dX11_thieves_64 : decode cX11_thieves 64 = .ok (.iload_n 3, 1) := by decide +kernel
theorem dX11_thieves_65 : decode cX11_thieves 65 = .ok (.iconst 1, 1) := by decide +kernel
theorem dX11_thieves_66 : decode cX11_thieves 66 = .ok (.iload 4, 2) := by decide +kernel
theorem dX11_thieves_68 : decode cX11_thieves 68 = .ok (.ishl, 1) := by decide +kernel
theorem dX11_thieves_69 : decode cX11_thieves 69 = .ok (.ior, 1) := by decide +kernel
theorem dX11_thieves_70 : decode cX11_thieves 70 = .ok (.istore_n 3, 1) := by decide +kernel
theorem dX11_thieves_71 : decode cX11_thieves 71 = .ok (.iinc 4 1, 3) := by decide +kernel
theorem dX11_thieves_74 : decode cX11_thieves 74 = .ok (.goto (-57), 3) := by decide +kernel
theorem dX11_thieves_77 : decode cX11_thieves 77 = .ok (.iload_n 3, 1) := by decide +kernel
theorem dX11_thieves_78 : decode cX11_thieves 78 = .ok (.ireturn, 1) := by decide +kernel
theorem dX11_undo_0 : decode cX11_undo 0 = .ok (.aload_n 0, 1) := by decide +kernel
theorem dX11_undo_1 : decode cX11_undo 1 = .ok (.getfield 40, 3) := by decide +kernel
theorem dX11_undo_4 : decode cX11_undo 4 = .ok (.getfield 246, 3) := by decide +kernel
theorem dX11_undo_7 : decode cX11_undo 7 = .ok (.ifCond .ne 5, 3) := by decide +kernel
theorem dX11_undo_10 : decode cX11_undo 10 = .ok (.iconst (-1), 1) := by decide +kernel
theorem dX11_undo_11 : decode cX11_undo 11 = .ok (.ireturn, 1) := by decide +kernel
theorem dX11_undo_12 : decode cX11_undo 12 = .ok (.aload_n 0, 1) := by decide +kernel
theorem dX11_undo_13 : decode cX11_undo 13 = .ok (.getfield 40, 3) := by decide +kernel
theorem dX11_undo_16 : decode cX11_undo 16 = .ok (.getfield 233, 3) := by decide +kernel
theorem dX11_undo_19 : decode cX11_undo 19 = .ok (.aload_n 0, 1) := by decide +kernel
theorem dX11_undo_20 : decode cX11_undo 20 = .ok (.getfield 40, 3) := by decide +kernel
theorem dX11_undo_23 : decode cX11_undo 23 = .ok (.getfield 249, 3) := by decide +kernel
theorem dX11_undo_26 : decode cX11_undo 26 = .ok (.aload_n 0, 1) := by decide +kernel
theorem dX11_undo_27 : decode cX11_undo 27 = .ok (.getfield 40, 3) := by decide +kernel
theorem dX11_undo_30 : decode cX11_undo 30 = .ok (.getfield 246, 3) := by decide +kernel
theorem dX11_undo_33 : decode cX11_undo 33 = .ok (.iconst 1, 1) := by decide +kernel
theorem dX11_undo_34 : decode cX11_undo 34 = .ok (.isub, 1) := by decide +kernel
theorem dX11_undo_35 : decode cX11_undo 35 = .ok (.iaload, 1) := by decide +kernel
theorem dX11_undo_36 : decode cX11_undo 36 = .ok (.iaload, 1) := by decide +kernel
theorem dX11_undo_37 : decode cX11_undo 37 = .ok (.istore_n 1, 1) := by decide +kernel
theorem dX11_undo_38 : decode cX11_undo 38 = .ok (.iload_n 1, 1) := by decide +kernel
theorem dX11_undo_39 : decode cX11_undo 39 = .ok (.iconst (-1), 1) := by decide +kernel
theorem dX11_undo_40 : decode cX11_undo 40 = .ok (.if_icmp .ne 7, 3) := by decide +kernel
theorem dX11_undo_43 : decode cX11_undo 43 = .ok (.iconst (-1), 1) := by decide +kernel
theorem dX11_undo_44 : decode cX11_undo 44 = .ok (.goto 12, 3) := by decide +kernel
theorem dX11_undo_47 : decode cX11_undo 47 = .ok (.aload_n 0, 1) := by decide +kernel
theorem dX11_undo_48 : decode cX11_undo 48 = .ok (.getfield 16, 3) := by decide +kernel
theorem dX11_undo_51 : decode cX11_undo 51 = .ok (.getfield 163, 3) := by decide +kernel
theorem dX11_undo_54 : decode cX11_undo 54 = .ok (.iload_n 1, 1) := by decide +kernel
theorem dX11_undo_55 : decode cX11_undo 55 = .ok (.iaload, 1) := by decide +kernel
theorem dX11_undo_56 : decode cX11_undo 56 = .ok (.istore_n 2, 1) := by decide +kernel
theorem dX11_undo_57 : decode cX11_undo 57 = .ok (.iload_n 2, 1) := by decide +kernel
theorem dX11_undo_58 : decode cX11_undo 58 = .ok (.iconst (-1), 1) := by decide +kernel
theorem dX11_undo_59 : decode cX11_undo 59 = .ok (.if_icmp .eq 35, 3) := by decide +kernel
theorem dX11_undo_62 : decode cX11_undo 62 = .ok (.aload_n 0, 1) := by decide +kernel
theorem dX11_undo_63 : decode cX11_undo 63 = .ok (.getfield 40, 3) := by decide +kernel
theorem dX11_undo_66 : decode cX11_undo 66 = .ok (.getfield 186, 3) := by decide +kernel
theorem dX11_undo_69 : decode cX11_undo 69 = .ok (.iload_n 2, 1) := by decide +kernel
theorem dX11_undo_70 : decode cX11_undo 70 = .ok (.iaload, 1) := by decide +kernel
theorem dX11_undo_71 : decode cX11_undo 71 = .ok (.aload_n 0, 1) := by decide +kernel
theorem dX11_undo_72 : decode cX11_undo 72 = .ok (.getfield 40, 3) := by decide +kernel
theorem dX11_undo_75 : decode cX11_undo 75 = .ok (.getfield 252, 3) := by decide +kernel
theorem dX11_undo_78 : decode cX11_undo 78 = .ok (.aload_n 0, 1) := by decide +kernel
theorem dX11_undo_79 : decode cX11_undo 79 = .ok (.getfield 40, 3) := by decide +kernel
theorem dX11_undo_82 : decode cX11_undo 82 = .ok (.getfield 246, 3) := by decide +kernel
theorem dX11_undo_85 : decode cX11_undo 85 = .ok (.iconst 1, 1) := by decide +kernel
theorem dX11_undo_86 : decode cX11_undo 86 = .ok (.isub, 1) := by decide +kernel
theorem dX11_undo_87 : decode cX11_undo 87 = .ok (.iaload, 1) := by decide +kernel
theorem dX11_undo_88 : decode cX11_undo 88 = .ok (.if_icmp .ge 6, 3) := by decide +kernel
theorem dX11_undo_91 : decode cX11_undo 91 = .ok (.bipush (-2), 2) := by decide +kernel
theorem dX11_undo_93 : decode cX11_undo 93 = .ok (.ireturn, 1) := by decide +kernel
theorem dX11_undo_94 : decode cX11_undo 94 = .ok (.aload_n 0, 1) := by decide +kernel
theorem dX11_undo_95 : decode cX11_undo 95 = .ok (.getfield 40, 3) := by decide +kernel
theorem dX11_undo_98 : decode cX11_undo 98 = .ok (.iload_n 2, 1) := by decide +kernel
theorem dX11_undo_99 : decode cX11_undo 99 = .ok (.invokevirtual 255, 3) := by decide +kernel
theorem dX11_undo_102 : decode cX11_undo 102 = .ok (.aload_n 0, 1) := by decide +kernel
theorem dX11_undo_103 : decode cX11_undo 103 = .ok (.getfield 40, 3) := by decide +kernel
theorem dX11_undo_106 : decode cX11_undo 106 = .ok (.getfield 246, 3) := by decide +kernel
theorem dX11_undo_109 : decode cX11_undo 109 = .ok (.ireturn, 1) := by decide +kernel
theorem dX11_verse_0 : decode cX11_verse 0 = .ok (.aload_n 0, 1) := by decide +kernel
theorem dX11_verse_1 : decode cX11_verse 1 = .ok (.getfield 16, 3) := by decide +kernel
theorem dX11_verse_4 : decode cX11_verse 4 = .ok (.getfield 139, 3) := by decide +kernel
theorem dX11_verse_7 : decode cX11_verse 7 = .ok (.iload_n 1, 1) := by decide +kernel
theorem dX11_verse_8 : decode cX11_verse 8 = .ok (.invokevirtual 145, 3) := by decide +kernel
theorem dX11_verse_11 : decode cX11_verse 11 = .ok (.ifCond .ne 5, 3) := by decide +kernel
theorem dX11_verse_14 : decode cX11_verse 14 = .ok (.iconst (-1), 1) := by decide +kernel
theorem dX11_verse_15 : decode cX11_verse 15 = .ok (.ireturn, 1) := by decide +kernel
theorem dX11_verse_16 : decode cX11_verse 16 = .ok (.iload_n 2, 1) := by decide +kernel
theorem dX11_verse_17 : decode cX11_verse 17 = .ok (.ifCond .ne 13, 3) := by decide +kernel
theorem dX11_verse_20 : decode cX11_verse 20 = .ok (.aload_n 0, 1) := by decide +kernel
theorem dX11_verse_21 : decode cX11_verse 21 = .ok (.getfield 16, 3) := by decide +kernel
theorem dX11_verse_24 : decode cX11_verse 24 = .ok (.getfield 192, 3) := by decide +kernel
theorem dX11_verse_27 : decode cX11_verse 27 = .ok (.iload_n 1, 1) := by decide +kernel
theorem dX11_verse_28 : decode cX11_verse 28 = .ok (.iaload, 1) := by decide +kernel
theorem dX11_verse_29 : decode cX11_verse 29 = .ok (.ireturn, 1) := by decide +kernel
theorem dX11_verse_30 : decode cX11_verse 30 = .ok (.iload_n 2, 1) := by decide +kernel
theorem dX11_verse_31 : decode cX11_verse 31 = .ok (.ifCond .lt 17, 3) := by decide +kernel
theorem dX11_verse_34 : decode cX11_verse 34 = .ok (.aload_n 0, 1) := by decide +kernel
theorem dX11_verse_35 : decode cX11_verse 35 = .ok (.getfield 16, 3) := by decide +kernel
theorem dX11_verse_38 : decode cX11_verse 38 = .ok (.iload_n 1, 1) := by decide +kernel
theorem dX11_verse_39 : decode cX11_verse 39 = .ok (.iload_n 2, 1) := by decide +kernel
theorem dX11_verse_40 : decode cX11_verse 40 = .ok (.iconst 1, 1) := by decide +kernel
theorem dX11_verse_41 : decode cX11_verse 41 = .ok (.isub, 1) := by decide +kernel
theorem dX11_verse_42 : decode cX11_verse 42 = .ok (.invokevirtual 195, 3) := by decide +kernel
theorem dX11_verse_45 : decode cX11_verse 45 = .ok (.ifCond .ne 5, 3) := by decide +kernel
theorem dX11_verse_48 : decode cX11_verse 48 = .ok (.iconst (-1), 1) := by decide +kernel
theorem dX11_verse_49 : decode cX11_verse 49 = .ok (.ireturn, 1) := by decide +kernel
theorem dX11_verse_50 : decode cX11_verse 50 = .ok (.aload_n 0, 1) := by decide +kernel
theorem dX11_verse_51 : decode cX11_verse 51 = .ok (.getfield 16, 3) := by decide +kernel
theorem dX11_verse_54 : decode cX11_verse 54 = .ok (.getfield 199, 3) := by decide +kernel
theorem dX11_verse_57 : decode cX11_verse 57 = .ok (.iload_n 1, 1) := by decide +kernel
theorem dX11_verse_58 : decode cX11_verse 58 = .ok (.iload_n 2, 1) := by decide +kernel
theorem dX11_verse_59 : decode cX11_verse 59 = .ok (.iconst 1, 1) := by decide +kernel
theorem dX11_verse_60 : decode cX11_verse 60 = .ok (.isub, 1) := by decide +kernel
theorem dX11_verse_61 : decode cX11_verse 61 = .ok (.invokestatic 202, 3) := by decide +kernel
theorem dX11_verse_64 : decode cX11_verse 64 = .ok (.iaload, 1) := by decide +kernel
theorem dX11_verse_65 : decode cX11_verse 65 = .ok (.ireturn, 1) := by decide +kernel
theorem dX11_whole_0 : decode cX11_whole 0 = .ok (.aload_n 0, 1) := by decide +kernel
theorem dX11_whole_1 : decode cX11_whole 1 = .ok (.getfield 16, 3) := by decide +kernel
theorem dX11_whole_4 : decode cX11_whole 4 = .ok (.getfield 136, 3) := by decide +kernel
theorem dX11_whole_7 : decode cX11_whole 7 = .ok (.iload_n 1, 1) := by decide +kernel
theorem dX11_whole_8 : decode cX11_whole 8 = .ok (.invokevirtual 145, 3) := by decide +kernel
theorem dX11_whole_11 : decode cX11_whole 11 = .ok (.ifCond .eq 22, 3) := by decide +kernel
theorem dX11_whole_14 : decode cX11_whole 14 = .ok (.iload_n 2, 1) := by decide +kernel
theorem dX11_whole_15 : decode cX11_whole 15 = .ok (.ifCond .lt 18, 3) := by decide +kernel
theorem dX11_whole_18 : decode cX11_whole 18 = .ok (.iload_n 2, 1) := by decide +kernel
theorem dX11_whole_19 : decode cX11_whole 19 = .ok (.bipush 9, 2) := by decide +kernel
theorem dX11_whole_21 : decode cX11_whole 21 = .ok (.if_icmp .gt 12, 3) := by decide +kernel
theorem dX11_whole_24 : decode cX11_whole 24 = .ok (.iload_n 3, 1) := by decide +kernel
theorem dX11_whole_25 : decode cX11_whole 25 = .ok (.ifCond .lt 8, 3) := by decide +kernel
theorem dX11_whole_28 : decode cX11_whole 28 = .ok (.iload_n 3, 1) := by decide +kernel
theorem dX11_whole_29 : decode cX11_whole 29 = .ok (.iconst 1, 1) := by decide +kernel
theorem dX11_whole_30 : decode cX11_whole 30 = .ok (.if_icmp .le 7, 3) := by decide +kernel
theorem dX11_whole_33 : decode cX11_whole 33 = .ok (.ldc2_w 313, 3) := by decide +kernel
theorem dX11_whole_36 : decode cX11_whole 36 = .ok (.lreturn, 1) := by decide +kernel
theorem dX11_whole_37 : decode cX11_whole 37 = .ok (.aload_n 0, 1) := by decide +kernel
theorem dX11_whole_38 : decode cX11_whole 38 = .ok (.getfield 40, 3) := by decide +kernel
theorem dX11_whole_41 : decode cX11_whole 41 = .ok (.iload_n 1, 1) := by decide +kernel
theorem dX11_whole_42 : decode cX11_whole 42 = .ok (.invokevirtual 172, 3) := by decide +kernel
theorem dX11_whole_45 : decode cX11_whole 45 = .ok (.ifCond .eq 6, 3) := by decide +kernel
theorem dX11_whole_48 : decode cX11_whole 48 = .ok (.iload_n 3, 1) := by decide +kernel
theorem dX11_whole_49 : decode cX11_whole 49 = .ok (.i2l, 1) := by decide +kernel
theorem dX11_whole_50 : decode cX11_whole 50 = .ok (.lreturn, 1) := by decide +kernel
theorem dX11_whole_51 : decode cX11_whole 51 = .ok (.aload_n 0, 1) := by decide +kernel
theorem dX11_whole_52 : decode cX11_whole 52 = .ok (.getfield 16, 3) := by decide +kernel
theorem dX11_whole_55 : decode cX11_whole 55 = .ok (.iload_n 1, 1) := by decide +kernel
theorem dX11_whole_56 : decode cX11_whole 56 = .ok (.invokevirtual 175, 3) := by decide +kernel
theorem dX11_whole_59 : decode cX11_whole 59 = .ok (.ifCond .ne 5, 3) := by decide +kernel
theorem dX11_whole_62 : decode cX11_whole 62 = .ok (.lconst 1, 1) := by decide +kernel
theorem dX11_whole_63 : decode cX11_whole 63 = .ok (.lreturn, 1) := by decide +kernel
theorem dX11_whole_64 : decode cX11_whole 64 = .ok (.lconst 1, 1) := by decide +kernel
theorem dX11_whole_65 : decode cX11_whole 65 = .ok (.lstore 4, 2) := by decide +kernel
theorem dX11_whole_67 : decode cX11_whole 67 = .ok (.lconst 1, 1) := by decide +kernel
theorem dX11_whole_68 : decode cX11_whole 68 = .ok (.lstore 6, 2) := by decide +kernel
theorem dX11_whole_70 : decode cX11_whole 70 = .ok (.iconst 0, 1) := by decide +kernel
theorem dX11_whole_71 : decode cX11_whole 71 = .ok (.istore 8, 2) := by decide +kernel
theorem dX11_whole_73 : decode cX11_whole 73 = .ok (.iload 8, 2) := by decide +kernel
theorem dX11_whole_75 : decode cX11_whole 75 = .ok (.iload_n 2, 1) := by decide +kernel
theorem dX11_whole_76 : decode cX11_whole 76 = .ok (.if_icmp .ge 44, 3) := by decide +kernel
theorem dX11_whole_79 : decode cX11_whole 79 = .ok (.lload 4, 2) := by decide +kernel
theorem dX11_whole_81 : decode cX11_whole 81 = .ok (.bipush 100, 2) := by decide +kernel
theorem dX11_whole_83 : decode cX11_whole 83 = .ok (.aload_n 0, 1) := by decide +kernel
theorem dX11_whole_84 : decode cX11_whole 84 = .ok (.getfield 59, 3) := by decide +kernel
theorem dX11_whole_87 : decode cX11_whole 87 = .ok (.iload_n 1, 1) := by decide +kernel
theorem dX11_whole_88 : decode cX11_whole 88 = .ok (.aload_n 0, 1) := by decide +kernel
theorem dX11_whole_89 : decode cX11_whole 89 = .ok (.getfield 40, 3) := by decide +kernel
theorem dX11_whole_92 : decode cX11_whole 92 = .ok (.getfield 227, 3) := by decide +kernel
theorem dX11_whole_95 : decode cX11_whole 95 = .ok (.iload 8, 2) := by decide +kernel
theorem dX11_whole_97 : decode cX11_whole 97 = .ok (.iadd, 1) := by decide +kernel
theorem dX11_whole_98 : decode cX11_whole 98 = .ok (.invokevirtual 230, 3) := by decide +kernel
theorem dX11_whole_101 : decode cX11_whole 101 = .ok (.isub, 1) := by decide +kernel
theorem dX11_whole_102 : decode cX11_whole 102 = .ok (.i2l, 1) := by decide +kernel
theorem dX11_whole_103 : decode cX11_whole 103 = .ok (.lmul, 1) := by decide +kernel
theorem dX11_whole_104 : decode cX11_whole 104 = .ok (.lstore 4, 2) := by decide +kernel
theorem dX11_whole_106 : decode cX11_whole 106 = .ok (.lload 6, 2) := by decide +kernel
theorem dX11_whole_108 : decode cX11_whole 108 = .ok (.ldc2_w 352, 3) := by decide +kernel
theorem dX11_whole_111 : decode cX11_whole 111 = .ok (.lmul, 1) := by decide +kernel
theorem dX11_whole_112 : decode cX11_whole 112 = .ok (.lstore 6, 2) := by decide +kernel
theorem dX11_whole_114 : decode cX11_whole 114 = .ok (.iinc 8 1, 3) := by decide +kernel
theorem dX11_whole_117 : decode cX11_whole 117 = .ok (.goto (-44), 3) := by decide +kernel
theorem dX11_whole_120 : decode cX11_whole 120 = .ok (.lload 4, 2) := by decide +kernel
theorem dX11_whole_122 : decode cX11_whole 122 = .ok (.lload 6, 2) := by decide +kernel
theorem dX11_whole_124 : decode cX11_whole 124 = .ok (.iload_n 3, 1) := by decide +kernel
theorem dX11_whole_125 : decode cX11_whole 125 = .ok (.invokestatic 321, 3) := by decide +kernel
theorem dX11_whole_128 : decode cX11_whole 128 = .ok (.lreturn, 1) := by decide +kernel
theorem dX0_init_0 : decode cX0_init 0 = .ok (.aload_n 0, 1) := by decide +kernel
theorem dX0_init_1 : decode cX0_init 1 = .ok (.invokespecial 3, 3) := by decide +kernel
theorem dX0_init_4 : decode cX0_init 4 = .ok (.aload_n 0, 1) := by decide +kernel
theorem dX0_init_5 : decode cX0_init 5 = .ok (.bipush 6, 2) := by decide +kernel
theorem dX0_init_7 : decode cX0_init 7 = .ok (.newarray .int, 2) := by decide +kernel
theorem dX0_init_9 : decode cX0_init 9 = .ok (.putfield 9, 3) := by decide +kernel
theorem dX0_init_12 : decode cX0_init 12 = .ok (.aload_n 0, 1) := by decide +kernel
theorem dX0_init_13 : decode cX0_init 13 = .ok (.iconst 4, 1) := by decide +kernel
theorem dX0_init_14 : decode cX0_init 14 = .ok (.newarray .int, 2) := by decide +kernel
theorem dX0_init_16 : decode cX0_init 16 = .ok (.putfield 15, 3) := by decide +kernel
theorem dX0_init_19 : decode cX0_init 19 = .ok (.aload_n 0, 1) := by decide +kernel
theorem dX0_init_20 : decode cX0_init 20 = .ok (.iconst 4, 1) := by decide +kernel
theorem dX0_init_21 : decode cX0_init 21 = .ok (.newarray .int, 2) := by decide +kernel
theorem dX0_init_23 : decode cX0_init 23 = .ok (.putfield 18, 3) := by decide +kernel
theorem dX0_init_26 : decode cX0_init 26 = .ok (.aload_n 0, 1) := by decide +kernel
theorem dX0_init_27 : decode cX0_init 27 = .ok (.iconst 0, 1) := by decide +kernel
theorem dX0_init_28 : decode cX0_init 28 = .ok (.putfield 21, 3) := by decide +kernel
theorem dX0_init_31 : decode cX0_init 31 = .ok (.aload_n 0, 1) := by decide +kernel
theorem dX0_init_32 : decode cX0_init 32 = .ok (.iconst 0, 1) := by decide +kernel
theorem dX0_init_33 : decode cX0_init 33 = .ok (.putfield 25, 3) := by decide +kernel
theorem dX0_init_36 : decode cX0_init 36 = .ok (.aload_n 0, 1) := by decide +kernel
theorem dX0_init_37 : decode cX0_init 37 = .ok (.iconst 0, 1) := by decide +kernel
theorem dX0_init_38 : decode cX0_init 38 = .ok (.putfield 28, 3) := by decide +kernel
theorem dX0_init_41 : decode cX0_init 41 = .ok (.aload_n 0, 1) := by decide +kernel
theorem dX0_init_42 : decode cX0_init 42 = .ok (.ldc 31, 2) := by decide +kernel
theorem dX0_init_44 : decode cX0_init 44 = .ok (.putfield 32, 3) := by decide +kernel
theorem dX0_init_47 : decode cX0_init 47 = .ok (.aload_n 0, 1) := by decide +kernel
theorem dX0_init_48 : decode cX0_init 48 = .ok (.aload_n 1, 1) := by decide +kernel
theorem dX0_init_49 : decode cX0_init 49 = .ok (.putfield 35, 3) := by decide +kernel
theorem dX0_init_52 : decode cX0_init 52 = .ok (.aload_n 0, 1) := by decide +kernel
theorem dX0_init_53 : decode cX0_init 53 = .ok (.aload_n 2, 1) := by decide +kernel
theorem dX0_init_54 : decode cX0_init 54 = .ok (.putfield 39, 3) := by decide +kernel
theorem dX0_init_57 : decode cX0_init 57 = .ok (.aload_n 0, 1) := by decide +kernel
theorem dX0_init_58 : decode cX0_init 58 = .ok (.aload_n 3, 1) := by decide +kernel
theorem dX0_init_59 : decode cX0_init 59 = .ok (.putfield 43, 3) := by decide +kernel
theorem dX0_init_62 : decode cX0_init 62 = .ok (.return_, 1) := by decide +kernel
theorem dX0_fewestGaps_0 : decode cX0_fewestGaps 0 = .ok (.aload_n 0, 1) := by decide +kernel
theorem dX0_fewestGaps_1 : decode cX0_fewestGaps 1 = .ok (.getfield 35, 3) := by decide +kernel
theorem dX0_fewestGaps_4 : decode cX0_fewestGaps 4 = .ok (.getfield 47, 3) := by decide +kernel
theorem dX0_fewestGaps_7 : decode cX0_fewestGaps 7 = .ok (.getfield 53, 3) := by decide +kernel
theorem dX0_fewestGaps_10 : decode cX0_fewestGaps 10 = .ok (.aload_n 0, 1) := by decide +kernel
theorem dX0_fewestGaps_11 : decode cX0_fewestGaps 11 = .ok (.getfield 39, 3) := by decide +kernel
theorem dX0_fewestGaps_14 : decode cX0_fewestGaps 14 = .ok (.getfield 58, 3) := by decide +kernel
theorem dX0_fewestGaps_17 : decode cX0_fewestGaps 17 = .ok (.invokestatic 63, 3) := by decide +kernel
theorem dX0_fewestGaps_20 : decode cX0_fewestGaps 20 = .ok (.isub, 1) := by decide +kernel
theorem dX0_fewestGaps_21 : decode cX0_fewestGaps 21 = .ok (.iload_n 2, 1) := by decide +kernel
theorem dX0_fewestGaps_22 : decode cX0_fewestGaps 22 = .ok (.if_icmp .ge 6, 3) := by decide +kernel
theorem dX0_fewestGaps_25 : decode cX0_fewestGaps 25 = .ok (.bipush (-2), 2) := by decide +kernel
theorem dX0_fewestGaps_27 : decode cX0_fewestGaps 27 = .ok (.ireturn, 1) := by decide +kernel
theorem dX0_fewestGaps_28 : decode cX0_fewestGaps 28 = .ok (.aload_n 0, 1) := by decide +kernel
theorem dX0_fewestGaps_29 : decode cX0_fewestGaps 29 = .ok (.iload_n 2, 1) := by decide +kernel
theorem dX0_fewestGaps_30 : decode cX0_fewestGaps 30 = .ok (.putfield 21, 3) := by decide +kernel
theorem dX0_fewestGaps_33 : decode cX0_fewestGaps 33 = .ok (.aload_n 0, 1) := by decide +kernel
theorem dX0_fewestGaps_34 : decode cX0_fewestGaps 34 = .ok (.iload_n 3, 1) := by decide +kernel
theorem dX0_fewestGaps_35 : decode cX0_fewestGaps 35 = .ok (.putfield 25, 3) := by decide +kernel
theorem dX0_fewestGaps_38 : decode cX0_fewestGaps 38 = .ok (.aload_n 0, 1) := by decide +kernel
theorem dX0_fewestGaps_39 : decode cX0_fewestGaps 39 = .ok (.aload_n 0, 1) := by decide +kernel
theorem dX0_fewestGaps_40 : decode cX0_fewestGaps 40 = .ok (.getfield 35, 3) := by decide +kernel
theorem dX0_fewestGaps_43 : decode cX0_fewestGaps 43 = .ok (.getfield 69, 3) := by decide +kernel
theorem dX0_fewestGaps_46 : decode cX0_fewestGaps 46 = .ok (.iload_n 1, 1) := by decide +kernel
theorem dX0_fewestGaps_47 : decode cX0_fewestGaps 47 = .ok (.iaload, 1) := by decide +kernel
theorem dX0_fewestGaps_48 : decode cX0_fewestGaps 48 = .ok (.iload_n 2, 1) := by decide +kernel
theorem dX0_fewestGaps_49 : decode cX0_fewestGaps 49 = .ok (.iconst 1, 1) := by decide +kernel
theorem dX0_fewestGaps_50 : decode cX0_fewestGaps 50 = .ok (.isub, 1) := by decide +kernel
theorem dX0_fewestGaps_51 : decode cX0_fewestGaps 51 = .ok (.iload_n 3, 1) := by decide +kernel
theorem dX0_fewestGaps_52 : decode cX0_fewestGaps 52 = .ok (.imul, 1) := by decide +kernel
theorem dX0_fewestGaps_53 : decode cX0_fewestGaps 53 = .ok (.iadd, 1) := by decide +kernel
theorem dX0_fewestGaps_54 : decode cX0_fewestGaps 54 = .ok (.putfield 28, 3) := by decide +kernel
theorem dX0_fewestGaps_57 : decode cX0_fewestGaps 57 = .ok (.aload_n 0, 1) := by decide +kernel
theorem dX0_fewestGaps_58 : decode cX0_fewestGaps 58 = .ok (.ldc 31, 2) := by decide +kernel
theorem dX0_fewestGaps_60 : decode cX0_fewestGaps 60 = .ok (.putfield 32, 3) := by decide +kernel
theorem dX0_fewestGaps_63 : decode cX0_fewestGaps 63 = .ok (.iconst 0, 1) := by decide +kernel
theorem dX0_fewestGaps_64 : decode cX0_fewestGaps 64 = .ok (.istore 4, 2) := by decide +kernel
theorem dX0_fewestGaps_66 : decode cX0_fewestGaps 66 = .ok (.iload 4, 2) := by decide +kernel
theorem dX0_fewestGaps_68 : decode cX0_fewestGaps 68 = .ok (.aload_n 0, 1) := by decide +kernel
theorem dX0_fewestGaps_69 : decode cX0_fewestGaps 69 = .ok (.getfield 35, 3) := by decide +kernel
theorem dX0_fewestGaps_72 : decode cX0_fewestGaps 72 = .ok (.getfield 47, 3) := by decide +kernel
theorem dX0_fewestGaps_75 : decode cX0_fewestGaps 75 = .ok (.getfield 53, 3) := by decide +kernel
theorem dX0_fewestGaps_78 : decode cX0_fewestGaps 78 = .ok (.if_icmp .ge 26, 3) := by decide +kernel
theorem dX0_fewestGaps_81 : decode cX0_fewestGaps 81 = .ok (.aload_n 0, 1) := by decide +kernel
theorem dX0_fewestGaps_82 : decode cX0_fewestGaps 82 = .ok (.getfield 9, 3) := by decide +kernel
theorem dX0_fewestGaps_85 : decode cX0_fewestGaps 85 = .ok (.iload 4, 2) := by decide +kernel
theorem dX0_fewestGaps_87 : decode cX0_fewestGaps 87 = .ok (.aload_n 0, 1) := by decide +kernel
theorem dX0_fewestGaps_88 : decode cX0_fewestGaps 88 = .ok (.getfield 43, 3) := by decide +kernel
theorem dX0_fewestGaps_91 : decode cX0_fewestGaps 91 = .ok (.iload_n 1, 1) := by decide +kernel
theorem dX0_fewestGaps_92 : decode cX0_fewestGaps 92 = .ok (.iload 4, 2) := by decide +kernel
theorem dX0_fewestGaps_94 : decode cX0_fewestGaps 94 = .ok (.invokevirtual 72, 3) := by decide +kernel
theorem dX0_fewestGaps_97 : decode cX0_fewestGaps 97 = .ok (.iastore, 1) := by decide +kernel
theorem dX0_fewestGaps_98 : decode cX0_fewestGaps 98 = .ok (.iinc 4 1, 3) := by decide +kernel
theorem dX0_fewestGaps_101 : decode cX0_fewestGaps 101 = .ok (.goto (-35), 3) := by decide +kernel
theorem dX0_fewestGaps_104 : decode cX0_fewestGaps 104 = .ok (.aload_n 0, 1) := by decide +kernel
theorem dX0_fewestGaps_105 : decode cX0_fewestGaps 105 = .ok (.iconst 0, 1) := by decide +kernel
theorem dX0_fewestGaps_106 : decode cX0_fewestGaps 106 = .ok (.aload_n 0, 1) := by decide +kernel
theorem dX0_fewestGaps_107 : decode cX0_fewestGaps 107 = .ok (.getfield 39, 3) := by decide +kernel
theorem dX0_fewestGaps_110 : decode cX0_fewestGaps 110 = .ok (.getfield 58, 3) := by decide +kernel
theorem dX0_fewestGaps_113 : decode cX0_fewestGaps 113 = .ok (.lconst 0, 1) := by decide +kernel
theorem dX0_fewestGaps_114 : decode cX0_fewestGaps 114 = .ok (.invokevirtual 78, 3) := by decide +kernel
theorem dX0_fewestGaps_117 : decode cX0_fewestGaps 117 = .ok (.aload_n 0, 1) := by decide +kernel
theorem dX0_fewestGaps_118 : decode cX0_fewestGaps 118 = .ok (.getfield 32, 3) := by decide +kernel
theorem dX0_fewestGaps_121 : decode cX0_fewestGaps 121 = .ok (.ireturn, 1) := by decide +kernel
theorem dX0_fill_0 : decode cX0_fill 0 = .ok (.iload_n 1, 1) := by decide +kernel
theorem dX0_fill_1 : decode cX0_fill 1 = .ok (.aload_n 0, 1) := by decide +kernel
theorem dX0_fill_2 : decode cX0_fill 2 = .ok (.getfield 21, 3) := by decide +kernel
theorem dX0_fill_5 : decode cX0_fill 5 = .ok (.if_icmp .ge 8, 3) := by decide +kernel
theorem dX0_fill_8 : decode cX0_fill 8 = .ok (.iload_n 1, 1) := by decide +kernel
theorem dX0_fill_9 : decode cX0_fill 9 = .ok (.iconst 4, 1) := by decide +kernel
theorem dX0_fill_10 : decode cX0_fill 10 = .ok (.if_icmp .lt 44, 3) := by decide +kernel
theorem dX0_fill_13 : decode cX0_fill 13 = .ok (.aload_n 0, 1) := by decide +kernel
theorem dX0_fill_14 : decode cX0_fill 14 = .ok (.getfield 28, 3) := by decide +kernel
theorem dX0_fill_17 : decode cX0_fill 17 = .ok (.lload_n 3, 1) := by decide +kernel
theorem dX0_fill_18 : decode cX0_fill 18 = .ok (.invokestatic 82, 3) := by decide +kernel
theorem dX0_fill_21 : decode cX0_fill 21 = .ok (.isub, 1) := by decide +kernel
theorem dX0_fill_22 : decode cX0_fill 22 = .ok (.istore 5, 2) := by decide +kernel
theorem dX0_fill_24 : decode cX0_fill 24 = .ok (.iload 5, 2) := by decide +kernel
theorem dX0_fill_26 : decode cX0_fill 26 = .ok (.aload_n 0, 1) := by decide +kernel
theorem dX0_fill_27 : decode cX0_fill 27 = .ok (.getfield 32, 3) := by decide +kernel
theorem dX0_fill_30 : decode cX0_fill 30 = .ok (.if_icmp .ge 23, 3) := by decide +kernel
theorem dX0_fill_33 : decode cX0_fill 33 = .ok (.aload_n 0, 1) := by decide +kernel
theorem dX0_fill_34 : decode cX0_fill 34 = .ok (.iload 5, 2) := by decide +kernel
theorem dX0_fill_36 : decode cX0_fill 36 = .ok (.putfield 32, 3) := by decide +kernel
theorem dX0_fill_39 : decode cX0_fill 39 = .ok (.aload_n 0, 1) := by decide +kernel
theorem dX0_fill_40 : decode cX0_fill 40 = .ok (.getfield 15, 3) := by decide +kernel
theorem dX0_fill_43 : decode cX0_fill 43 = .ok (.iconst 0, 1) := by decide +kernel
theorem dX0_fill_44 : decode cX0_fill 44 = .ok (.aload_n 0, 1) := by decide +kernel
theorem dX0_fill_45 : decode cX0_fill 45 = .ok (.getfield 18, 3) := by decide +kernel
theorem dX0_fill_48 : decode cX0_fill 48 = .ok (.iconst 0, 1) := by decide +kernel
theorem dX0_fill_49 : decode cX0_fill 49 = .ok (.iconst 4, 1) := by decide +kernel
theorem dX0_fill_50 : decode cX0_fill 50 = .ok (.invokestatic 87, 3) := by decide +kernel
theorem dX0_fill_53 : decode cX0_fill 53 = .ok (.return_, 1) := by decide +kernel
theorem dX0_fill_54 : decode cX0_fill 54 = .ok (.iconst 0, 1) := by decide +kernel
theorem dX0_fill_55 : decode cX0_fill 55 = .ok (.istore 5, 2) := by decide +kernel
theorem dX0_fill_57 : decode cX0_fill 57 = .ok (.iload 5, 2) := by decide +kernel
theorem dX0_fill_59 : decode cX0_fill 59 = .ok (.aload_n 0, 1) := by decide +kernel
theorem dX0_fill_60 : decode cX0_fill 60 = .ok (.getfield 35, 3) := by decide +kernel
theorem dX0_fill_63 : decode cX0_fill 63 = .ok (.getfield 47, 3) := by decide +kernel
theorem dX0_fill_66 : decode cX0_fill 66 = .ok (.getfield 53, 3) := by decide +kernel
theorem dX0_fill_69 : decode cX0_fill 69 = .ok (.if_icmp .ge 56, 3) := by decide +kernel
theorem dX0_fill_72 : decode cX0_fill 72 = .ok (.iload_n 2, 1) := by decide +kernel
theorem dX0_fill_73 : decode cX0_fill 73 = .ok (.iload 5, 2) := by decide +kernel
theorem dX0_fill_75 : decode cX0_fill 75 = .ok (.ishr, 1) := by decide +kernel
theorem dX0_fill_76 : decode cX0_fill 76 = .ok (.iconst 1, 1) := by decide +kernel
theorem dX0_fill_77 : decode cX0_fill 77 = .ok (.iand, 1) := by decide +kernel
theorem dX0_fill_78 : decode cX0_fill 78 = .ok (.ifCond .ne 41, 3) := by decide +kernel
theorem dX0_fill_81 : decode cX0_fill 81 = .ok (.aload_n 0, 1) := by decide +kernel
theorem dX0_fill_82 : decode cX0_fill 82 = .ok (.getfield 15, 3) := by decide +kernel
theorem dX0_fill_85 : decode cX0_fill 85 = .ok (.iload_n 1, 1) := by decide +kernel
theorem dX0_fill_86 : decode cX0_fill 86 = .ok (.iload 5, 2) := by decide +kernel
theorem dX0_fill_88 : decode cX0_fill 88 = .ok (.iastore, 1) := by decide +kernel
theorem dX0_fill_89 : decode cX0_fill 89 = .ok (.aload_n 0, 1) := by decide +kernel
theorem dX0_fill_90 : decode cX0_fill 90 = .ok (.iload_n 1, 1) := by decide +kernel
theorem dX0_fill_91 : decode cX0_fill 91 = .ok (.iconst 1, 1) := by decide +kernel
theorem dX0_fill_92 : decode cX0_fill 92 = .ok (.iadd, 1) := by decide +kernel
theorem dX0_fill_93 : decode cX0_fill 93 = .ok (.iload_n 2, 1) := by decide +kernel
theorem dX0_fill_94 : decode cX0_fill 94 = .ok (.iconst 1, 1) := by decide +kernel
theorem dX0_fill_95 : decode cX0_fill 95 = .ok (.iload 5, 2) := by decide +kernel
theorem dX0_fill_97 : decode cX0_fill 97 = .ok (.ishl, 1) := by decide +kernel
theorem dX0_fill_98 : decode cX0_fill 98 = .ok (.ior, 1) := by decide +kernel
theorem dX0_fill_99 : decode cX0_fill 99 = .ok (.lload_n 3, 1) := by decide +kernel
theorem dX0_fill_100 : decode cX0_fill 100 = .ok (.aload_n 0, 1) := by decide +kernel
theorem dX0_fill_101 : decode cX0_fill 101 = .ok (.getfield 9, 3) := by decide +kernel
theorem dX0_fill_104 : decode cX0_fill 104 = .ok (.iload 5, 2) := by decide +kernel
theorem dX0_fill_106 : decode cX0_fill 106 = .ok (.iaload, 1) := by decide +kernel
theorem dX0_fill_107 : decode cX0_fill 107 = .ok (.i2l, 1) := by decide +kernel
theorem dX0_fill_108 : decode cX0_fill 108 = .ok (.iload_n 1, 1) := by decide +kernel
theorem dX0_fill_109 : decode cX0_fill 109 = .ok (.aload_n 0, 1) := by decide +kernel
theorem dX0_fill_110 : decode cX0_fill 110 = .ok (.getfield 25, 3) := by decide +kernel
theorem dX0_fill_113 : decode cX0_fill 113 = .ok (.imul, 1) := by decide +kernel
theorem dX0_fill_114 : decode cX0_fill 114 = .ok (.lshl, 1) := by decide +kernel
theorem dX0_fill_115 : decode cX0_fill 115 = .ok (.lor, 1) := by decide +kernel
theorem dX0_fill_116 : decode cX0_fill 116 = .ok (.invokevirtual 78, 3) := by decide +kernel
theorem dX0_fill_119 : decode cX0_fill 119 = .ok (.iinc 5 1, 3) := by decide +kernel
theorem dX0_fill_122 : decode cX0_fill 122 = .ok (.goto (-65), 3) := by decide +kernel
theorem dX0_fill_125 : decode cX0_fill 125 = .ok (.return_, 1) := by decide +kernel
theorem dX1_init_0 : decode cX1_init 0 = .ok (.aload_n 0, 1) := by decide +kernel
theorem dX1_init_1 : decode cX1_init 1 = .ok (.invokespecial 5, 3) := by decide +kernel
theorem dX1_init_4 : decode cX1_init 4 = .ok (.aload_n 0, 1) := by decide +kernel
theorem dX1_init_5 : decode cX1_init 5 = .ok (.bipush 72, 2) := by decide +kernel
theorem dX1_init_7 : decode cX1_init 7 = .ok (.newarray .int, 2) := by decide +kernel
theorem dX1_init_9 : decode cX1_init 9 = .ok (.putfield 11, 3) := by decide +kernel
theorem dX1_init_12 : decode cX1_init 12 = .ok (.aload_n 0, 1) := by decide +kernel
theorem dX1_init_13 : decode cX1_init 13 = .ok (.bipush 72, 2) := by decide +kernel
theorem dX1_init_15 : decode cX1_init 15 = .ok (.newarray .int, 2) := by decide +kernel
theorem dX1_init_17 : decode cX1_init 17 = .ok (.putfield 15, 3) := by decide +kernel
theorem dX1_init_20 : decode cX1_init 20 = .ok (.aload_n 0, 1) := by decide +kernel
theorem dX1_init_21 : decode cX1_init 21 = .ok (.bipush 25, 2) := by decide +kernel
theorem dX1_init_23 : decode cX1_init 23 = .ok (.newarray .int, 2) := by decide +kernel
theorem dX1_init_25 : decode cX1_init 25 = .ok (.putfield 18, 3) := by decide +kernel
theorem dX1_init_28 : decode cX1_init 28 = .ok (.aload_n 0, 1) := by decide +kernel
theorem dX1_init_29 : decode cX1_init 29 = .ok (.iconst 5, 1) := by decide +kernel
theorem dX1_init_30 : decode cX1_init 30 = .ok (.bipush 97, 2) := by decide +kernel
theorem dX1_init_32 : decode cX1_init 32 = .ok (.multianewarray 21 2, 4) := by decide +kernel
theorem dX1_init_36 : decode cX1_init 36 = .ok (.putfield 23, 3) := by decide +kernel
theorem dX1_init_39 : decode cX1_init 39 = .ok (.aload_n 0, 1) := by decide +kernel
theorem dX1_init_40 : decode cX1_init 40 = .ok (.bipush 12, 2) := by decide +kernel
theorem dX1_init_42 : decode cX1_init 42 = .ok (.newarray .int, 2) := by decide +kernel
theorem dX1_init_44 : decode cX1_init 44 = .ok (.putfield 26, 3) := by decide +kernel
theorem dX1_init_47 : decode cX1_init 47 = .ok (.aload_n 0, 1) := by decide +kernel
theorem dX1_init_48 : decode cX1_init 48 = .ok (.iconst 0, 1) := by decide +kernel
theorem dX1_init_49 : decode cX1_init 49 = .ok (.putfield 29, 3) := by decide +kernel
theorem dX1_init_52 : decode cX1_init 52 = .ok (.aload_n 0, 1) := by decide +kernel
theorem dX1_init_53 : decode cX1_init 53 = .ok (.iconst 0, 1) := by decide +kernel
theorem dX1_init_54 : decode cX1_init 54 = .ok (.putfield 33, 3) := by decide +kernel
theorem dX1_init_57 : decode cX1_init 57 = .ok (.aload_n 0, 1) := by decide +kernel
theorem dX1_init_58 : decode cX1_init 58 = .ok (.iconst 0, 1) := by decide +kernel
theorem dX1_init_59 : decode cX1_init 59 = .ok (.putfield 36, 3) := by decide +kernel
theorem dX1_init_62 : decode cX1_init 62 = .ok (.aload_n 0, 1) := by decide +kernel
theorem dX1_init_63 : decode cX1_init 63 = .ok (.aload_n 1, 1) := by decide +kernel
theorem dX1_init_64 : decode cX1_init 64 = .ok (.putfield 40, 3) := by decide +kernel
theorem dX1_init_67 : decode cX1_init 67 = .ok (.aload_n 0, 1) := by decide +kernel
theorem dX1_init_68 : decode cX1_init 68 = .ok (.aload_n 2, 1) := by decide +kernel
theorem dX1_init_69 : decode cX1_init 69 = .ok (.putfield 44, 3) := by decide +kernel
theorem dX1_init_72 : decode cX1_init 72 = .ok (.aload_n 0, 1) := by decide +kernel
theorem dX1_init_73 : decode cX1_init 73 = .ok (.aload_n 3, 1) := by decide +kernel
theorem dX1_init_74 : decode cX1_init 74 = .ok (.putfield 48, 3) := by decide +kernel
theorem dX1_init_77 : decode cX1_init 77 = .ok (.return_, 1) := by decide +kernel
theorem dX1_choose_0 : decode cX1_choose 0 = .ok (.aload_n 0, 1) := by decide +kernel
theorem dX1_choose_1 : decode cX1_choose 1 = .ok (.iload_n 1, 1) := by decide +kernel
theorem dX1_choose_2 : decode cX1_choose 2 = .ok (.invokevirtual 84, 3) := by decide +kernel
theorem dX1_choose_5 : decode cX1_choose 5 = .ok (.istore_n 2, 1) := by decide +kernel
theorem dX1_choose_6 : decode cX1_choose 6 = .ok (.iconst 0, 1) := by decide +kernel
theorem dX1_choose_7 : decode cX1_choose 7 = .ok (.istore_n 3, 1) := by decide +kernel
theorem dX1_choose_8 : decode cX1_choose 8 = .ok (.iload_n 3, 1) := by decide +kernel
theorem dX1_choose_9 : decode cX1_choose 9 = .ok (.aload_n 0, 1) := by decide +kernel
theorem dX1_choose_10 : decode cX1_choose 10 = .ok (.getfield 40, 3) := by decide +kernel
theorem dX1_choose_13 : decode cX1_choose 13 = .ok (.getfield 52, 3) := by decide +kernel
theorem dX1_choose_16 : decode cX1_choose 16 = .ok (.getfield 58, 3) := by decide +kernel
theorem dX1_choose_19 : decode cX1_choose 19 = .ok (.if_icmp .ge 73, 3) := by decide +kernel
theorem dX1_choose_22 : decode cX1_choose 22 = .ok (.aload_n 0, 1) := by decide +kernel
theorem dX1_choose_23 : decode cX1_choose 23 = .ok (.iload_n 3, 1) := by decide +kernel
theorem dX1_choose_24 : decode cX1_choose 24 = .ok (.invokevirtual 88, 3) := by decide +kernel
theorem dX1_choose_27 : decode cX1_choose 27 = .ok (.istore 4, 2) := by decide +kernel
theorem dX1_choose_29 : decode cX1_choose 29 = .ok (.iconst 0, 1) := by decide +kernel
theorem dX1_choose_30 : decode cX1_choose 30 = .ok (.istore 5, 2) := by decide +kernel
theorem dX1_choose_32 : decode cX1_choose 32 = .ok (.iconst 0, 1) := by decide +kernel
theorem dX1_choose_33 : decode cX1_choose 33 = .ok (.istore 6, 2) := by decide +kernel
theorem dX1_choose_35 : decode cX1_choose 35 = .ok (.iload 6, 2) := by decide +kernel
theorem dX1_choose_37 : decode cX1_choose 37 = .ok (.iload 4, 2) := by decide +kernel
theorem dX1_choose_39 : decode cX1_choose 39 = .ok (.if_icmp .ge 40, 3) := by decide +kernel
theorem dX1_choose_42 : decode cX1_choose 42 = .ok (.iload 5, 2) := by decide +kernel
theorem dX1_choose_44 : decode cX1_choose 44 = .ok (.ifCond .ne 35, 3) := by decide +kernel
theorem dX1_choose_47 : decode cX1_choose 47 = .ok (.aload_n 0, 1) := by decide +kernel
theorem dX1_choose_48 : decode cX1_choose 48 = .ok (.iload_n 3, 1) := by decide +kernel
theorem dX1_choose_49 : decode cX1_choose 49 = .ok (.iload 6, 2) := by decide +kernel
theorem dX1_choose_51 : decode cX1_choose 51 = .ok (.invokevirtual 91, 3) := by decide +kernel
theorem dX1_choose_54 : decode cX1_choose 54 = .ok (.ifCond .eq 16, 3) := by decide +kernel
theorem dX1_choose_57 : decode cX1_choose 57 = .ok (.aload_n 0, 1) := by decide +kernel
theorem dX1_choose_58 : decode cX1_choose 58 = .ok (.iload_n 3, 1) := by decide +kernel
theorem dX1_choose_59 : decode cX1_choose 59 = .ok (.iload_n 2, 1) := by decide +kernel
theorem dX1_choose_60 : decode cX1_choose 60 = .ok (.invokevirtual 95, 3) := by decide +kernel
theorem dX1_choose_63 : decode cX1_choose 63 = .ok (.ifCond .eq 7, 3) := by decide +kernel
theorem dX1_choose_66 : decode cX1_choose 66 = .ok (.iconst 1, 1) := by decide +kernel
theorem dX1_choose_67 : decode cX1_choose 67 = .ok (.goto 4, 3) := by decide +kernel
theorem dX1_choose_70 : decode cX1_choose 70 = .ok (.iconst 0, 1) := by decide +kernel
theorem dX1_choose_71 : decode cX1_choose 71 = .ok (.istore 5, 2) := by decide +kernel
theorem dX1_choose_73 : decode cX1_choose 73 = .ok (.iinc 6 1, 3) := by decide +kernel
theorem dX1_choose_76 : decode cX1_choose 76 = .ok (.goto (-41), 3) := by decide +kernel
theorem dX1_choose_79 : decode cX1_choose 79 = .ok (.iload_n 2, 1) := by decide +kernel
theorem dX1_choose_80 : decode cX1_choose 80 = .ok (.aload_n 0, 1) := by decide +kernel
theorem dX1_choose_81 : decode cX1_choose 81 = .ok (.getfield 29, 3) := by decide +kernel
theorem dX1_choose_84 : decode cX1_choose 84 = .ok (.isub, 1) := by decide +kernel
theorem dX1_choose_85 : decode cX1_choose 85 = .ok (.istore_n 2, 1) := by decide +kernel
theorem dX1_choose_86 : decode cX1_choose 86 = .ok (.iinc 3 1, 3) := by decide +kernel
theorem dX1_choose_89 : decode cX1_choose 89 = .ok (.goto (-81), 3) := by decide +kernel
theorem dX1_choose_92 : decode cX1_choose 92 = .ok (.return_, 1) := by decide +kernel
theorem dX1_crownsFor_0 : decode cX1_crownsFor 0 = .ok (.aload_n 0, 1) := by decide +kernel
theorem dX1_crownsFor_1 : decode cX1_crownsFor 1 = .ok (.getfield 23, 3) := by decide +kernel
theorem dX1_crownsFor_4 : decode cX1_crownsFor 4 = .ok (.iconst 0, 1) := by decide +kernel
theorem dX1_crownsFor_5 : decode cX1_crownsFor 5 = .ok (.aaload, 1) := by decide +kernel
theorem dX1_crownsFor_6 : decode cX1_crownsFor 6 = .ok (.iload_n 1, 1) := by decide +kernel
theorem dX1_crownsFor_7 : decode cX1_crownsFor 7 = .ok (.iaload, 1) := by decide +kernel
theorem dX1_crownsFor_8 : decode cX1_crownsFor 8 = .ok (.ireturn, 1) := by decide +kernel
theorem dX1_fits_0 : decode cX1_fits 0 = .ok (.aload_n 0, 1) := by decide +kernel
theorem dX1_fits_1 : decode cX1_fits 1 = .ok (.getfield 40, 3) := by decide +kernel
theorem dX1_fits_4 : decode cX1_fits 4 = .ok (.getfield 102, 3) := by decide +kernel
theorem dX1_fits_7 : decode cX1_fits 7 = .ok (.getfield 58, 3) := by decide +kernel
theorem dX1_fits_10 : decode cX1_fits 10 = .ok (.istore_n 3, 1) := by decide +kernel
theorem dX1_fits_11 : decode cX1_fits 11 = .ok (.aload_n 0, 1) := by decide +kernel
theorem dX1_fits_12 : decode cX1_fits 12 = .ok (.getfield 44, 3) := by decide +kernel
theorem dX1_fits_15 : decode cX1_fits 15 = .ok (.getfield 124, 3) := by decide +kernel
theorem dX1_fits_18 : decode cX1_fits 18 = .ok (.istore 4, 2) := by decide +kernel
theorem dX1_fits_20 : decode cX1_fits 20 = .ok (.iload_n 2, 1) := by decide +kernel
theorem dX1_fits_21 : decode cX1_fits 21 = .ok (.istore 5, 2) := by decide +kernel
theorem dX1_fits_23 : decode cX1_fits 23 = .ok (.aload_n 0, 1) := by decide +kernel
theorem dX1_fits_24 : decode cX1_fits 24 = .ok (.iconst 0, 1) := by decide +kernel
theorem dX1_fits_25 : decode cX1_fits 25 = .ok (.putfield 29, 3) := by decide +kernel
theorem dX1_fits_28 : decode cX1_fits 28 = .ok (.aload_n 0, 1) := by decide +kernel
theorem dX1_fits_29 : decode cX1_fits 29 = .ok (.iconst 0, 1) := by decide +kernel
theorem dX1_fits_30 : decode cX1_fits 30 = .ok (.putfield 33, 3) := by decide +kernel
theorem dX1_fits_33 : decode cX1_fits 33 = .ok (.aload_n 0, 1) := by decide +kernel
theorem dX1_fits_34 : decode cX1_fits 34 = .ok (.getfield 40, 3) := by decide +kernel
theorem dX1_fits_37 : decode cX1_fits 37 = .ok (.getfield 70, 3) := by decide +kernel
theorem dX1_fits_40 : decode cX1_fits 40 = .ok (.iload_n 1, 1) := by decide +kernel
theorem dX1_fits_41 : decode cX1_fits 41 = .ok (.iaload, 1) := by decide +kernel
theorem dX1_fits_42 : decode cX1_fits 42 = .ok (.iconst 1, 1) := by decide +kernel
theorem dX1_fits_43 : decode cX1_fits 43 = .ok (.isub, 1) := by decide +kernel
theorem dX1_fits_44 : decode cX1_fits 44 = .ok (.istore 6, 2) := by decide +kernel
theorem dX1_fits_46 : decode cX1_fits 46 = .ok (.iload 6, 2) := by decide +kernel
theorem dX1_fits_48 : decode cX1_fits 48 = .ok (.ifCond .lt 121, 3) := by decide +kernel
theorem dX1_fits_51 : decode cX1_fits 51 = .ok (.iload_n 1, 1) := by decide +kernel
theorem dX1_fits_52 : decode cX1_fits 52 = .ok (.iload 6, 2) := by decide +kernel
theorem dX1_fits_54 : decode cX1_fits 54 = .ok (.invokestatic 98, 3) := by decide +kernel
theorem dX1_fits_57 : decode cX1_fits 57 = .ok (.istore 7, 2) := by decide +kernel
theorem dX1_fits_59 : decode cX1_fits 59 = .ok (.iload 5, 2) := by decide +kernel
theorem dX1_fits_61 : decode cX1_fits 61 = .ok (.iload_n 3, 1) := by decide +kernel
theorem dX1_fits_62 : decode cX1_fits 62 = .ok (.iconst 1, 1) := by decide +kernel
theorem dX1_fits_63 : decode cX1_fits 63 = .ok (.iadd, 1) := by decide +kernel
theorem dX1_fits_64 : decode cX1_fits 64 = .ok (.irem, 1) := by decide +kernel
theorem dX1_fits_65 : decode cX1_fits 65 = .ok (.istore 8, 2) := by decide +kernel
theorem dX1_fits_67 : decode cX1_fits 67 = .ok (.iload 5, 2) := by decide +kernel
theorem dX1_fits_69 : decode cX1_fits 69 = .ok (.iload_n 3, 1) := by decide +kernel
theorem dX1_fits_70 : decode cX1_fits 70 = .ok (.iconst 1, 1) := by decide +kernel
theorem dX1_fits_71 : decode cX1_fits 71 = .ok (.iadd, 1) := by decide +kernel
theorem dX1_fits_72 : decode cX1_fits 72 = .ok (.idiv, 1) := by decide +kernel
theorem dX1_fits_73 : decode cX1_fits 73 = .ok (.istore 5, 2) := by decide +kernel
theorem dX1_fits_75 : decode cX1_fits 75 = .ok (.aload_n 0, 1) := by decide +kernel
theorem dX1_fits_76 : decode cX1_fits 76 = .ok (.getfield 26, 3) := by decide +kernel
theorem dX1_fits_79 : decode cX1_fits 79 = .ok (.iload 7, 2) := by decide +kernel
theorem dX1_fits_81 : decode cX1_fits 81 = .ok (.iconst (-1), 1) := by decide +kernel
theorem dX1_fits_82 : decode cX1_fits 82 = .ok (.iastore, 1) := by decide +kernel
theorem dX1_fits_83 : decode cX1_fits 83 = .ok (.iload 8, 2) := by decide +kernel
theorem dX1_fits_85 : decode cX1_fits 85 = .ok (.iload_n 3, 1) := by decide +kernel
theorem dX1_fits_86 : decode cX1_fits 86 = .ok (.if_icmp .ge 77, 3) := by decide +kernel
theorem dX1_fits_89 : decode cX1_fits 89 = .ok (.iload 4, 2) := by decide +kernel
theorem dX1_fits_91 : decode cX1_fits 91 = .ok (.iload 8, 2) := by decide +kernel
theorem dX1_fits_93 : decode cX1_fits 93 = .ok (.ishr, 1) := by decide +kernel
theorem dX1_fits_94 : decode cX1_fits 94 = .ok (.iconst 1, 1) := by decide +kernel
theorem dX1_fits_95 : decode cX1_fits 95 = .ok (.iand, 1) := by decide +kernel
theorem dX1_fits_96 : decode cX1_fits 96 = .ok (.ifCond .eq 5, 3) := by decide +kernel
theorem dX1_fits_99 : decode cX1_fits 99 = .ok (.iconst 0, 1) := by decide +kernel
theorem dX1_fits_100 : decode cX1_fits 100 = .ok (.ireturn, 1) := by decide +kernel
theorem dX1_fits_101 : decode cX1_fits 101 = .ok (.iload 4, 2) := by decide +kernel
theorem dX1_fits_103 : decode cX1_fits 103 = .ok (.iconst 1, 1) := by decide +kernel
theorem dX1_fits_104 : decode cX1_fits 104 = .ok (.iload 8, 2) := by decide +kernel
theorem dX1_fits_106 : decode cX1_fits 106 = .ok (.ishl, 1) := by decide +kernel
theorem dX1_fits_107 : decode cX1_fits 107 = .ok (.ior, 1) := by decide +kernel
theorem dX1_fits_108 : decode cX1_fits 108 = .ok (.istore 4, 2) := by decide +kernel
theorem dX1_fits_110 : decode cX1_fits 110 = .ok (.aload_n 0, 1) := by decide +kernel
theorem dX1_fits_111 : decode cX1_fits 111 = .ok (.getfield 26, 3) := by decide +kernel
theorem dX1_fits_114 : decode cX1_fits 114 = .ok (.iload 7, 2) := by decide +kernel
theorem dX1_fits_116 : decode cX1_fits 116 = .ok (.iload 8, 2) := by decide +kernel
theorem dX1_fits_118 : decode cX1_fits 118 = .ok (.iastore, 1) := by decide +kernel
theorem dX1_fits_119 : decode cX1_fits 119 = .ok (.aload_n 0, 1) := by decide +kernel
theorem dX1_fits_120 : decode cX1_fits 120 = .ok (.dup, 1) := by decide +kernel
theorem dX1_fits_121 : decode cX1_fits 121 = .ok (.getfield 29, 3) := by decide +kernel
theorem dX1_fits_124 : decode cX1_fits 124 = .ok (.aload_n 0, 1) := by decide +kernel
theorem dX1_fits_125 : decode cX1_fits 125 = .ok (.getfield 11, 3) := by decide +kernel
theorem dX1_fits_128 : decode cX1_fits 128 = .ok (.iload 7, 2) := by decide +kernel
theorem dX1_fits_130 : decode cX1_fits 130 = .ok (.bipush 6, 2) := by decide +kernel
theorem dX1_fits_132 : decode cX1_fits 132 = .ok (.imul, 1) := by decide +kernel
theorem dX1_fits_133 : decode cX1_fits 133 = .ok (.iload 8, 2) := by decide +kernel
theorem dX1_fits_135 : decode cX1_fits 135 = .ok (.iadd, 1) := by decide +kernel
theorem dX1_fits_136 : decode cX1_fits 136 = .ok (.iaload, 1) := by decide +kernel
theorem dX1_fits_137 : decode cX1_fits 137 = .ok (.iadd, 1) := by decide +kernel
theorem dX1_fits_138 : decode cX1_fits 138 = .ok (.putfield 29, 3) := by decide +kernel
theorem dX1_fits_141 : decode cX1_fits 141 = .ok (.aload_n 0, 1) := by decide +kernel
theorem dX1_fits_142 : decode cX1_fits 142 = .ok (.dup, 1) := by decide +kernel
theorem dX1_fits_143 : decode cX1_fits 143 = .ok (.getfield 33, 3) := by decide +kernel
theorem dX1_fits_146 : decode cX1_fits 146 = .ok (.aload_n 0, 1) := by decide +kernel
theorem dX1_fits_147 : decode cX1_fits 147 = .ok (.getfield 15, 3) := by decide +kernel
theorem dX1_fits_150 : decode cX1_fits 150 = .ok (.iload 7, 2) := by decide +kernel
theorem dX1_fits_152 : decode cX1_fits 152 = .ok (.bipush 6, 2) := by decide +kernel
theorem dX1_fits_154 : decode cX1_fits 154 = .ok (.imul, 1) := by decide +kernel
theorem dX1_fits_155 : decode cX1_fits 155 = .ok (.iload 8, 2) := by decide +kernel
theorem dX1_fits_157 : decode cX1_fits 157 = .ok (.iadd, 1) := by decide +kernel
theorem dX1_fits_158 : decode cX1_fits 158 = .ok (.iaload, 1) := by decide +kernel
theorem dX1_fits_159 : decode cX1_fits 159 = .ok (.iadd, 1) := by decide +kernel
theorem dX1_fits_160 : decode cX1_fits 160 = .ok (.putfield 33, 3) := by decide +kernel
theorem dX1_fits_163 : decode cX1_fits 163 = .ok (.iinc 6 (-1), 3) := by decide +kernel
theorem dX1_fits_166 : decode cX1_fits 166 = .ok (.goto (-120), 3) := by decide +kernel
theorem dX1_fits_169 : decode cX1_fits 169 = .ok (.iconst 1, 1) := by decide +kernel
theorem dX1_fits_170 : decode cX1_fits 170 = .ok (.ireturn, 1) := by decide +kernel
theorem dX1_isBest_0 : decode cX1_isBest 0 = .ok (.aload_n 0, 1) := by decide +kernel
theorem dX1_isBest_1 : decode cX1_isBest 1 = .ok (.getfield 29, 3) := by decide +kernel
theorem dX1_isBest_4 : decode cX1_isBest 4 = .ok (.iload_n 2, 1) := by decide +kernel
theorem dX1_isBest_5 : decode cX1_isBest 5 = .ok (.if_icmp .gt 38, 3) := by decide +kernel
theorem dX1_isBest_8 : decode cX1_isBest 8 = .ok (.aload_n 0, 1) := by decide +kernel
theorem dX1_isBest_9 : decode cX1_isBest 9 = .ok (.getfield 33, 3) := by decide +kernel
theorem dX1_isBest_12 : decode cX1_isBest 12 = .ok (.aload_n 0, 1) := by decide +kernel
theorem dX1_isBest_13 : decode cX1_isBest 13 = .ok (.getfield 23, 3) := by decide +kernel
theorem dX1_isBest_16 : decode cX1_isBest 16 = .ok (.iload_n 1, 1) := by decide +kernel
theorem dX1_isBest_17 : decode cX1_isBest 17 = .ok (.iconst 1, 1) := by decide +kernel
theorem dX1_isBest_18 : decode cX1_isBest 18 = .ok (.iadd, 1) := by decide +kernel
theorem dX1_isBest_19 : decode cX1_isBest 19 = .ok (.aaload, 1) := by decide +kernel
theorem dX1_isBest_20 : decode cX1_isBest 20 = .ok (.iload_n 2, 1) := by decide +kernel
theorem dX1_isBest_21 : decode cX1_isBest 21 = .ok (.aload_n 0, 1) := by decide +kernel
theorem dX1_isBest_22 : decode cX1_isBest 22 = .ok (.getfield 29, 3) := by decide +kernel
theorem dX1_isBest_25 : decode cX1_isBest 25 = .ok (.isub, 1) := by decide +kernel
theorem dX1_isBest_26 : decode cX1_isBest 26 = .ok (.iaload, 1) := by decide +kernel
theorem dX1_isBest_27 : decode cX1_isBest 27 = .ok (.iadd, 1) := by decide +kernel
theorem dX1_isBest_28 : decode cX1_isBest 28 = .ok (.aload_n 0, 1) := by decide +kernel
theorem dX1_isBest_29 : decode cX1_isBest 29 = .ok (.getfield 23, 3) := by decide +kernel
theorem dX1_isBest_32 : decode cX1_isBest 32 = .ok (.iload_n 1, 1) := by decide +kernel
theorem dX1_isBest_33 : decode cX1_isBest 33 = .ok (.aaload, 1) := by decide +kernel
theorem dX1_isBest_34 : decode cX1_isBest 34 = .ok (.iload_n 2, 1) := by decide +kernel
theorem dX1_isBest_35 : decode cX1_isBest 35 = .ok (.iaload, 1) := by decide +kernel
theorem dX1_isBest_36 : decode cX1_isBest 36 = .ok (.if_icmp .ne 7, 3) := by decide +kernel
theorem dX1_isBest_39 : decode cX1_isBest 39 = .ok (.iconst 1, 1) := by decide +kernel
theorem dX1_isBest_40 : decode cX1_isBest 40 = .ok (.goto 4, 3) := by decide +kernel
theorem dX1_isBest_43 : decode cX1_isBest 43 = .ok (.iconst 0, 1) := by decide +kernel
theorem dX1_isBest_44 : decode cX1_isBest 44 = .ok (.ireturn, 1) := by decide +kernel
theorem dX1_joinRest_0 : decode cX1_joinRest 0 = .ok (.aload_n 0, 1) := by decide +kernel
theorem dX1_joinRest_1 : decode cX1_joinRest 1 = .ok (.getfield 23, 3) := by decide +kernel
theorem dX1_joinRest_4 : decode cX1_joinRest 4 = .ok (.iload_n 1, 1) := by decide +kernel
theorem dX1_joinRest_5 : decode cX1_joinRest 5 = .ok (.aaload, 1) := by decide +kernel
theorem dX1_joinRest_6 : decode cX1_joinRest 6 = .ok (.astore_n 2, 1) := by decide +kernel
theorem dX1_joinRest_7 : decode cX1_joinRest 7 = .ok (.aload_n 0, 1) := by decide +kernel
theorem dX1_joinRest_8 : decode cX1_joinRest 8 = .ok (.getfield 23, 3) := by decide +kernel
theorem dX1_joinRest_11 : decode cX1_joinRest 11 = .ok (.iload_n 1, 1) := by decide +kernel
theorem dX1_joinRest_12 : decode cX1_joinRest 12 = .ok (.iconst 1, 1) := by decide +kernel
theorem dX1_joinRest_13 : decode cX1_joinRest 13 = .ok (.iadd, 1) := by decide +kernel
theorem dX1_joinRest_14 : decode cX1_joinRest 14 = .ok (.aaload, 1) := by decide +kernel
theorem dX1_joinRest_15 : decode cX1_joinRest 15 = .ok (.astore_n 3, 1) := by decide +kernel
theorem dX1_joinRest_16 : decode cX1_joinRest 16 = .ok (.aload_n 2, 1) := by decide +kernel
theorem dX1_joinRest_17 : decode cX1_joinRest 17 = .ok (.ldc 63, 2) := by decide +kernel
theorem dX1_joinRest_19 : decode cX1_joinRest 19 = .ok (.invokestatic 64, 3) := by decide +kernel
theorem dX1_joinRest_22 : decode cX1_joinRest 22 = .ok (.iconst 0, 1) := by decide +kernel
theorem dX1_joinRest_23 : decode cX1_joinRest 23 = .ok (.istore 4, 2) := by decide +kernel
theorem dX1_joinRest_25 : decode cX1_joinRest 25 = .ok (.iload 4, 2) := by decide +kernel
theorem dX1_joinRest_27 : decode cX1_joinRest 27 = .ok (.bipush 24, 2) := by decide +kernel
theorem dX1_joinRest_29 : decode cX1_joinRest 29 = .ok (.if_icmp .gt 69, 3) := by decide +kernel
theorem dX1_joinRest_32 : decode cX1_joinRest 32 = .ok (.iconst 0, 1) := by decide +kernel
theorem dX1_joinRest_33 : decode cX1_joinRest 33 = .ok (.istore 5, 2) := by decide +kernel
theorem dX1_joinRest_35 : decode cX1_joinRest 35 = .ok (.iload 5, 2) := by decide +kernel
theorem dX1_joinRest_37 : decode cX1_joinRest 37 = .ok (.iload 4, 2) := by decide +kernel
theorem dX1_joinRest_39 : decode cX1_joinRest 39 = .ok (.iadd, 1) := by decide +kernel
theorem dX1_joinRest_40 : decode cX1_joinRest 40 = .ok (.bipush 96, 2) := by decide +kernel
theorem dX1_joinRest_42 : decode cX1_joinRest 42 = .ok (.if_icmp .gt 50, 3) := by decide +kernel
theorem dX1_joinRest_45 : decode cX1_joinRest 45 = .ok (.aload_n 0, 1) := by decide +kernel
theorem dX1_joinRest_46 : decode cX1_joinRest 46 = .ok (.getfield 18, 3) := by decide +kernel
theorem dX1_joinRest_49 : decode cX1_joinRest 49 = .ok (.iload 4, 2) := by decide +kernel
theorem dX1_joinRest_51 : decode cX1_joinRest 51 = .ok (.iaload, 1) := by decide +kernel
theorem dX1_joinRest_52 : decode cX1_joinRest 52 = .ok (.ldc 63, 2) := by decide +kernel
theorem dX1_joinRest_54 : decode cX1_joinRest 54 = .ok (.if_icmp .ge 38, 3) := by decide +kernel
theorem dX1_joinRest_57 : decode cX1_joinRest 57 = .ok (.aload_n 2, 1) := by decide +kernel
theorem dX1_joinRest_58 : decode cX1_joinRest 58 = .ok (.iload 4, 2) := by decide +kernel
theorem dX1_joinRest_60 : decode cX1_joinRest 60 = .ok (.iload 5, 2) := by decide +kernel
theorem dX1_joinRest_62 : decode cX1_joinRest 62 = .ok (.iadd, 1) := by decide +kernel
theorem dX1_joinRest_63 : decode cX1_joinRest 63 = .ok (.aload_n 2, 1) := by decide +kernel
theorem dX1_joinRest_64 : decode cX1_joinRest 64 = .ok (.iload 4, 2) := by decide +kernel
theorem dX1_joinRest_66 : decode cX1_joinRest 66 = .ok (.iload 5, 2) := by decide +kernel
theorem dX1_joinRest_68 : decode cX1_joinRest 68 = .ok (.iadd, 1) := by decide +kernel
theorem dX1_joinRest_69 : decode cX1_joinRest 69 = .ok (.iaload, 1) := by decide +kernel
theorem dX1_joinRest_70 : decode cX1_joinRest 70 = .ok (.aload_n 0, 1) := by decide +kernel
theorem dX1_joinRest_71 : decode cX1_joinRest 71 = .ok (.getfield 18, 3) := by decide +kernel
theorem dX1_joinRest_74 : decode cX1_joinRest 74 = .ok (.iload 4, 2) := by decide +kernel
theorem dX1_joinRest_76 : decode cX1_joinRest 76 = .ok (.iaload, 1) := by decide +kernel
theorem dX1_joinRest_77 : decode cX1_joinRest 77 = .ok (.aload_n 3, 1) := by decide +kernel
theorem dX1_joinRest_78 : decode cX1_joinRest 78 = .ok (.iload 5, 2) := by decide +kernel
theorem dX1_joinRest_80 : decode cX1_joinRest 80 = .ok (.iaload, 1) := by decide +kernel
theorem dX1_joinRest_81 : decode cX1_joinRest 81 = .ok (.iadd, 1) := by decide +kernel
theorem dX1_joinRest_82 : decode cX1_joinRest 82 = .ok (.invokestatic 119, 3) := by decide +kernel
theorem dX1_joinRest_85 : decode cX1_joinRest 85 = .ok (.iastore, 1) := by decide +kernel
theorem dX1_joinRest_86 : decode cX1_joinRest 86 = .ok (.iinc 5 1, 3) := by decide +kernel
theorem dX1_joinRest_89 : decode cX1_joinRest 89 = .ok (.goto (-54), 3) := by decide +kernel
theorem dX1_joinRest_92 : decode cX1_joinRest 92 = .ok (.iinc 4 1, 3) := by decide +kernel
theorem dX1_joinRest_95 : decode cX1_joinRest 95 = .ok (.goto (-70), 3) := by decide +kernel
theorem dX1_joinRest_98 : decode cX1_joinRest 98 = .ok (.return_, 1) := by decide +kernel
theorem dX1_mostNotes_0 : decode cX1_mostNotes 0 = .ok (.bipush 96, 2) := by decide +kernel
theorem dX1_mostNotes_2 : decode cX1_mostNotes 2 = .ok (.istore_n 2, 1) := by decide +kernel
theorem dX1_mostNotes_3 : decode cX1_mostNotes 3 = .ok (.iload_n 2, 1) := by decide +kernel
theorem dX1_mostNotes_4 : decode cX1_mostNotes 4 = .ok (.ifCond .le 23, 3) := by decide +kernel
theorem dX1_mostNotes_7 : decode cX1_mostNotes 7 = .ok (.aload_n 0, 1) := by decide +kernel
theorem dX1_mostNotes_8 : decode cX1_mostNotes 8 = .ok (.getfield 23, 3) := by decide +kernel
theorem dX1_mostNotes_11 : decode cX1_mostNotes 11 = .ok (.iconst 0, 1) := by decide +kernel
theorem dX1_mostNotes_12 : decode cX1_mostNotes 12 = .ok (.aaload, 1) := by decide +kernel
theorem dX1_mostNotes_13 : decode cX1_mostNotes 13 = .ok (.iload_n 2, 1) := by decide +kernel
theorem dX1_mostNotes_14 : decode cX1_mostNotes 14 = .ok (.iaload, 1) := by decide +kernel
theorem dX1_mostNotes_15 : decode cX1_mostNotes 15 = .ok (.iload_n 1, 1) := by decide +kernel
theorem dX1_mostNotes_16 : decode cX1_mostNotes 16 = .ok (.if_icmp .gt 5, 3) := by decide +kernel
theorem dX1_mostNotes_19 : decode cX1_mostNotes 19 = .ok (.iload_n 2, 1) := by decide +kernel
theorem dX1_mostNotes_20 : decode cX1_mostNotes 20 = .ok (.ireturn, 1) := by decide +kernel
theorem dX1_mostNotes_21 : decode cX1_mostNotes 21 = .ok (.iinc 2 (-1), 3) := by decide +kernel
theorem dX1_mostNotes_24 : decode cX1_mostNotes 24 = .ok (.goto (-21), 3) := by decide +kernel
theorem dX1_mostNotes_27 : decode cX1_mostNotes 27 = .ok (.iconst 0, 1) := by decide +kernel
theorem dX1_mostNotes_28 : decode cX1_mostNotes 28 = .ok (.ireturn, 1) := by decide +kernel
theorem dX1_rowsOf_0 : decode cX1_rowsOf 0 = .ok (.iconst 1, 1) := by decide +kernel
theorem dX1_rowsOf_1 : decode cX1_rowsOf 1 = .ok (.istore_n 2, 1) := by decide +kernel
theorem dX1_rowsOf_2 : decode cX1_rowsOf 2 = .ok (.iconst 0, 1) := by decide +kernel
theorem dX1_rowsOf_3 : decode cX1_rowsOf 3 = .ok (.istore_n 3, 1) := by decide +kernel
theorem dX1_rowsOf_4 : decode cX1_rowsOf 4 = .ok (.iload_n 3, 1) := by decide +kernel
theorem dX1_rowsOf_5 : decode cX1_rowsOf 5 = .ok (.aload_n 0, 1) := by decide +kernel
theorem dX1_rowsOf_6 : decode cX1_rowsOf 6 = .ok (.getfield 40, 3) := by decide +kernel
theorem dX1_rowsOf_9 : decode cX1_rowsOf 9 = .ok (.getfield 70, 3) := by decide +kernel
theorem dX1_rowsOf_12 : decode cX1_rowsOf 12 = .ok (.iload_n 1, 1) := by decide +kernel
theorem dX1_rowsOf_13 : decode cX1_rowsOf 13 = .ok (.iaload, 1) := by decide +kernel
theorem dX1_rowsOf_14 : decode cX1_rowsOf 14 = .ok (.if_icmp .ge 24, 3) := by decide +kernel
theorem dX1_rowsOf_17 : decode cX1_rowsOf 17 = .ok (.iload_n 2, 1) := by decide +kernel
theorem dX1_rowsOf_18 : decode cX1_rowsOf 18 = .ok (.aload_n 0, 1) := by decide +kernel
theorem dX1_rowsOf_19 : decode cX1_rowsOf 19 = .ok (.getfield 40, 3) := by decide +kernel
theorem dX1_rowsOf_22 : decode cX1_rowsOf 22 = .ok (.getfield 102, 3) := by decide +kernel
theorem dX1_rowsOf_25 : decode cX1_rowsOf 25 = .ok (.getfield 58, 3) := by decide +kernel
theorem dX1_rowsOf_28 : decode cX1_rowsOf 28 = .ok (.iconst 1, 1) := by decide +kernel
theorem dX1_rowsOf_29 : decode cX1_rowsOf 29 = .ok (.iadd, 1) := by decide +kernel
theorem dX1_rowsOf_30 : decode cX1_rowsOf 30 = .ok (.imul, 1) := by decide +kernel
theorem dX1_rowsOf_31 : decode cX1_rowsOf 31 = .ok (.istore_n 2, 1) := by decide +kernel
theorem dX1_rowsOf_32 : decode cX1_rowsOf 32 = .ok (.iinc 3 1, 3) := by decide +kernel
theorem dX1_rowsOf_35 : decode cX1_rowsOf 35 = .ok (.goto (-31), 3) := by decide +kernel
theorem dX1_rowsOf_38 : decode cX1_rowsOf 38 = .ok (.iload_n 2, 1) := by decide +kernel
theorem dX1_rowsOf_39 : decode cX1_rowsOf 39 = .ok (.ireturn, 1) := by decide +kernel
theorem dX1_weigh_0 : decode cX1_weigh 0 = .ok (.aload_n 0, 1) := by decide +kernel
theorem dX1_weigh_1 : decode cX1_weigh 1 = .ok (.getfield 36, 3) := by decide +kernel
theorem dX1_weigh_4 : decode cX1_weigh 4 = .ok (.ifCond .eq 4, 3) := by decide +kernel
theorem dX1_weigh_7 : decode cX1_weigh 7 = .ok (.return_, 1) := by decide +kernel
theorem dX1_weigh_8 : decode cX1_weigh 8 = .ok (.aload_n 0, 1) := by decide +kernel
theorem dX1_weigh_9 : decode cX1_weigh 9 = .ok (.iconst 1, 1) := by decide +kernel
theorem dX1_weigh_10 : decode cX1_weigh 10 = .ok (.putfield 36, 3) := by decide +kernel
theorem dX1_weigh_13 : decode cX1_weigh 13 = .ok (.aload_n 0, 1) := by decide +kernel
theorem dX1_weigh_14 : decode cX1_weigh 14 = .ok (.getfield 40, 3) := by decide +kernel
theorem dX1_weigh_17 : decode cX1_weigh 17 = .ok (.getfield 52, 3) := by decide +kernel
theorem dX1_weigh_20 : decode cX1_weigh 20 = .ok (.getfield 58, 3) := by decide +kernel
theorem dX1_weigh_23 : decode cX1_weigh 23 = .ok (.istore_n 1, 1) := by decide +kernel
theorem dX1_weigh_24 : decode cX1_weigh 24 = .ok (.aload_n 0, 1) := by decide +kernel
theorem dX1_weigh_25 : decode cX1_weigh 25 = .ok (.getfield 23, 3) := by decide +kernel
theorem dX1_weigh_28 : decode cX1_weigh 28 = .ok (.iload_n 1, 1) := by decide +kernel
theorem dX1_weigh_29 : decode cX1_weigh 29 = .ok (.aaload, 1) := by decide +kernel
theorem dX1_weigh_30 : decode cX1_weigh 30 = .ok (.ldc 63, 2) := by decide +kernel
theorem dX1_weigh_32 : decode cX1_weigh 32 = .ok (.invokestatic 64, 3) := by decide +kernel
theorem dX1_weigh_35 : decode cX1_weigh 35 = .ok (.aload_n 0, 1) := by decide +kernel
theorem dX1_weigh_36 : decode cX1_weigh 36 = .ok (.getfield 23, 3) := by decide +kernel
theorem dX1_weigh_39 : decode cX1_weigh 39 = .ok (.iload_n 1, 1) := by decide +kernel
theorem dX1_weigh_40 : decode cX1_weigh 40 = .ok (.aaload, 1) := by decide +kernel
theorem dX1_weigh_41 : decode cX1_weigh 41 = .ok (.iconst 0, 1) := by decide +kernel
theorem dX1_weigh_42 : decode cX1_weigh 42 = .ok (.iconst 0, 1) := by decide +kernel
theorem dX1_weigh_43 : decode cX1_weigh 43 = .ok (.iastore, 1) := by decide +kernel
theorem dX1_weigh_44 : decode cX1_weigh 44 = .ok (.iload_n 1, 1) := by decide +kernel
theorem dX1_weigh_45 : decode cX1_weigh 45 = .ok (.iconst 1, 1) := by decide +kernel
theorem dX1_weigh_46 : decode cX1_weigh 46 = .ok (.isub, 1) := by decide +kernel
theorem dX1_weigh_47 : decode cX1_weigh 47 = .ok (.istore_n 2, 1) := by decide +kernel
theorem dX1_weigh_48 : decode cX1_weigh 48 = .ok (.iload_n 2, 1) := by decide +kernel
theorem dX1_weigh_49 : decode cX1_weigh 49 = .ok (.ifCond .lt 46, 3) := by decide +kernel
theorem dX1_weigh_52 : decode cX1_weigh 52 = .ok (.iconst 0, 1) := by decide +kernel
theorem dX1_weigh_53 : decode cX1_weigh 53 = .ok (.istore_n 3, 1) := by decide +kernel
theorem dX1_weigh_54 : decode cX1_weigh 54 = .ok (.iload_n 3, 1) := by decide +kernel
theorem dX1_weigh_55 : decode cX1_weigh 55 = .ok (.aload_n 0, 1) := by decide +kernel
theorem dX1_weigh_56 : decode cX1_weigh 56 = .ok (.getfield 40, 3) := by decide +kernel
theorem dX1_weigh_59 : decode cX1_weigh 59 = .ok (.getfield 70, 3) := by decide +kernel
theorem dX1_weigh_62 : decode cX1_weigh 62 = .ok (.iload_n 2, 1) := by decide +kernel
theorem dX1_weigh_63 : decode cX1_weigh 63 = .ok (.iaload, 1) := by decide +kernel
theorem dX1_weigh_64 : decode cX1_weigh 64 = .ok (.if_icmp .ge 15, 3) := by decide +kernel
theorem dX1_weigh_67 : decode cX1_weigh 67 = .ok (.aload_n 0, 1) := by decide +kernel
theorem dX1_weigh_68 : decode cX1_weigh 68 = .ok (.iload_n 2, 1) := by decide +kernel
theorem dX1_weigh_69 : decode cX1_weigh 69 = .ok (.iload_n 3, 1) := by decide +kernel
theorem dX1_weigh_70 : decode cX1_weigh 70 = .ok (.invokevirtual 73, 3) := by decide +kernel
theorem dX1_weigh_73 : decode cX1_weigh 73 = .ok (.iinc 3 1, 3) := by decide +kernel
theorem dX1_weigh_76 : decode cX1_weigh 76 = .ok (.goto (-22), 3) := by decide +kernel
theorem dX1_weigh_79 : decode cX1_weigh 79 = .ok (.aload_n 0, 1) := by decide +kernel
theorem dX1_weigh_80 : decode cX1_weigh 80 = .ok (.iload_n 2, 1) := by decide +kernel
theorem dX1_weigh_81 : decode cX1_weigh 81 = .ok (.invokevirtual 77, 3) := by decide +kernel
theorem dX1_weigh_84 : decode cX1_weigh 84 = .ok (.aload_n 0, 1) := by decide +kernel
theorem dX1_weigh_85 : decode cX1_weigh 85 = .ok (.iload_n 2, 1) := by decide +kernel
theorem dX1_weigh_86 : decode cX1_weigh 86 = .ok (.invokevirtual 81, 3) := by decide +kernel
theorem dX1_weigh_89 : decode cX1_weigh 89 = .ok (.iinc 2 (-1), 3) := by decide +kernel
theorem dX1_weigh_92 : decode cX1_weigh 92 = .ok (.goto (-44), 3) := by decide +kernel
theorem dX1_weigh_95 : decode cX1_weigh 95 = .ok (.return_, 1) := by decide +kernel
theorem dX1_weighPart_0 : decode cX1_weighPart 0 = .ok (.iload_n 1, 1) := by decide +kernel
theorem dX1_weighPart_1 : decode cX1_weighPart 1 = .ok (.iload_n 2, 1) := by decide +kernel
theorem dX1_weighPart_2 : decode cX1_weighPart 2 = .ok (.invokestatic 98, 3) := by decide +kernel
theorem dX1_weighPart_5 : decode cX1_weighPart 5 = .ok (.istore_n 3, 1) := by decide +kernel
theorem dX1_weighPart_6 : decode cX1_weighPart 6 = .ok (.iconst 0, 1) := by decide +kernel
theorem dX1_weighPart_7 : decode cX1_weighPart 7 = .ok (.istore 4, 2) := by decide +kernel
theorem dX1_weighPart_9 : decode cX1_weighPart 9 = .ok (.iload 4, 2) := by decide +kernel
theorem dX1_weighPart_11 : decode cX1_weighPart 11 = .ok (.aload_n 0, 1) := by decide +kernel
theorem dX1_weighPart_12 : decode cX1_weighPart 12 = .ok (.getfield 40, 3) := by decide +kernel
theorem dX1_weighPart_15 : decode cX1_weighPart 15 = .ok (.getfield 102, 3) := by decide +kernel
theorem dX1_weighPart_18 : decode cX1_weighPart 18 = .ok (.getfield 58, 3) := by decide +kernel
theorem dX1_weighPart_21 : decode cX1_weighPart 21 = .ok (.if_icmp .ge 57, 3) := by decide +kernel
theorem dX1_weighPart_24 : decode cX1_weighPart 24 = .ok (.aload_n 0, 1) := by decide +kernel
theorem dX1_weighPart_25 : decode cX1_weighPart 25 = .ok (.getfield 11, 3) := by decide +kernel
theorem dX1_weighPart_28 : decode cX1_weighPart 28 = .ok (.iload_n 3, 1) := by decide +kernel
theorem dX1_weighPart_29 : decode cX1_weighPart 29 = .ok (.bipush 6, 2) := by decide +kernel
theorem dX1_weighPart_31 : decode cX1_weighPart 31 = .ok (.imul, 1) := by decide +kernel
theorem dX1_weighPart_32 : decode cX1_weighPart 32 = .ok (.iload 4, 2) := by decide +kernel
theorem dX1_weighPart_34 : decode cX1_weighPart 34 = .ok (.iadd, 1) := by decide +kernel
theorem dX1_weighPart_35 : decode cX1_weighPart 35 = .ok (.aload_n 0, 1) := by decide +kernel
theorem dX1_weighPart_36 : decode cX1_weighPart 36 = .ok (.getfield 48, 3) := by decide +kernel
theorem dX1_weighPart_39 : decode cX1_weighPart 39 = .ok (.iload_n 3, 1) := by decide +kernel
theorem dX1_weighPart_40 : decode cX1_weighPart 40 = .ok (.iload 4, 2) := by decide +kernel
theorem dX1_weighPart_42 : decode cX1_weighPart 42 = .ok (.invokevirtual 105, 3) := by decide +kernel
theorem dX1_weighPart_45 : decode cX1_weighPart 45 = .ok (.invokestatic 110, 3) := by decide +kernel
theorem dX1_weighPart_48 : decode cX1_weighPart 48 = .ok (.iastore, 1) := by decide +kernel
theorem dX1_weighPart_49 : decode cX1_weighPart 49 = .ok (.aload_n 0, 1) := by decide +kernel
theorem dX1_weighPart_50 : decode cX1_weighPart 50 = .ok (.getfield 15, 3) := by decide +kernel
theorem dX1_weighPart_53 : decode cX1_weighPart 53 = .ok (.iload_n 3, 1) := by decide +kernel
theorem dX1_weighPart_54 : decode cX1_weighPart 54 = .ok (.bipush 6, 2) := by decide +kernel
theorem dX1_weighPart_56 : decode cX1_weighPart 56 = .ok (.imul, 1) := by decide +kernel
theorem dX1_weighPart_57 : decode cX1_weighPart 57 = .ok (.iload 4, 2) := by decide +kernel
theorem dX1_weighPart_59 : decode cX1_weighPart 59 = .ok (.iadd, 1) := by decide +kernel
theorem dX1_weighPart_60 : decode cX1_weighPart 60 = .ok (.aload_n 0, 1) := by decide +kernel
theorem dX1_weighPart_61 : decode cX1_weighPart 61 = .ok (.getfield 48, 3) := by decide +kernel
theorem dX1_weighPart_64 : decode cX1_weighPart 64 = .ok (.iload_n 1, 1) := by decide +kernel
theorem dX1_weighPart_65 : decode cX1_weighPart 65 = .ok (.iload_n 2, 1) := by decide +kernel
theorem dX1_weighPart_66 : decode cX1_weighPart 66 = .ok (.iload 4, 2) := by decide +kernel
theorem dX1_weighPart_68 : decode cX1_weighPart 68 = .ok (.invokevirtual 115, 3) := by decide +kernel
theorem dX1_weighPart_71 : decode cX1_weighPart 71 = .ok (.iastore, 1) := by decide +kernel
theorem dX1_weighPart_72 : decode cX1_weighPart 72 = .ok (.iinc 4 1, 3) := by decide +kernel
theorem dX1_weighPart_75 : decode cX1_weighPart 75 = .ok (.goto (-66), 3) := by decide +kernel
theorem dX1_weighPart_78 : decode cX1_weighPart 78 = .ok (.return_, 1) := by decide +kernel
theorem dX1_weighRows_0 : decode cX1_weighRows 0 = .ok (.aload_n 0, 1) := by decide +kernel
theorem dX1_weighRows_1 : decode cX1_weighRows 1 = .ok (.getfield 18, 3) := by decide +kernel
theorem dX1_weighRows_4 : decode cX1_weighRows 4 = .ok (.ldc 63, 2) := by decide +kernel
theorem dX1_weighRows_6 : decode cX1_weighRows 6 = .ok (.invokestatic 64, 3) := by decide +kernel
theorem dX1_weighRows_9 : decode cX1_weighRows 9 = .ok (.aload_n 0, 1) := by decide +kernel
theorem dX1_weighRows_10 : decode cX1_weighRows 10 = .ok (.iload_n 1, 1) := by decide +kernel
theorem dX1_weighRows_11 : decode cX1_weighRows 11 = .ok (.invokevirtual 88, 3) := by decide +kernel
theorem dX1_weighRows_14 : decode cX1_weighRows 14 = .ok (.istore_n 2, 1) := by decide +kernel
theorem dX1_weighRows_15 : decode cX1_weighRows 15 = .ok (.iconst 0, 1) := by decide +kernel
theorem dX1_weighRows_16 : decode cX1_weighRows 16 = .ok (.istore_n 3, 1) := by decide +kernel
theorem dX1_weighRows_17 : decode cX1_weighRows 17 = .ok (.iload_n 3, 1) := by decide +kernel
theorem dX1_weighRows_18 : decode cX1_weighRows 18 = .ok (.iload_n 2, 1) := by decide +kernel
theorem dX1_weighRows_19 : decode cX1_weighRows 19 = .ok (.if_icmp .ge 47, 3) := by decide +kernel
theorem dX1_weighRows_22 : decode cX1_weighRows 22 = .ok (.aload_n 0, 1) := by decide +kernel
theorem dX1_weighRows_23 : decode cX1_weighRows 23 = .ok (.iload_n 1, 1) := by decide +kernel
theorem dX1_weighRows_24 : decode cX1_weighRows 24 = .ok (.iload_n 3, 1) := by decide +kernel
theorem dX1_weighRows_25 : decode cX1_weighRows 25 = .ok (.invokevirtual 91, 3) := by decide +kernel
theorem dX1_weighRows_28 : decode cX1_weighRows 28 = .ok (.ifCond .eq 32, 3) := by decide +kernel
theorem dX1_weighRows_31 : decode cX1_weighRows 31 = .ok (.aload_n 0, 1) := by decide +kernel
theorem dX1_weighRows_32 : decode cX1_weighRows 32 = .ok (.getfield 33, 3) := by decide +kernel
theorem dX1_weighRows_35 : decode cX1_weighRows 35 = .ok (.aload_n 0, 1) := by decide +kernel
theorem dX1_weighRows_36 : decode cX1_weighRows 36 = .ok (.getfield 18, 3) := by decide +kernel
theorem dX1_weighRows_39 : decode cX1_weighRows 39 = .ok (.aload_n 0, 1) := by decide +kernel
theorem dX1_weighRows_40 : decode cX1_weighRows 40 = .ok (.getfield 29, 3) := by decide +kernel
theorem dX1_weighRows_43 : decode cX1_weighRows 43 = .ok (.iaload, 1) := by decide +kernel
theorem dX1_weighRows_44 : decode cX1_weighRows 44 = .ok (.if_icmp .ge 16, 3) := by decide +kernel
theorem dX1_weighRows_47 : decode cX1_weighRows 47 = .ok (.aload_n 0, 1) := by decide +kernel
theorem dX1_weighRows_48 : decode cX1_weighRows 48 = .ok (.getfield 18, 3) := by decide +kernel
theorem dX1_weighRows_51 : decode cX1_weighRows 51 = .ok (.aload_n 0, 1) := by decide +kernel
theorem dX1_weighRows_52 : decode cX1_weighRows 52 = .ok (.getfield 29, 3) := by decide +kernel
theorem dX1_weighRows_55 : decode cX1_weighRows 55 = .ok (.aload_n 0, 1) := by decide +kernel
theorem dX1_weighRows_56 : decode cX1_weighRows 56 = .ok (.getfield 33, 3) := by decide +kernel
theorem dX1_weighRows_59 : decode cX1_weighRows 59 = .ok (.iastore, 1) := by decide +kernel
theorem dX1_weighRows_60 : decode cX1_weighRows 60 = .ok (.iinc 3 1, 3) := by decide +kernel
theorem dX1_weighRows_63 : decode cX1_weighRows 63 = .ok (.goto (-46), 3) := by decide +kernel
theorem dX1_weighRows_66 : decode cX1_weighRows 66 = .ok (.return_, 1) := by decide +kernel
theorem dX2_init_0 : decode cX2_init 0 = .ok (.aload_n 0, 1) := by decide +kernel
theorem dX2_init_1 : decode cX2_init 1 = .ok (.invokespecial 3, 3) := by decide +kernel
theorem dX2_init_4 : decode cX2_init 4 = .ok (.aload_n 0, 1) := by decide +kernel
theorem dX2_init_5 : decode cX2_init 5 = .ok (.bipush 64, 2) := by decide +kernel
theorem dX2_init_7 : decode cX2_init 7 = .ok (.newarray .int, 2) := by decide +kernel
theorem dX2_init_9 : decode cX2_init 9 = .ok (.putfield 9, 3) := by decide +kernel
theorem dX2_init_12 : decode cX2_init 12 = .ok (.aload_n 0, 1) := by decide +kernel
theorem dX2_init_13 : decode cX2_init 13 = .ok (.bipush 64, 2) := by decide +kernel
theorem dX2_init_15 : decode cX2_init 15 = .ok (.newarray .int, 2) := by decide +kernel
theorem dX2_init_17 : decode cX2_init 17 = .ok (.putfield 15, 3) := by decide +kernel
theorem dX2_init_20 : decode cX2_init 20 = .ok (.aload_n 0, 1) := by decide +kernel
theorem dX2_init_21 : decode cX2_init 21 = .ok (.iconst 5, 1) := by decide +kernel
theorem dX2_init_22 : decode cX2_init 22 = .ok (.newarray .int, 2) := by decide +kernel
theorem dX2_init_24 : decode cX2_init 24 = .ok (.putfield 18, 3) := by decide +kernel
theorem dX2_init_27 : decode cX2_init 27 = .ok (.aload_n 0, 1) := by decide +kernel
theorem dX2_init_28 : decode cX2_init 28 = .ok (.iconst 5, 1) := by decide +kernel
theorem dX2_init_29 : decode cX2_init 29 = .ok (.newarray .int, 2) := by decide +kernel
theorem dX2_init_31 : decode cX2_init 31 = .ok (.putfield 21, 3) := by decide +kernel
theorem dX2_init_34 : decode cX2_init 34 = .ok (.aload_n 0, 1) := by decide +kernel
theorem dX2_init_35 : decode cX2_init 35 = .ok (.iconst 0, 1) := by decide +kernel
theorem dX2_init_36 : decode cX2_init 36 = .ok (.putfield 24, 3) := by decide +kernel
theorem dX2_init_39 : decode cX2_init 39 = .ok (.aload_n 0, 1) := by decide +kernel
theorem dX2_init_40 : decode cX2_init 40 = .ok (.bipush 72, 2) := by decide +kernel
theorem dX2_init_42 : decode cX2_init 42 = .ok (.newarray .int, 2) := by decide +kernel
theorem dX2_init_44 : decode cX2_init 44 = .ok (.putfield 28, 3) := by decide +kernel
theorem dX2_init_47 : decode cX2_init 47 = .ok (.aload_n 0, 1) := by decide +kernel
theorem dX2_init_48 : decode cX2_init 48 = .ok (.iconst 0, 1) := by decide +kernel
theorem dX2_init_49 : decode cX2_init 49 = .ok (.putfield 31, 3) := by decide +kernel
theorem dX2_init_52 : decode cX2_init 52 = .ok (.aload_n 0, 1) := by decide +kernel
theorem dX2_init_53 : decode cX2_init 53 = .ok (.iconst 0, 1) := by decide +kernel
theorem dX2_init_54 : decode cX2_init 54 = .ok (.putfield 34, 3) := by decide +kernel
theorem dX2_init_57 : decode cX2_init 57 = .ok (.aload_n 0, 1) := by decide +kernel
theorem dX2_init_58 : decode cX2_init 58 = .ok (.iconst 0, 1) := by decide +kernel
theorem dX2_init_59 : decode cX2_init 59 = .ok (.putfield 37, 3) := by decide +kernel
theorem dX2_init_62 : decode cX2_init 62 = .ok (.aload_n 0, 1) := by decide +kernel
theorem dX2_init_63 : decode cX2_init 63 = .ok (.iconst 1, 1) := by decide +kernel
theorem dX2_init_64 : decode cX2_init 64 = .ok (.putfield 40, 3) := by decide +kernel
theorem dX2_init_67 : decode cX2_init 67 = .ok (.return_, 1) := by decide +kernel
theorem dX2_clear_0 : decode cX2_clear 0 = .ok (.aload_n 0, 1) := by decide +kernel
theorem dX2_clear_1 : decode cX2_clear 1 = .ok (.iconst 0, 1) := by decide +kernel
theorem dX2_clear_2 : decode cX2_clear 2 = .ok (.putfield 24, 3) := by decide +kernel
theorem dX2_clear_5 : decode cX2_clear 5 = .ok (.aload_n 0, 1) := by decide +kernel
theorem dX2_clear_6 : decode cX2_clear 6 = .ok (.iconst 0, 1) := by decide +kernel
theorem dX2_clear_7 : decode cX2_clear 7 = .ok (.putfield 37, 3) := by decide +kernel
theorem dX2_clear_10 : decode cX2_clear 10 = .ok (.aload_n 0, 1) := by decide +kernel
theorem dX2_clear_11 : decode cX2_clear 11 = .ok (.getfield 18, 3) := by decide +kernel
theorem dX2_clear_14 : decode cX2_clear 14 = .ok (.iconst 0, 1) := by decide +kernel
theorem dX2_clear_15 : decode cX2_clear 15 = .ok (.invokestatic 44, 3) := by decide +kernel
theorem dX2_clear_18 : decode cX2_clear 18 = .ok (.aload_n 0, 1) := by decide +kernel
theorem dX2_clear_19 : decode cX2_clear 19 = .ok (.getfield 21, 3) := by decide +kernel
theorem dX2_clear_22 : decode cX2_clear 22 = .ok (.iconst 0, 1) := by decide +kernel
theorem dX2_clear_23 : decode cX2_clear 23 = .ok (.invokestatic 44, 3) := by decide +kernel
theorem dX2_clear_26 : decode cX2_clear 26 = .ok (.return_, 1) := by decide +kernel
theorem dX2_hold_0 : decode cX2_hold 0 = .ok (.aload_n 0, 1) := by decide +kernel
theorem dX2_hold_1 : decode cX2_hold 1 = .ok (.getfield 31, 3) := by decide +kernel
theorem dX2_hold_4 : decode cX2_hold 4 = .ok (.aload_n 0, 1) := by decide +kernel
theorem dX2_hold_5 : decode cX2_hold 5 = .ok (.getfield 28, 3) := by decide +kernel
theorem dX2_hold_8 : decode cX2_hold 8 = .ok (.arraylength, 1) := by decide +kernel
theorem dX2_hold_9 : decode cX2_hold 9 = .ok (.if_icmp .ge 23, 3) := by decide +kernel
theorem dX2_hold_12 : decode cX2_hold 12 = .ok (.aload_n 0, 1) := by decide +kernel
theorem dX2_hold_13 : decode cX2_hold 13 = .ok (.getfield 28, 3) := by decide +kernel
theorem dX2_hold_16 : decode cX2_hold 16 = .ok (.aload_n 0, 1) := by decide +kernel
theorem dX2_hold_17 : decode cX2_hold 17 = .ok (.getfield 31, 3) := by decide +kernel
theorem dX2_hold_20 : decode cX2_hold 20 = .ok (.iload_n 1, 1) := by decide +kernel
theorem dX2_hold_21 : decode cX2_hold 21 = .ok (.iastore, 1) := by decide +kernel
theorem dX2_hold_22 : decode cX2_hold 22 = .ok (.aload_n 0, 1) := by decide +kernel
theorem dX2_hold_23 : decode cX2_hold 23 = .ok (.dup, 1) := by decide +kernel
theorem dX2_hold_24 : decode cX2_hold 24 = .ok (.getfield 31, 3) := by decide +kernel
theorem dX2_hold_27 : decode cX2_hold 27 = .ok (.iconst 1, 1) := by decide +kernel
theorem dX2_hold_28 : decode cX2_hold 28 = .ok (.iadd, 1) := by decide +kernel
theorem dX2_hold_29 : decode cX2_hold 29 = .ok (.putfield 31, 3) := by decide +kernel
theorem dX2_hold_32 : decode cX2_hold 32 = .ok (.iload_n 1, 1) := by decide +kernel
theorem dX2_hold_33 : decode cX2_hold 33 = .ok (.iconst 5, 1) := by decide +kernel
theorem dX2_hold_34 : decode cX2_hold 34 = .ok (.if_icmp .ne 13, 3) := by decide +kernel
theorem dX2_hold_37 : decode cX2_hold 37 = .ok (.aload_n 0, 1) := by decide +kernel
theorem dX2_hold_38 : decode cX2_hold 38 = .ok (.dup, 1) := by decide +kernel
theorem dX2_hold_39 : decode cX2_hold 39 = .ok (.getfield 34, 3) := by decide +kernel
theorem dX2_hold_42 : decode cX2_hold 42 = .ok (.iconst 1, 1) := by decide +kernel
theorem dX2_hold_43 : decode cX2_hold 43 = .ok (.iadd, 1) := by decide +kernel
theorem dX2_hold_44 : decode cX2_hold 44 = .ok (.putfield 34, 3) := by decide +kernel
theorem dX2_hold_47 : decode cX2_hold 47 = .ok (.iconst 1, 1) := by decide +kernel
theorem dX2_hold_48 : decode cX2_hold 48 = .ok (.ireturn, 1) := by decide +kernel
theorem dX2_isRoom_0 : decode cX2_isRoom 0 = .ok (.aload_n 0, 1) := by decide +kernel
theorem dX2_isRoom_1 : decode cX2_isRoom 1 = .ok (.getfield 37, 3) := by decide +kernel
theorem dX2_isRoom_4 : decode cX2_isRoom 4 = .ok (.bipush 64, 2) := by decide +kernel
theorem dX2_isRoom_6 : decode cX2_isRoom 6 = .ok (.if_icmp .lt 9, 3) := by decide +kernel
theorem dX2_isRoom_9 : decode cX2_isRoom 9 = .ok (.aload_n 1, 1) := by decide +kernel
theorem dX2_isRoom_10 : decode cX2_isRoom 10 = .ok (.iconst 2, 1) := by decide +kernel
theorem dX2_isRoom_11 : decode cX2_isRoom 11 = .ok (.invokevirtual 79, 3) := by decide +kernel
theorem dX2_isRoom_14 : decode cX2_isRoom 14 = .ok (.ireturn, 1) := by decide +kernel
theorem dX2_isRoom_15 : decode cX2_isRoom 15 = .ok (.aload_n 0, 1) := by decide +kernel
theorem dX2_isRoom_16 : decode cX2_isRoom 16 = .ok (.dup, 1) := by decide +kernel
theorem dX2_isRoom_17 : decode cX2_isRoom 17 = .ok (.getfield 37, 3) := by decide +kernel
theorem dX2_isRoom_20 : decode cX2_isRoom 20 = .ok (.iconst 1, 1) := by decide +kernel
theorem dX2_isRoom_21 : decode cX2_isRoom 21 = .ok (.iadd, 1) := by decide +kernel
theorem dX2_isRoom_22 : decode cX2_isRoom 22 = .ok (.putfield 37, 3) := by decide +kernel
theorem dX2_isRoom_25 : decode cX2_isRoom 25 = .ok (.iconst 1, 1) := by decide +kernel
theorem dX2_isRoom_26 : decode cX2_isRoom 26 = .ok (.ireturn, 1) := by decide +kernel
theorem dX2_isTold_0 : decode cX2_isTold 0 = .ok (.aload_n 0, 1) := by decide +kernel
theorem dX2_isTold_1 : decode cX2_isTold 1 = .ok (.getfield 21, 3) := by decide +kernel
theorem dX2_isTold_4 : decode cX2_isTold 4 = .ok (.iload_n 1, 1) := by decide +kernel
theorem dX2_isTold_5 : decode cX2_isTold 5 = .ok (.iaload, 1) := by decide +kernel
theorem dX2_isTold_6 : decode cX2_isTold 6 = .ok (.aload_n 0, 1) := by decide +kernel
theorem dX2_isTold_7 : decode cX2_isTold 7 = .ok (.getfield 18, 3) := by decide +kernel
theorem dX2_isTold_10 : decode cX2_isTold 10 = .ok (.iload_n 1, 1) := by decide +kernel
theorem dX2_isTold_11 : decode cX2_isTold 11 = .ok (.iaload, 1) := by decide +kernel
theorem dX2_isTold_12 : decode cX2_isTold 12 = .ok (.if_icmp .le 7, 3) := by decide +kernel
theorem dX2_isTold_15 : decode cX2_isTold 15 = .ok (.iconst 1, 1) := by decide +kernel
theorem dX2_isTold_16 : decode cX2_isTold 16 = .ok (.goto 4, 3) := by decide +kernel
theorem dX2_isTold_19 : decode cX2_isTold 19 = .ok (.iconst 0, 1) := by decide +kernel
theorem dX2_isTold_20 : decode cX2_isTold 20 = .ok (.ireturn, 1) := by decide +kernel
theorem dX2_levelOf_0 : decode cX2_levelOf 0 = .ok (.iload_n 0, 1) := by decide +kernel
theorem dX2_levelOf_1 : decode cX2_levelOf 1 = .ok (.tableswitch 106 13 32 #[101, 101, 103, 103, 106, 106, 106, 106, 106, 106, 106, 106, 106, 106, 106, 106, 106, 95, 97, 99], 95) := by decide +kernel
theorem dX2_levelOf_96 : decode cX2_levelOf 96 = .ok (.iconst 1, 1) := by decide +kernel
theorem dX2_levelOf_97 : decode cX2_levelOf 97 = .ok (.ireturn, 1) := by decide +kernel
theorem dX2_levelOf_98 : decode cX2_levelOf 98 = .ok (.iconst 2, 1) := by decide +kernel
theorem dX2_levelOf_99 : decode cX2_levelOf 99 = .ok (.ireturn, 1) := by decide +kernel
theorem dX2_levelOf_100 : decode cX2_levelOf 100 = .ok (.iconst 3, 1) := by decide +kernel
theorem dX2_levelOf_101 : decode cX2_levelOf 101 = .ok (.ireturn, 1) := by decide +kernel
theorem dX2_levelOf_102 : decode cX2_levelOf 102 = .ok (.iconst 5, 1) := by decide +kernel
theorem dX2_levelOf_103 : decode cX2_levelOf 103 = .ok (.ireturn, 1) := by decide +kernel
theorem dX2_levelOf_104 : decode cX2_levelOf 104 = .ok (.bipush 6, 2) := by decide +kernel
theorem dX2_levelOf_106 : decode cX2_levelOf 106 = .ok (.ireturn, 1) := by decide +kernel
theorem dX2_levelOf_107 : decode cX2_levelOf 107 = .ok (.iload_n 0, 1) := by decide +kernel
theorem dX2_levelOf_108 : decode cX2_levelOf 108 = .ok (.bipush 7, 2) := by decide +kernel
theorem dX2_levelOf_110 : decode cX2_levelOf 110 = .ok (.if_icmp .lt 13, 3) := by decide +kernel
theorem dX2_levelOf_113 : decode cX2_levelOf 113 = .ok (.iload_n 0, 1) := by decide +kernel
theorem dX2_levelOf_114 : decode cX2_levelOf 114 = .ok (.bipush 12, 2) := by decide +kernel
theorem dX2_levelOf_116 : decode cX2_levelOf 116 = .ok (.if_icmp .gt 7, 3) := by decide +kernel
theorem dX2_levelOf_119 : decode cX2_levelOf 119 = .ok (.iconst 4, 1) := by decide +kernel
theorem dX2_levelOf_120 : decode cX2_levelOf 120 = .ok (.goto 4, 3) := by decide +kernel
theorem dX2_levelOf_123 : decode cX2_levelOf 123 = .ok (.iconst 0, 1) := by decide +kernel
theorem dX2_levelOf_124 : decode cX2_levelOf 124 = .ok (.ireturn, 1) := by decide +kernel
theorem dX2_put_0 : decode cX2_put 0 = .ok (.aload_n 0, 1) := by decide +kernel
theorem dX2_put_1 : decode cX2_put 1 = .ok (.getfield 24, 3) := by decide +kernel
theorem dX2_put_4 : decode cX2_put 4 = .ok (.bipush 64, 2) := by decide +kernel
theorem dX2_put_6 : decode cX2_put 6 = .ok (.if_icmp .ge 33, 3) := by decide +kernel
theorem dX2_put_9 : decode cX2_put 9 = .ok (.aload_n 0, 1) := by decide +kernel
theorem dX2_put_10 : decode cX2_put 10 = .ok (.getfield 9, 3) := by decide +kernel
theorem dX2_put_13 : decode cX2_put 13 = .ok (.aload_n 0, 1) := by decide +kernel
theorem dX2_put_14 : decode cX2_put 14 = .ok (.getfield 24, 3) := by decide +kernel
theorem dX2_put_17 : decode cX2_put 17 = .ok (.iload_n 1, 1) := by decide +kernel
theorem dX2_put_18 : decode cX2_put 18 = .ok (.iastore, 1) := by decide +kernel
theorem dX2_put_19 : decode cX2_put 19 = .ok (.aload_n 0, 1) := by decide +kernel
theorem dX2_put_20 : decode cX2_put 20 = .ok (.getfield 15, 3) := by decide +kernel
theorem dX2_put_23 : decode cX2_put 23 = .ok (.aload_n 0, 1) := by decide +kernel
theorem dX2_put_24 : decode cX2_put 24 = .ok (.getfield 24, 3) := by decide +kernel
theorem dX2_put_27 : decode cX2_put 27 = .ok (.iload_n 2, 1) := by decide +kernel
theorem dX2_put_28 : decode cX2_put 28 = .ok (.iastore, 1) := by decide +kernel
theorem dX2_put_29 : decode cX2_put 29 = .ok (.aload_n 0, 1) := by decide +kernel
theorem dX2_put_30 : decode cX2_put 30 = .ok (.dup, 1) := by decide +kernel
theorem dX2_put_31 : decode cX2_put 31 = .ok (.getfield 24, 3) := by decide +kernel
theorem dX2_put_34 : decode cX2_put 34 = .ok (.iconst 1, 1) := by decide +kernel
theorem dX2_put_35 : decode cX2_put 35 = .ok (.iadd, 1) := by decide +kernel
theorem dX2_put_36 : decode cX2_put 36 = .ok (.putfield 24, 3) := by decide +kernel
theorem dX2_put_39 : decode cX2_put 39 = .ok (.iconst 1, 1) := by decide +kernel
theorem dX2_put_40 : decode cX2_put 40 = .ok (.ireturn, 1) := by decide +kernel
theorem dX2_readSign_0 : decode cX2_readSign 0 = .ok (.aload_n 1, 1) := by decide +kernel
theorem dX2_readSign_1 : decode cX2_readSign 1 = .ok (.getfield 72, 3) := by decide +kernel
theorem dX2_readSign_4 : decode cX2_readSign 4 = .ok (.istore_n 2, 1) := by decide +kernel
theorem dX2_readSign_5 : decode cX2_readSign 5 = .ok (.iload_n 2, 1) := by decide +kernel
theorem dX2_readSign_6 : decode cX2_readSign 6 = .ok (.bipush 6, 2) := by decide +kernel
theorem dX2_readSign_8 : decode cX2_readSign 8 = .ok (.if_icmp .ne 37, 3) := by decide +kernel
theorem dX2_readSign_11 : decode cX2_readSign 11 = .ok (.aload_n 0, 1) := by decide +kernel
theorem dX2_readSign_12 : decode cX2_readSign 12 = .ok (.getfield 34, 3) := by decide +kernel
theorem dX2_readSign_15 : decode cX2_readSign 15 = .ok (.ifCond .le 30, 3) := by decide +kernel
theorem dX2_readSign_18 : decode cX2_readSign 18 = .ok (.aload_n 0, 1) := by decide +kernel
theorem dX2_readSign_19 : decode cX2_readSign 19 = .ok (.iconst 1, 1) := by decide +kernel
theorem dX2_readSign_20 : decode cX2_readSign 20 = .ok (.invokevirtual 68, 3) := by decide +kernel
theorem dX2_readSign_23 : decode cX2_readSign 23 = .ok (.aload_n 0, 1) := by decide +kernel
theorem dX2_readSign_24 : decode cX2_readSign 24 = .ok (.dup, 1) := by decide +kernel
theorem dX2_readSign_25 : decode cX2_readSign 25 = .ok (.getfield 31, 3) := by decide +kernel
theorem dX2_readSign_28 : decode cX2_readSign 28 = .ok (.iconst 1, 1) := by decide +kernel
theorem dX2_readSign_29 : decode cX2_readSign 29 = .ok (.isub, 1) := by decide +kernel
theorem dX2_readSign_30 : decode cX2_readSign 30 = .ok (.putfield 31, 3) := by decide +kernel
theorem dX2_readSign_33 : decode cX2_readSign 33 = .ok (.aload_n 0, 1) := by decide +kernel
theorem dX2_readSign_34 : decode cX2_readSign 34 = .ok (.dup, 1) := by decide +kernel
theorem dX2_readSign_35 : decode cX2_readSign 35 = .ok (.getfield 34, 3) := by decide +kernel
theorem dX2_readSign_38 : decode cX2_readSign 38 = .ok (.iconst 1, 1) := by decide +kernel
theorem dX2_readSign_39 : decode cX2_readSign 39 = .ok (.isub, 1) := by decide +kernel
theorem dX2_readSign_40 : decode cX2_readSign 40 = .ok (.putfield 34, 3) := by decide +kernel
theorem dX2_readSign_43 : decode cX2_readSign 43 = .ok (.iconst 1, 1) := by decide +kernel
theorem dX2_readSign_44 : decode cX2_readSign 44 = .ok (.ireturn, 1) := by decide +kernel
theorem dX2_readSign_45 : decode cX2_readSign 45 = .ok (.iload_n 2, 1) := by decide +kernel
theorem dX2_readSign_46 : decode cX2_readSign 46 = .ok (.invokestatic 96, 3) := by decide +kernel
theorem dX2_readSign_49 : decode cX2_readSign 49 = .ok (.istore_n 3, 1) := by decide +kernel
theorem dX2_readSign_50 : decode cX2_readSign 50 = .ok (.iload_n 3, 1) := by decide +kernel
theorem dX2_readSign_51 : decode cX2_readSign 51 = .ok (.ifCond .eq 8, 3) := by decide +kernel
theorem dX2_readSign_54 : decode cX2_readSign 54 = .ok (.iload_n 3, 1) := by decide +kernel
theorem dX2_readSign_55 : decode cX2_readSign 55 = .ok (.iconst 3, 1) := by decide +kernel
theorem dX2_readSign_56 : decode cX2_readSign 56 = .ok (.if_icmp .ne 24, 3) := by decide +kernel
theorem dX2_readSign_59 : decode cX2_readSign 59 = .ok (.aload_n 0, 1) := by decide +kernel
theorem dX2_readSign_60 : decode cX2_readSign 60 = .ok (.getfield 34, 3) := by decide +kernel
theorem dX2_readSign_63 : decode cX2_readSign 63 = .ok (.ifCond .le 15, 3) := by decide +kernel
theorem dX2_readSign_66 : decode cX2_readSign 66 = .ok (.aload_n 1, 1) := by decide +kernel
theorem dX2_readSign_67 : decode cX2_readSign 67 = .ok (.iconst 1, 1) := by decide +kernel
theorem dX2_readSign_68 : decode cX2_readSign 68 = .ok (.invokevirtual 79, 3) := by decide +kernel
theorem dX2_readSign_71 : decode cX2_readSign 71 = .ok (.ifCond .eq 7, 3) := by decide +kernel
theorem dX2_readSign_74 : decode cX2_readSign 74 = .ok (.iconst 1, 1) := by decide +kernel
theorem dX2_readSign_75 : decode cX2_readSign 75 = .ok (.goto 4, 3) := by decide +kernel
theorem dX2_readSign_78 : decode cX2_readSign 78 = .ok (.iconst 0, 1) := by decide +kernel
theorem dX2_readSign_79 : decode cX2_readSign 79 = .ok (.ireturn, 1) := by decide +kernel
theorem dX2_readSign_80 : decode cX2_readSign 80 = .ok (.aload_n 0, 1) := by decide +kernel
theorem dX2_readSign_81 : decode cX2_readSign 81 = .ok (.iload_n 3, 1) := by decide +kernel
theorem dX2_readSign_82 : decode cX2_readSign 82 = .ok (.iconst 4, 1) := by decide +kernel
theorem dX2_readSign_83 : decode cX2_readSign 83 = .ok (.if_icmp .ne 7, 3) := by decide +kernel
theorem dX2_readSign_86 : decode cX2_readSign 86 = .ok (.iconst 5, 1) := by decide +kernel
theorem dX2_readSign_87 : decode cX2_readSign 87 = .ok (.goto 4, 3) := by decide +kernel
theorem dX2_readSign_90 : decode cX2_readSign 90 = .ok (.iload_n 3, 1) := by decide +kernel
theorem dX2_readSign_91 : decode cX2_readSign 91 = .ok (.invokevirtual 68, 3) := by decide +kernel
theorem dX2_readSign_94 : decode cX2_readSign 94 = .ok (.iload_n 3, 1) := by decide +kernel
theorem dX2_readSign_95 : decode cX2_readSign 95 = .ok (.iconst 4, 1) := by decide +kernel
theorem dX2_readSign_96 : decode cX2_readSign 96 = .ok (.if_icmp .ne 17, 3) := by decide +kernel
theorem dX2_readSign_99 : decode cX2_readSign 99 = .ok (.aload_n 0, 1) := by decide +kernel
theorem dX2_readSign_100 : decode cX2_readSign 100 = .ok (.invokevirtual 82, 3) := by decide +kernel
theorem dX2_readSign_103 : decode cX2_readSign 103 = .ok (.iconst 4, 1) := by decide +kernel
theorem dX2_readSign_104 : decode cX2_readSign 104 = .ok (.if_icmp .ne 9, 3) := by decide +kernel
theorem dX2_readSign_107 : decode cX2_readSign 107 = .ok (.aload_n 1, 1) := by decide +kernel
theorem dX2_readSign_108 : decode cX2_readSign 108 = .ok (.iconst 1, 1) := by decide +kernel
theorem dX2_readSign_109 : decode cX2_readSign 109 = .ok (.invokevirtual 79, 3) := by decide +kernel
theorem dX2_readSign_112 : decode cX2_readSign 112 = .ok (.ireturn, 1) := by decide +kernel
theorem dX2_readSign_113 : decode cX2_readSign 113 = .ok (.aload_n 0, 1) := by decide +kernel
theorem dX2_readSign_114 : decode cX2_readSign 114 = .ok (.iconst 1, 1) := by decide +kernel
theorem dX2_readSign_115 : decode cX2_readSign 115 = .ok (.putfield 40, 3) := by decide +kernel
theorem dX2_readSign_118 : decode cX2_readSign 118 = .ok (.aload_n 0, 1) := by decide +kernel
theorem dX2_readSign_119 : decode cX2_readSign 119 = .ok (.aload_n 1, 1) := by decide +kernel
theorem dX2_readSign_120 : decode cX2_readSign 120 = .ok (.invokevirtual 86, 3) := by decide +kernel
theorem dX2_readSign_123 : decode cX2_readSign 123 = .ok (.ifCond .eq 15, 3) := by decide +kernel
theorem dX2_readSign_126 : decode cX2_readSign 126 = .ok (.aload_n 0, 1) := by decide +kernel
theorem dX2_readSign_127 : decode cX2_readSign 127 = .ok (.iload_n 2, 1) := by decide +kernel
theorem dX2_readSign_128 : decode cX2_readSign 128 = .ok (.invokevirtual 75, 3) := by decide +kernel
theorem dX2_readSign_131 : decode cX2_readSign 131 = .ok (.ifCond .eq 7, 3) := by decide +kernel
theorem dX2_readSign_134 : decode cX2_readSign 134 = .ok (.iconst 1, 1) := by decide +kernel
theorem dX2_readSign_135 : decode cX2_readSign 135 = .ok (.goto 4, 3) := by decide +kernel
theorem dX2_readSign_138 : decode cX2_readSign 138 = .ok (.iconst 0, 1) := by decide +kernel
theorem dX2_readSign_139 : decode cX2_readSign 139 = .ok (.ireturn, 1) := by decide +kernel
theorem dX2_readValue_0 : decode cX2_readValue 0 = .ok (.aload_n 1, 1) := by decide +kernel
theorem dX2_readValue_1 : decode cX2_readValue 1 = .ok (.getfield 72, 3) := by decide +kernel
theorem dX2_readValue_4 : decode cX2_readValue 4 = .ok (.istore_n 2, 1) := by decide +kernel
theorem dX2_readValue_5 : decode cX2_readValue 5 = .ok (.iload_n 2, 1) := by decide +kernel
theorem dX2_readValue_6 : decode cX2_readValue 6 = .ok (.iconst 5, 1) := by decide +kernel
theorem dX2_readValue_7 : decode cX2_readValue 7 = .ok (.if_icmp .ne 26, 3) := by decide +kernel
theorem dX2_readValue_10 : decode cX2_readValue 10 = .ok (.aload_n 0, 1) := by decide +kernel
theorem dX2_readValue_11 : decode cX2_readValue 11 = .ok (.getfield 34, 3) := by decide +kernel
theorem dX2_readValue_14 : decode cX2_readValue 14 = .ok (.bipush 8, 2) := by decide +kernel
theorem dX2_readValue_16 : decode cX2_readValue 16 = .ok (.if_icmp .ge 11, 3) := by decide +kernel
theorem dX2_readValue_19 : decode cX2_readValue 19 = .ok (.aload_n 0, 1) := by decide +kernel
theorem dX2_readValue_20 : decode cX2_readValue 20 = .ok (.iload_n 2, 1) := by decide +kernel
theorem dX2_readValue_21 : decode cX2_readValue 21 = .ok (.invokevirtual 75, 3) := by decide +kernel
theorem dX2_readValue_24 : decode cX2_readValue 24 = .ok (.goto 8, 3) := by decide +kernel
theorem dX2_readValue_27 : decode cX2_readValue 27 = .ok (.aload_n 1, 1) := by decide +kernel
theorem dX2_readValue_28 : decode cX2_readValue 28 = .ok (.iconst 2, 1) := by decide +kernel
theorem dX2_readValue_29 : decode cX2_readValue 29 = .ok (.invokevirtual 79, 3) := by decide +kernel
theorem dX2_readValue_32 : decode cX2_readValue 32 = .ok (.ireturn, 1) := by decide +kernel
theorem dX2_readValue_33 : decode cX2_readValue 33 = .ok (.iload_n 2, 1) := by decide +kernel
theorem dX2_readValue_34 : decode cX2_readValue 34 = .ok (.bipush 32, 2) := by decide +kernel
theorem dX2_readValue_36 : decode cX2_readValue 36 = .ok (.if_icmp .ne 33, 3) := by decide +kernel
theorem dX2_readValue_39 : decode cX2_readValue 39 = .ok (.aload_n 0, 1) := by decide +kernel
theorem dX2_readValue_40 : decode cX2_readValue 40 = .ok (.invokevirtual 82, 3) := by decide +kernel
theorem dX2_readValue_43 : decode cX2_readValue 43 = .ok (.iconst 3, 1) := by decide +kernel
theorem dX2_readValue_44 : decode cX2_readValue 44 = .ok (.if_icmp .gt 25, 3) := by decide +kernel
theorem dX2_readValue_47 : decode cX2_readValue 47 = .ok (.aload_n 0, 1) := by decide +kernel
theorem dX2_readValue_48 : decode cX2_readValue 48 = .ok (.aload_n 1, 1) := by decide +kernel
theorem dX2_readValue_49 : decode cX2_readValue 49 = .ok (.invokevirtual 86, 3) := by decide +kernel
theorem dX2_readValue_52 : decode cX2_readValue 52 = .ok (.ifCond .eq 15, 3) := by decide +kernel
theorem dX2_readValue_55 : decode cX2_readValue 55 = .ok (.aload_n 0, 1) := by decide +kernel
theorem dX2_readValue_56 : decode cX2_readValue 56 = .ok (.iload_n 2, 1) := by decide +kernel
theorem dX2_readValue_57 : decode cX2_readValue 57 = .ok (.invokevirtual 75, 3) := by decide +kernel
theorem dX2_readValue_60 : decode cX2_readValue 60 = .ok (.ifCond .eq 7, 3) := by decide +kernel
theorem dX2_readValue_63 : decode cX2_readValue 63 = .ok (.iconst 1, 1) := by decide +kernel
theorem dX2_readValue_64 : decode cX2_readValue 64 = .ok (.goto 4, 3) := by decide +kernel
theorem dX2_readValue_67 : decode cX2_readValue 67 = .ok (.iconst 0, 1) := by decide +kernel
theorem dX2_readValue_68 : decode cX2_readValue 68 = .ok (.ireturn, 1) := by decide +kernel
theorem dX2_readValue_69 : decode cX2_readValue 69 = .ok (.iload_n 2, 1) := by decide +kernel
theorem dX2_readValue_70 : decode cX2_readValue 70 = .ok (.iconst 2, 1) := by decide +kernel
theorem dX2_readValue_71 : decode cX2_readValue 71 = .ok (.if_icmp .eq 21, 3) := by decide +kernel
theorem dX2_readValue_74 : decode cX2_readValue 74 = .ok (.iload_n 2, 1) := by decide +kernel
theorem dX2_readValue_75 : decode cX2_readValue 75 = .ok (.bipush 33, 2) := by decide +kernel
theorem dX2_readValue_77 : decode cX2_readValue 77 = .ok (.if_icmp .lt 9, 3) := by decide +kernel
theorem dX2_readValue_80 : decode cX2_readValue 80 = .ok (.iload_n 2, 1) := by decide +kernel
theorem dX2_readValue_81 : decode cX2_readValue 81 = .ok (.bipush 39, 2) := by decide +kernel
theorem dX2_readValue_83 : decode cX2_readValue 83 = .ok (.if_icmp .le 9, 3) := by decide +kernel
theorem dX2_readValue_86 : decode cX2_readValue 86 = .ok (.aload_n 1, 1) := by decide +kernel
theorem dX2_readValue_87 : decode cX2_readValue 87 = .ok (.iconst 1, 1) := by decide +kernel
theorem dX2_readValue_88 : decode cX2_readValue 88 = .ok (.invokevirtual 79, 3) := by decide +kernel
theorem dX2_readValue_91 : decode cX2_readValue 91 = .ok (.ireturn, 1) := by decide +kernel
theorem dX2_readValue_92 : decode cX2_readValue 92 = .ok (.aload_n 1, 1) := by decide +kernel
theorem dX2_readValue_93 : decode cX2_readValue 93 = .ok (.getfield 89, 3) := by decide +kernel
theorem dX2_readValue_96 : decode cX2_readValue 96 = .ok (.sipush 9999, 3) := by decide +kernel
theorem dX2_readValue_99 : decode cX2_readValue 99 = .ok (.if_icmp .le 14, 3) := by decide +kernel
theorem dX2_readValue_102 : decode cX2_readValue 102 = .ok (.iload_n 2, 1) := by decide +kernel
theorem dX2_readValue_103 : decode cX2_readValue 103 = .ok (.iconst 2, 1) := by decide +kernel
theorem dX2_readValue_104 : decode cX2_readValue 104 = .ok (.if_icmp .ne 9, 3) := by decide +kernel
theorem dX2_readValue_107 : decode cX2_readValue 107 = .ok (.aload_n 1, 1) := by decide +kernel
theorem dX2_readValue_108 : decode cX2_readValue 108 = .ok (.iconst 2, 1) := by decide +kernel
theorem dX2_readValue_109 : decode cX2_readValue 109 = .ok (.invokevirtual 79, 3) := by decide +kernel
theorem dX2_readValue_112 : decode cX2_readValue 112 = .ok (.ireturn, 1) := by decide +kernel
theorem dX2_readValue_113 : decode cX2_readValue 113 = .ok (.aload_n 0, 1) := by decide +kernel
theorem dX2_readValue_114 : decode cX2_readValue 114 = .ok (.iconst 0, 1) := by decide +kernel
theorem dX2_readValue_115 : decode cX2_readValue 115 = .ok (.putfield 40, 3) := by decide +kernel
theorem dX2_readValue_118 : decode cX2_readValue 118 = .ok (.aload_n 0, 1) := by decide +kernel
theorem dX2_readValue_119 : decode cX2_readValue 119 = .ok (.aload_n 1, 1) := by decide +kernel
theorem dX2_readValue_120 : decode cX2_readValue 120 = .ok (.invokevirtual 86, 3) := by decide +kernel
theorem dX2_readValue_123 : decode cX2_readValue 123 = .ok (.ifCond .eq 19, 3) := by decide +kernel
theorem dX2_readValue_126 : decode cX2_readValue 126 = .ok (.aload_n 0, 1) := by decide +kernel
theorem dX2_readValue_127 : decode cX2_readValue 127 = .ok (.iload_n 2, 1) := by decide +kernel
theorem dX2_readValue_128 : decode cX2_readValue 128 = .ok (.aload_n 1, 1) := by decide +kernel
theorem dX2_readValue_129 : decode cX2_readValue 129 = .ok (.getfield 89, 3) := by decide +kernel
theorem dX2_readValue_132 : decode cX2_readValue 132 = .ok (.invokevirtual 92, 3) := by decide +kernel
theorem dX2_readValue_135 : decode cX2_readValue 135 = .ok (.ifCond .eq 7, 3) := by decide +kernel
theorem dX2_readValue_138 : decode cX2_readValue 138 = .ok (.iconst 1, 1) := by decide +kernel
theorem dX2_readValue_139 : decode cX2_readValue 139 = .ok (.goto 4, 3) := by decide +kernel
theorem dX2_readValue_142 : decode cX2_readValue 142 = .ok (.iconst 0, 1) := by decide +kernel
theorem dX2_readValue_143 : decode cX2_readValue 143 = .ok (.ireturn, 1) := by decide +kernel
theorem dX2_settle_0 : decode cX2_settle 0 = .ok (.aload_n 0, 1) := by decide +kernel
theorem dX2_settle_1 : decode cX2_settle 1 = .ok (.getfield 31, 3) := by decide +kernel
theorem dX2_settle_4 : decode cX2_settle 4 = .ok (.iconst 1, 1) := by decide +kernel
theorem dX2_settle_5 : decode cX2_settle 5 = .ok (.isub, 1) := by decide +kernel
theorem dX2_settle_6 : decode cX2_settle 6 = .ok (.istore_n 2, 1) := by decide +kernel
theorem dX2_settle_7 : decode cX2_settle 7 = .ok (.iload_n 2, 1) := by decide +kernel
theorem dX2_settle_8 : decode cX2_settle 8 = .ok (.ifCond .lt 39, 3) := by decide +kernel
theorem dX2_settle_11 : decode cX2_settle 11 = .ok (.aload_n 0, 1) := by decide +kernel
theorem dX2_settle_12 : decode cX2_settle 12 = .ok (.getfield 28, 3) := by decide +kernel
theorem dX2_settle_15 : decode cX2_settle 15 = .ok (.iload_n 2, 1) := by decide +kernel
theorem dX2_settle_16 : decode cX2_settle 16 = .ok (.iaload, 1) := by decide +kernel
theorem dX2_settle_17 : decode cX2_settle 17 = .ok (.invokestatic 96, 3) := by decide +kernel
theorem dX2_settle_20 : decode cX2_settle 20 = .ok (.iload_n 1, 1) := by decide +kernel
theorem dX2_settle_21 : decode cX2_settle 21 = .ok (.if_icmp .lt 26, 3) := by decide +kernel
theorem dX2_settle_24 : decode cX2_settle 24 = .ok (.aload_n 0, 1) := by decide +kernel
theorem dX2_settle_25 : decode cX2_settle 25 = .ok (.aload_n 0, 1) := by decide +kernel
theorem dX2_settle_26 : decode cX2_settle 26 = .ok (.getfield 28, 3) := by decide +kernel
theorem dX2_settle_29 : decode cX2_settle 29 = .ok (.iload_n 2, 1) := by decide +kernel
theorem dX2_settle_30 : decode cX2_settle 30 = .ok (.iaload, 1) := by decide +kernel
theorem dX2_settle_31 : decode cX2_settle 31 = .ok (.iconst 0, 1) := by decide +kernel
theorem dX2_settle_32 : decode cX2_settle 32 = .ok (.invokevirtual 92, 3) := by decide +kernel
theorem dX2_settle_35 : decode cX2_settle 35 = .ok (.pop, 1) := by decide +kernel
theorem dX2_settle_36 : decode cX2_settle 36 = .ok (.aload_n 0, 1) := by decide +kernel
theorem dX2_settle_37 : decode cX2_settle 37 = .ok (.iload_n 2, 1) := by decide +kernel
theorem dX2_settle_38 : decode cX2_settle 38 = .ok (.putfield 31, 3) := by decide +kernel
